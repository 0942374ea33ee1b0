theorem d_X_tryDays_0 : decode prog_1_method_48_code 0 = .ok (.iconst 0, 1) := by decide +kernel
theorem d_X_tryDays_1 : decode prog_1_method_48_code 1 = .ok (.istore_n 2, 1) := by decide +kernel
theorem d_X_tryDays_2 : decode prog_1_method_48_code 2 = .ok (.iload_n 2, 1) := by decide +kernel
theorem d_X_tryDays_3 : decode prog_1_method_48_code 3 = .ok (.iload_n 1, 1) := by decide +kernel
theorem d_X_tryDays_4 : decode prog_1_method_48_code 4 = .ok (.if_icmp .ge 16, 3) := by decide +kernel
theorem d_X_tryDays_7 : decode prog_1_method_48_code 7 = .ok (.aload_n 0, 1) := by decide +kernel
theorem d_X_tryDays_8 : decode prog_1_method_48_code 8 = .ok (.getfield 19, 3) := by decide +kernel
theorem d_X_tryDays_11 : decode prog_1_method_48_code 11 = .ok (.invokevirtual 118, 3) := by decide +kernel
theorem d_X_tryDays_14 : decode prog_1_method_48_code 14 = .ok (.iinc 2 1, 3) := by decide +kernel
theorem d_X_tryDays_17 : decode prog_1_method_48_code 17 = .ok (.goto (-15), 3) := by decide +kernel
theorem d_X_tryDays_20 : decode prog_1_method_48_code 20 = .ok (.return_, 1) := by decide +kernel
theorem d_X_gotWith_0 : decode prog_1_method_49_code 0 = .ok (.aload_n 0, 1) := by decide +kernel
theorem d_X_gotWith_1 : decode prog_1_method_49_code 1 = .ok (.getfield 19, 3) := by decide +kernel
theorem d_X_gotWith_4 : decode prog_1_method_49_code 4 = .ok (.aload_n 0, 1) := by decide +kernel
theorem d_X_gotWith_5 : decode prog_1_method_49_code 5 = .ok (.getfield 12, 3) := by decide +kernel
theorem d_X_gotWith_8 : decode prog_1_method_49_code 8 = .ok (.invokevirtual 140, 3) := by decide +kernel
theorem d_X_gotWith_11 : decode prog_1_method_49_code 11 = .ok (.aload_n 0, 1) := by decide +kernel
theorem d_X_gotWith_12 : decode prog_1_method_49_code 12 = .ok (.getfield 19, 3) := by decide +kernel
theorem d_X_gotWith_15 : decode prog_1_method_49_code 15 = .ok (.getfield 100, 3) := by decide +kernel
theorem d_X_gotWith_18 : decode prog_1_method_49_code 18 = .ok (.iload_n 1, 1) := by decide +kernel
theorem d_X_gotWith_19 : decode prog_1_method_49_code 19 = .ok (.aaload, 1) := by decide +kernel
theorem d_X_gotWith_20 : decode prog_1_method_49_code 20 = .ok (.iload_n 2, 1) := by decide +kernel
theorem d_X_gotWith_21 : decode prog_1_method_49_code 21 = .ok (.iload_n 3, 1) := by decide +kernel
theorem d_X_gotWith_22 : decode prog_1_method_49_code 22 = .ok (.iastore, 1) := by decide +kernel
theorem d_X_gotWith_23 : decode prog_1_method_49_code 23 = .ok (.iconst 0, 1) := by decide +kernel
theorem d_X_gotWith_24 : decode prog_1_method_49_code 24 = .ok (.istore 5, 2) := by decide +kernel
theorem d_X_gotWith_26 : decode prog_1_method_49_code 26 = .ok (.iload 5, 2) := by decide +kernel
theorem d_X_gotWith_28 : decode prog_1_method_49_code 28 = .ok (.iload 4, 2) := by decide +kernel
theorem d_X_gotWith_30 : decode prog_1_method_49_code 30 = .ok (.if_icmp .ge 16, 3) := by decide +kernel
theorem d_X_gotWith_33 : decode prog_1_method_49_code 33 = .ok (.aload_n 0, 1) := by decide +kernel
theorem d_X_gotWith_34 : decode prog_1_method_49_code 34 = .ok (.getfield 19, 3) := by decide +kernel
theorem d_X_gotWith_37 : decode prog_1_method_49_code 37 = .ok (.invokevirtual 118, 3) := by decide +kernel
theorem d_X_gotWith_40 : decode prog_1_method_49_code 40 = .ok (.iinc 5 1, 3) := by decide +kernel
theorem d_X_gotWith_43 : decode prog_1_method_49_code 43 = .ok (.goto (-17), 3) := by decide +kernel
theorem d_X_gotWith_46 : decode prog_1_method_49_code 46 = .ok (.aload_n 0, 1) := by decide +kernel
theorem d_X_gotWith_47 : decode prog_1_method_49_code 47 = .ok (.getfield 19, 3) := by decide +kernel
theorem d_X_gotWith_50 : decode prog_1_method_49_code 50 = .ok (.getfield 100, 3) := by decide +kernel
theorem d_X_gotWith_53 : decode prog_1_method_49_code 53 = .ok (.iload_n 1, 1) := by decide +kernel
theorem d_X_gotWith_54 : decode prog_1_method_49_code 54 = .ok (.aaload, 1) := by decide +kernel
theorem d_X_gotWith_55 : decode prog_1_method_49_code 55 = .ok (.iconst 4, 1) := by decide +kernel
theorem d_X_gotWith_56 : decode prog_1_method_49_code 56 = .ok (.iaload, 1) := by decide +kernel
theorem d_X_gotWith_57 : decode prog_1_method_49_code 57 = .ok (.ireturn, 1) := by decide +kernel
theorem d_X_bestForGot_0 : decode prog_1_method_50_code 0 = .ok (.iconst 0, 1) := by decide +kernel
theorem d_X_bestForGot_1 : decode prog_1_method_50_code 1 = .ok (.istore 4, 2) := by decide +kernel
theorem d_X_bestForGot_3 : decode prog_1_method_50_code 3 = .ok (.iconst (-1), 1) := by decide +kernel
theorem d_X_bestForGot_4 : decode prog_1_method_50_code 4 = .ok (.istore 5, 2) := by decide +kernel
theorem d_X_bestForGot_6 : decode prog_1_method_50_code 6 = .ok (.iconst 0, 1) := by decide +kernel
theorem d_X_bestForGot_7 : decode prog_1_method_50_code 7 = .ok (.istore 6, 2) := by decide +kernel
theorem d_X_bestForGot_9 : decode prog_1_method_50_code 9 = .ok (.iload 6, 2) := by decide +kernel
theorem d_X_bestForGot_11 : decode prog_1_method_50_code 11 = .ok (.getstatic 106, 3) := by decide +kernel
theorem d_X_bestForGot_14 : decode prog_1_method_50_code 14 = .ok (.iload_n 2, 1) := by decide +kernel
theorem d_X_bestForGot_15 : decode prog_1_method_50_code 15 = .ok (.iaload, 1) := by decide +kernel
theorem d_X_bestForGot_16 : decode prog_1_method_50_code 16 = .ok (.if_icmp .gt 35, 3) := by decide +kernel
theorem d_X_bestForGot_19 : decode prog_1_method_50_code 19 = .ok (.aload_n 0, 1) := by decide +kernel
theorem d_X_bestForGot_20 : decode prog_1_method_50_code 20 = .ok (.iload_n 1, 1) := by decide +kernel
theorem d_X_bestForGot_21 : decode prog_1_method_50_code 21 = .ok (.iload_n 2, 1) := by decide +kernel
theorem d_X_bestForGot_22 : decode prog_1_method_50_code 22 = .ok (.iload 6, 2) := by decide +kernel
theorem d_X_bestForGot_24 : decode prog_1_method_50_code 24 = .ok (.iload_n 3, 1) := by decide +kernel
theorem d_X_bestForGot_25 : decode prog_1_method_50_code 25 = .ok (.invokevirtual 152, 3) := by decide +kernel
theorem d_X_bestForGot_28 : decode prog_1_method_50_code 28 = .ok (.istore 7, 2) := by decide +kernel
theorem d_X_bestForGot_30 : decode prog_1_method_50_code 30 = .ok (.iload 7, 2) := by decide +kernel
theorem d_X_bestForGot_32 : decode prog_1_method_50_code 32 = .ok (.iload 5, 2) := by decide +kernel
theorem d_X_bestForGot_34 : decode prog_1_method_50_code 34 = .ok (.if_icmp .le 11, 3) := by decide +kernel
theorem d_X_bestForGot_37 : decode prog_1_method_50_code 37 = .ok (.iload 6, 2) := by decide +kernel
theorem d_X_bestForGot_39 : decode prog_1_method_50_code 39 = .ok (.istore 4, 2) := by decide +kernel
theorem d_X_bestForGot_41 : decode prog_1_method_50_code 41 = .ok (.iload 7, 2) := by decide +kernel
theorem d_X_bestForGot_43 : decode prog_1_method_50_code 43 = .ok (.istore 5, 2) := by decide +kernel
theorem d_X_bestForGot_45 : decode prog_1_method_50_code 45 = .ok (.iinc 6 1, 3) := by decide +kernel
theorem d_X_bestForGot_48 : decode prog_1_method_50_code 48 = .ok (.goto (-39), 3) := by decide +kernel
theorem d_X_bestForGot_51 : decode prog_1_method_50_code 51 = .ok (.iload 4, 2) := by decide +kernel
theorem d_X_bestForGot_53 : decode prog_1_method_50_code 53 = .ok (.ireturn, 1) := by decide +kernel
theorem d_X_go_0 : decode prog_1_method_12_code 0 = .ok (.iload_n 1, 1) := by decide +kernel
theorem d_X_go_1 : decode prog_1_method_12_code 1 = .ok (.iconst 1, 1) := by decide +kernel
theorem d_X_go_2 : decode prog_1_method_12_code 2 = .ok (.bipush 60, 2) := by decide +kernel
theorem d_X_go_4 : decode prog_1_method_12_code 4 = .ok (.invokestatic 44, 3) := by decide +kernel
theorem d_X_go_7 : decode prog_1_method_12_code 7 = .ok (.ifCond .ne 10, 3) := by decide +kernel
theorem d_X_go_17 : decode prog_1_method_12_code 17 = .ok (.aload_n 0, 1) := by decide +kernel
theorem d_X_go_18 : decode prog_1_method_12_code 18 = .ok (.getfield 12, 3) := by decide +kernel
theorem d_X_go_21 : decode prog_1_method_12_code 21 = .ok (.getfield 87, 3) := by decide +kernel
theorem d_X_go_24 : decode prog_1_method_12_code 24 = .ok (.ldc 116, 2) := by decide +kernel
theorem d_X_go_26 : decode prog_1_method_12_code 26 = .ok (.iload_n 1, 1) := by decide +kernel
theorem d_X_go_27 : decode prog_1_method_12_code 27 = .ok (.isub, 1) := by decide +kernel
theorem d_X_go_28 : decode prog_1_method_12_code 28 = .ok (.if_icmp .le 10, 3) := by decide +kernel
theorem d_X_go_31 : decode prog_1_method_12_code 31 = .ok (.aload_n 0, 1) := by decide +kernel
theorem d_X_go_32 : decode prog_1_method_12_code 32 = .ok (.ldc 117, 2) := by decide +kernel
theorem d_X_go_34 : decode prog_1_method_12_code 34 = .ok (.invokevirtual 49, 3) := by decide +kernel
theorem d_X_go_37 : decode prog_1_method_12_code 37 = .ok (.ireturn, 1) := by decide +kernel
theorem d_X_go_38 : decode prog_1_method_12_code 38 = .ok (.iconst 0, 1) := by decide +kernel
theorem d_X_go_39 : decode prog_1_method_12_code 39 = .ok (.istore_n 2, 1) := by decide +kernel
theorem d_X_go_40 : decode prog_1_method_12_code 40 = .ok (.iload_n 2, 1) := by decide +kernel
theorem d_X_go_41 : decode prog_1_method_12_code 41 = .ok (.iload_n 1, 1) := by decide +kernel
theorem d_X_go_42 : decode prog_1_method_12_code 42 = .ok (.if_icmp .ge 16, 3) := by decide +kernel
theorem d_X_go_45 : decode prog_1_method_12_code 45 = .ok (.aload_n 0, 1) := by decide +kernel
theorem d_X_go_46 : decode prog_1_method_12_code 46 = .ok (.getfield 12, 3) := by decide +kernel
theorem d_X_go_49 : decode prog_1_method_12_code 49 = .ok (.invokevirtual 118, 3) := by decide +kernel
theorem d_X_go_52 : decode prog_1_method_12_code 52 = .ok (.iinc 2 1, 3) := by decide +kernel
theorem d_X_go_55 : decode prog_1_method_12_code 55 = .ok (.goto (-15), 3) := by decide +kernel
theorem d_X_go_58 : decode prog_1_method_12_code 58 = .ok (.aload_n 0, 1) := by decide +kernel
theorem d_X_go_59 : decode prog_1_method_12_code 59 = .ok (.getfield 12, 3) := by decide +kernel
theorem d_X_go_62 : decode prog_1_method_12_code 62 = .ok (.iconst 4, 1) := by decide +kernel
theorem d_X_go_63 : decode prog_1_method_12_code 63 = .ok (.invokevirtual 121, 3) := by decide +kernel
theorem d_X_go_66 : decode prog_1_method_12_code 66 = .ok (.ireturn, 1) := by decide +kernel
theorem d_X_go_10 : decode prog_1_method_12_code 10 = .ok (.aload_n 0, 1) := by decide +kernel
theorem d_X_go_11 : decode prog_1_method_12_code 11 = .ok (.ldc 48, 2) := by decide +kernel
theorem d_X_go_13 : decode prog_1_method_12_code 13 = .ok (.invokevirtual 49, 3) := by decide +kernel
theorem d_X_go_16 : decode prog_1_method_12_code 16 = .ok (.ireturn, 1) := by decide +kernel
theorem d_X_now_0 : decode prog_1_method_13_code 0 = .ok (.iload_n 1, 1) := by decide +kernel
theorem d_X_now_1 : decode prog_1_method_13_code 1 = .ok (.tableswitch 113 0 7 #[47, 55, 64, 73, 81, 89, 97, 105], 47) := by decide +kernel
theorem d_X_now_48 : decode prog_1_method_13_code 48 = .ok (.aload_n 0, 1) := by decide +kernel
theorem d_X_now_49 : decode prog_1_method_13_code 49 = .ok (.getfield 12, 3) := by decide +kernel
theorem d_X_now_52 : decode prog_1_method_13_code 52 = .ok (.getfield 87, 3) := by decide +kernel
theorem d_X_now_55 : decode prog_1_method_13_code 55 = .ok (.ireturn, 1) := by decide +kernel
theorem d_X_now_56 : decode prog_1_method_13_code 56 = .ok (.aload_n 0, 1) := by decide +kernel
theorem d_X_now_57 : decode prog_1_method_13_code 57 = .ok (.getfield 12, 3) := by decide +kernel
theorem d_X_now_60 : decode prog_1_method_13_code 60 = .ok (.iconst 4, 1) := by decide +kernel
theorem d_X_now_61 : decode prog_1_method_13_code 61 = .ok (.invokevirtual 121, 3) := by decide +kernel
theorem d_X_now_64 : decode prog_1_method_13_code 64 = .ok (.ireturn, 1) := by decide +kernel
theorem d_X_now_65 : decode prog_1_method_13_code 65 = .ok (.aload_n 0, 1) := by decide +kernel
theorem d_X_now_66 : decode prog_1_method_13_code 66 = .ok (.getfield 12, 3) := by decide +kernel
theorem d_X_now_69 : decode prog_1_method_13_code 69 = .ok (.iconst 5, 1) := by decide +kernel
theorem d_X_now_70 : decode prog_1_method_13_code 70 = .ok (.invokevirtual 121, 3) := by decide +kernel
theorem d_X_now_73 : decode prog_1_method_13_code 73 = .ok (.ireturn, 1) := by decide +kernel
theorem d_X_now_74 : decode prog_1_method_13_code 74 = .ok (.aload_n 0, 1) := by decide +kernel
theorem d_X_now_75 : decode prog_1_method_13_code 75 = .ok (.getfield 12, 3) := by decide +kernel
theorem d_X_now_78 : decode prog_1_method_13_code 78 = .ok (.invokevirtual 124, 3) := by decide +kernel
theorem d_X_now_81 : decode prog_1_method_13_code 81 = .ok (.ireturn, 1) := by decide +kernel
theorem d_X_now_82 : decode prog_1_method_13_code 82 = .ok (.aload_n 0, 1) := by decide +kernel
theorem d_X_now_83 : decode prog_1_method_13_code 83 = .ok (.getfield 12, 3) := by decide +kernel
theorem d_X_now_86 : decode prog_1_method_13_code 86 = .ok (.invokevirtual 128, 3) := by decide +kernel
theorem d_X_now_89 : decode prog_1_method_13_code 89 = .ok (.ireturn, 1) := by decide +kernel
theorem d_X_now_90 : decode prog_1_method_13_code 90 = .ok (.aload_n 0, 1) := by decide +kernel
theorem d_X_now_91 : decode prog_1_method_13_code 91 = .ok (.getfield 12, 3) := by decide +kernel
theorem d_X_now_94 : decode prog_1_method_13_code 94 = .ok (.invokevirtual 131, 3) := by decide +kernel
theorem d_X_now_97 : decode prog_1_method_13_code 97 = .ok (.ireturn, 1) := by decide +kernel
theorem d_X_now_98 : decode prog_1_method_13_code 98 = .ok (.aload_n 0, 1) := by decide +kernel
theorem d_X_now_99 : decode prog_1_method_13_code 99 = .ok (.getfield 12, 3) := by decide +kernel
theorem d_X_now_102 : decode prog_1_method_13_code 102 = .ok (.invokevirtual 134, 3) := by decide +kernel
theorem d_X_now_105 : decode prog_1_method_13_code 105 = .ok (.ireturn, 1) := by decide +kernel
theorem d_X_now_106 : decode prog_1_method_13_code 106 = .ok (.aload_n 0, 1) := by decide +kernel
theorem d_X_now_107 : decode prog_1_method_13_code 107 = .ok (.getfield 12, 3) := by decide +kernel
theorem d_X_now_110 : decode prog_1_method_13_code 110 = .ok (.invokevirtual 137, 3) := by decide +kernel
theorem d_X_now_113 : decode prog_1_method_13_code 113 = .ok (.ireturn, 1) := by decide +kernel
theorem d_X_now_114 : decode prog_1_method_13_code 114 = .ok (.aload_n 0, 1) := by decide +kernel
theorem d_X_now_115 : decode prog_1_method_13_code 115 = .ok (.ldc 48, 2) := by decide +kernel
theorem d_X_now_117 : decode prog_1_method_13_code 117 = .ok (.invokevirtual 49, 3) := by decide +kernel
theorem d_X_now_120 : decode prog_1_method_13_code 120 = .ok (.ireturn, 1) := by decide +kernel
theorem d_X_ahead_0 : decode prog_1_method_14_code 0 = .ok (.aload_n 0, 1) := by decide +kernel
theorem d_X_ahead_1 : decode prog_1_method_14_code 1 = .ok (.getfield 12, 3) := by decide +kernel
theorem d_X_ahead_4 : decode prog_1_method_14_code 4 = .ok (.iload_n 1, 1) := by decide +kernel
theorem d_X_ahead_5 : decode prog_1_method_14_code 5 = .ok (.invokevirtual 74, 3) := by decide +kernel
theorem d_X_ahead_8 : decode prog_1_method_14_code 8 = .ok (.ifCond .eq 22, 3) := by decide +kernel
theorem d_X_ahead_11 : decode prog_1_method_14_code 11 = .ok (.iload_n 2, 1) := by decide +kernel
theorem d_X_ahead_12 : decode prog_1_method_14_code 12 = .ok (.iconst 1, 1) := by decide +kernel
theorem d_X_ahead_13 : decode prog_1_method_14_code 13 = .ok (.iconst 2, 1) := by decide +kernel
theorem d_X_ahead_14 : decode prog_1_method_14_code 14 = .ok (.invokestatic 44, 3) := by decide +kernel
theorem d_X_ahead_17 : decode prog_1_method_14_code 17 = .ok (.ifCond .eq 13, 3) := by decide +kernel
theorem d_X_ahead_20 : decode prog_1_method_14_code 20 = .ok (.iload_n 3, 1) := by decide +kernel
theorem d_X_ahead_21 : decode prog_1_method_14_code 21 = .ok (.iconst 0, 1) := by decide +kernel
theorem d_X_ahead_22 : decode prog_1_method_14_code 22 = .ok (.bipush 100, 2) := by decide +kernel
theorem d_X_ahead_24 : decode prog_1_method_14_code 24 = .ok (.invokestatic 44, 3) := by decide +kernel
theorem d_X_ahead_27 : decode prog_1_method_14_code 27 = .ok (.ifCond .ne 10, 3) := by decide +kernel
theorem d_X_ahead_37 : decode prog_1_method_14_code 37 = .ok (.aload_n 0, 1) := by decide +kernel
theorem d_X_ahead_38 : decode prog_1_method_14_code 38 = .ok (.getfield 19, 3) := by decide +kernel
theorem d_X_ahead_41 : decode prog_1_method_14_code 41 = .ok (.aload_n 0, 1) := by decide +kernel
theorem d_X_ahead_42 : decode prog_1_method_14_code 42 = .ok (.getfield 12, 3) := by decide +kernel
theorem d_X_ahead_45 : decode prog_1_method_14_code 45 = .ok (.invokevirtual 140, 3) := by decide +kernel
theorem d_X_ahead_48 : decode prog_1_method_14_code 48 = .ok (.aload_n 0, 1) := by decide +kernel
theorem d_X_ahead_49 : decode prog_1_method_14_code 49 = .ok (.iload_n 3, 1) := by decide +kernel
theorem d_X_ahead_50 : decode prog_1_method_14_code 50 = .ok (.invokevirtual 144, 3) := by decide +kernel
theorem d_X_ahead_53 : decode prog_1_method_14_code 53 = .ok (.aload_n 0, 1) := by decide +kernel
theorem d_X_ahead_54 : decode prog_1_method_14_code 54 = .ok (.getfield 19, 3) := by decide +kernel
theorem d_X_ahead_57 : decode prog_1_method_14_code 57 = .ok (.getfield 78, 3) := by decide +kernel
theorem d_X_ahead_60 : decode prog_1_method_14_code 60 = .ok (.iload_n 1, 1) := by decide +kernel
theorem d_X_ahead_61 : decode prog_1_method_14_code 61 = .ok (.aaload, 1) := by decide +kernel
theorem d_X_ahead_62 : decode prog_1_method_14_code 62 = .ok (.iload_n 2, 1) := by decide +kernel
theorem d_X_ahead_63 : decode prog_1_method_14_code 63 = .ok (.iaload, 1) := by decide +kernel
theorem d_X_ahead_64 : decode prog_1_method_14_code 64 = .ok (.ireturn, 1) := by decide +kernel
theorem d_X_ahead_30 : decode prog_1_method_14_code 30 = .ok (.aload_n 0, 1) := by decide +kernel
theorem d_X_ahead_31 : decode prog_1_method_14_code 31 = .ok (.ldc 48, 2) := by decide +kernel
theorem d_X_ahead_33 : decode prog_1_method_14_code 33 = .ok (.invokevirtual 49, 3) := by decide +kernel
theorem d_X_ahead_36 : decode prog_1_method_14_code 36 = .ok (.ireturn, 1) := by decide +kernel
theorem d_X_later_0 : decode prog_1_method_15_code 0 = .ok (.iload_n 2, 1) := by decide +kernel
theorem d_X_later_1 : decode prog_1_method_15_code 1 = .ok (.ifCond .eq 12, 3) := by decide +kernel
theorem d_X_later_13 : decode prog_1_method_15_code 13 = .ok (.iconst 1, 1) := by decide +kernel
theorem d_X_later_14 : decode prog_1_method_15_code 14 = .ok (.goto 4, 3) := by decide +kernel
theorem d_X_later_18 : decode prog_1_method_15_code 18 = .ok (.istore 4, 2) := by decide +kernel
theorem d_X_later_20 : decode prog_1_method_15_code 20 = .ok (.aload_n 0, 1) := by decide +kernel
theorem d_X_later_21 : decode prog_1_method_15_code 21 = .ok (.getfield 12, 3) := by decide +kernel
theorem d_X_later_24 : decode prog_1_method_15_code 24 = .ok (.iload_n 1, 1) := by decide +kernel
theorem d_X_later_25 : decode prog_1_method_15_code 25 = .ok (.invokevirtual 97, 3) := by decide +kernel
theorem d_X_later_28 : decode prog_1_method_15_code 28 = .ok (.ifCond .eq 18, 3) := by decide +kernel
theorem d_X_later_31 : decode prog_1_method_15_code 31 = .ok (.iload 4, 2) := by decide +kernel
theorem d_X_later_33 : decode prog_1_method_15_code 33 = .ok (.ifCond .eq 13, 3) := by decide +kernel
theorem d_X_later_36 : decode prog_1_method_15_code 36 = .ok (.iload_n 3, 1) := by decide +kernel
theorem d_X_later_37 : decode prog_1_method_15_code 37 = .ok (.iconst 0, 1) := by decide +kernel
theorem d_X_later_38 : decode prog_1_method_15_code 38 = .ok (.bipush 100, 2) := by decide +kernel
theorem d_X_later_40 : decode prog_1_method_15_code 40 = .ok (.invokestatic 44, 3) := by decide +kernel
theorem d_X_later_43 : decode prog_1_method_15_code 43 = .ok (.ifCond .ne 10, 3) := by decide +kernel
theorem d_X_later_53 : decode prog_1_method_15_code 53 = .ok (.aload_n 0, 1) := by decide +kernel
theorem d_X_later_54 : decode prog_1_method_15_code 54 = .ok (.getfield 19, 3) := by decide +kernel
theorem d_X_later_57 : decode prog_1_method_15_code 57 = .ok (.aload_n 0, 1) := by decide +kernel
theorem d_X_later_58 : decode prog_1_method_15_code 58 = .ok (.getfield 12, 3) := by decide +kernel
theorem d_X_later_61 : decode prog_1_method_15_code 61 = .ok (.invokevirtual 140, 3) := by decide +kernel
theorem d_X_later_64 : decode prog_1_method_15_code 64 = .ok (.aload_n 0, 1) := by decide +kernel
theorem d_X_later_65 : decode prog_1_method_15_code 65 = .ok (.iload_n 3, 1) := by decide +kernel
theorem d_X_later_66 : decode prog_1_method_15_code 66 = .ok (.invokevirtual 144, 3) := by decide +kernel
theorem d_X_later_69 : decode prog_1_method_15_code 69 = .ok (.aload_n 0, 1) := by decide +kernel
theorem d_X_later_70 : decode prog_1_method_15_code 70 = .ok (.getfield 19, 3) := by decide +kernel
theorem d_X_later_73 : decode prog_1_method_15_code 73 = .ok (.getfield 100, 3) := by decide +kernel
theorem d_X_later_76 : decode prog_1_method_15_code 76 = .ok (.iload_n 1, 1) := by decide +kernel
theorem d_X_later_77 : decode prog_1_method_15_code 77 = .ok (.aaload, 1) := by decide +kernel
theorem d_X_later_78 : decode prog_1_method_15_code 78 = .ok (.iload_n 2, 1) := by decide +kernel
theorem d_X_later_79 : decode prog_1_method_15_code 79 = .ok (.iaload, 1) := by decide +kernel
theorem d_X_later_80 : decode prog_1_method_15_code 80 = .ok (.ireturn, 1) := by decide +kernel
theorem d_X_later_4 : decode prog_1_method_15_code 4 = .ok (.iload_n 2, 1) := by decide +kernel
theorem d_X_later_5 : decode prog_1_method_15_code 5 = .ok (.iconst 3, 1) := by decide +kernel
theorem d_X_later_6 : decode prog_1_method_15_code 6 = .ok (.iconst 5, 1) := by decide +kernel
theorem d_X_later_7 : decode prog_1_method_15_code 7 = .ok (.invokestatic 44, 3) := by decide +kernel
theorem d_X_later_10 : decode prog_1_method_15_code 10 = .ok (.ifCond .eq 7, 3) := by decide +kernel
theorem d_X_later_17 : decode prog_1_method_15_code 17 = .ok (.iconst 0, 1) := by decide +kernel
theorem d_X_later_46 : decode prog_1_method_15_code 46 = .ok (.aload_n 0, 1) := by decide +kernel
theorem d_X_later_47 : decode prog_1_method_15_code 47 = .ok (.ldc 48, 2) := by decide +kernel
theorem d_X_later_49 : decode prog_1_method_15_code 49 = .ok (.invokevirtual 49, 3) := by decide +kernel
theorem d_X_later_52 : decode prog_1_method_15_code 52 = .ok (.ireturn, 1) := by decide +kernel
theorem d_X_arrives_0 : decode prog_1_method_16_code 0 = .ok (.aload_n 0, 1) := by decide +kernel
theorem d_X_arrives_1 : decode prog_1_method_16_code 1 = .ok (.getfield 12, 3) := by decide +kernel
theorem d_X_arrives_4 : decode prog_1_method_16_code 4 = .ok (.iload_n 1, 1) := by decide +kernel
theorem d_X_arrives_5 : decode prog_1_method_16_code 5 = .ok (.invokevirtual 97, 3) := by decide +kernel
theorem d_X_arrives_8 : decode prog_1_method_16_code 8 = .ok (.ifCond .eq 14, 3) := by decide +kernel
theorem d_X_arrives_11 : decode prog_1_method_16_code 11 = .ok (.iload_n 2, 1) := by decide +kernel
theorem d_X_arrives_12 : decode prog_1_method_16_code 12 = .ok (.iconst 0, 1) := by decide +kernel
theorem d_X_arrives_13 : decode prog_1_method_16_code 13 = .ok (.sipush 9999, 3) := by decide +kernel
theorem d_X_arrives_16 : decode prog_1_method_16_code 16 = .ok (.invokestatic 44, 3) := by decide +kernel
theorem d_X_arrives_19 : decode prog_1_method_16_code 19 = .ok (.ifCond .ne 10, 3) := by decide +kernel
theorem d_X_arrives_29 : decode prog_1_method_16_code 29 = .ok (.aload_n 0, 1) := by decide +kernel
theorem d_X_arrives_30 : decode prog_1_method_16_code 30 = .ok (.getfield 19, 3) := by decide +kernel
theorem d_X_arrives_33 : decode prog_1_method_16_code 33 = .ok (.aload_n 0, 1) := by decide +kernel
theorem d_X_arrives_34 : decode prog_1_method_16_code 34 = .ok (.getfield 12, 3) := by decide +kernel
theorem d_X_arrives_37 : decode prog_1_method_16_code 37 = .ok (.invokevirtual 140, 3) := by decide +kernel
theorem d_X_arrives_40 : decode prog_1_method_16_code 40 = .ok (.iconst 0, 1) := by decide +kernel
theorem d_X_arrives_41 : decode prog_1_method_16_code 41 = .ok (.istore_n 3, 1) := by decide +kernel
theorem d_X_arrives_42 : decode prog_1_method_16_code 42 = .ok (.iload_n 3, 1) := by decide +kernel
theorem d_X_arrives_43 : decode prog_1_method_16_code 43 = .ok (.sipush 200, 3) := by decide +kernel
theorem d_X_arrives_46 : decode prog_1_method_16_code 46 = .ok (.if_icmp .gt 33, 3) := by decide +kernel
theorem d_X_arrives_49 : decode prog_1_method_16_code 49 = .ok (.aload_n 0, 1) := by decide +kernel
theorem d_X_arrives_50 : decode prog_1_method_16_code 50 = .ok (.getfield 19, 3) := by decide +kernel
theorem d_X_arrives_53 : decode prog_1_method_16_code 53 = .ok (.getfield 100, 3) := by decide +kernel
theorem d_X_arrives_56 : decode prog_1_method_16_code 56 = .ok (.iload_n 1, 1) := by decide +kernel
theorem d_X_arrives_57 : decode prog_1_method_16_code 57 = .ok (.aaload, 1) := by decide +kernel
theorem d_X_arrives_58 : decode prog_1_method_16_code 58 = .ok (.iconst 4, 1) := by decide +kernel
theorem d_X_arrives_59 : decode prog_1_method_16_code 59 = .ok (.iaload, 1) := by decide +kernel
theorem d_X_arrives_60 : decode prog_1_method_16_code 60 = .ok (.iload_n 2, 1) := by decide +kernel
theorem d_X_arrives_61 : decode prog_1_method_16_code 61 = .ok (.if_icmp .lt 5, 3) := by decide +kernel
theorem d_X_arrives_64 : decode prog_1_method_16_code 64 = .ok (.iload_n 3, 1) := by decide +kernel
theorem d_X_arrives_65 : decode prog_1_method_16_code 65 = .ok (.ireturn, 1) := by decide +kernel
theorem d_X_arrives_66 : decode prog_1_method_16_code 66 = .ok (.aload_n 0, 1) := by decide +kernel
theorem d_X_arrives_67 : decode prog_1_method_16_code 67 = .ok (.getfield 19, 3) := by decide +kernel
theorem d_X_arrives_70 : decode prog_1_method_16_code 70 = .ok (.invokevirtual 118, 3) := by decide +kernel
theorem d_X_arrives_73 : decode prog_1_method_16_code 73 = .ok (.iinc 3 1, 3) := by decide +kernel
theorem d_X_arrives_76 : decode prog_1_method_16_code 76 = .ok (.goto (-34), 3) := by decide +kernel
theorem d_X_arrives_79 : decode prog_1_method_16_code 79 = .ok (.aload_n 0, 1) := by decide +kernel
theorem d_X_arrives_80 : decode prog_1_method_16_code 80 = .ok (.ldc 148, 2) := by decide +kernel
theorem d_X_arrives_82 : decode prog_1_method_16_code 82 = .ok (.invokevirtual 49, 3) := by decide +kernel
theorem d_X_arrives_85 : decode prog_1_method_16_code 85 = .ok (.ireturn, 1) := by decide +kernel
theorem d_X_arrives_22 : decode prog_1_method_16_code 22 = .ok (.aload_n 0, 1) := by decide +kernel
theorem d_X_arrives_23 : decode prog_1_method_16_code 23 = .ok (.ldc 48, 2) := by decide +kernel
theorem d_X_arrives_25 : decode prog_1_method_16_code 25 = .ok (.invokevirtual 49, 3) := by decide +kernel
theorem d_X_arrives_28 : decode prog_1_method_16_code 28 = .ok (.ireturn, 1) := by decide +kernel
theorem d_X_spies_0 : decode prog_1_method_17_code 0 = .ok (.aload_n 0, 1) := by decide +kernel
theorem d_X_spies_1 : decode prog_1_method_17_code 1 = .ok (.getfield 12, 3) := by decide +kernel
theorem d_X_spies_4 : decode prog_1_method_17_code 4 = .ok (.iload_n 1, 1) := by decide +kernel
theorem d_X_spies_5 : decode prog_1_method_17_code 5 = .ok (.invokevirtual 97, 3) := by decide +kernel
theorem d_X_spies_8 : decode prog_1_method_17_code 8 = .ok (.ifCond .eq 14, 3) := by decide +kernel
theorem d_X_spies_11 : decode prog_1_method_17_code 11 = .ok (.aload_n 0, 1) := by decide +kernel
theorem d_X_spies_12 : decode prog_1_method_17_code 12 = .ok (.getfield 12, 3) := by decide +kernel
theorem d_X_spies_15 : decode prog_1_method_17_code 15 = .ok (.iload_n 2, 1) := by decide +kernel
theorem d_X_spies_16 : decode prog_1_method_17_code 16 = .ok (.invokevirtual 74, 3) := by decide +kernel
theorem d_X_spies_19 : decode prog_1_method_17_code 19 = .ok (.ifCond .ne 10, 3) := by decide +kernel
theorem d_X_spies_29 : decode prog_1_method_17_code 29 = .ok (.aload_n 0, 1) := by decide +kernel
theorem d_X_spies_30 : decode prog_1_method_17_code 30 = .ok (.getfield 19, 3) := by decide +kernel
theorem d_X_spies_33 : decode prog_1_method_17_code 33 = .ok (.aload_n 0, 1) := by decide +kernel
theorem d_X_spies_34 : decode prog_1_method_17_code 34 = .ok (.getfield 12, 3) := by decide +kernel
theorem d_X_spies_37 : decode prog_1_method_17_code 37 = .ok (.invokevirtual 140, 3) := by decide +kernel
theorem d_X_spies_40 : decode prog_1_method_17_code 40 = .ok (.iconst 0, 1) := by decide +kernel
theorem d_X_spies_41 : decode prog_1_method_17_code 41 = .ok (.istore_n 3, 1) := by decide +kernel
theorem d_X_spies_42 : decode prog_1_method_17_code 42 = .ok (.iload_n 3, 1) := by decide +kernel
theorem d_X_spies_43 : decode prog_1_method_17_code 43 = .ok (.sipush 200, 3) := by decide +kernel
theorem d_X_spies_46 : decode prog_1_method_17_code 46 = .ok (.if_icmp .gt 30, 3) := by decide +kernel
theorem d_X_spies_49 : decode prog_1_method_17_code 49 = .ok (.aload_n 0, 1) := by decide +kernel
theorem d_X_spies_50 : decode prog_1_method_17_code 50 = .ok (.getfield 19, 3) := by decide +kernel
theorem d_X_spies_53 : decode prog_1_method_17_code 53 = .ok (.iload_n 1, 1) := by decide +kernel
theorem d_X_spies_54 : decode prog_1_method_17_code 54 = .ok (.iload_n 2, 1) := by decide +kernel
theorem d_X_spies_55 : decode prog_1_method_17_code 55 = .ok (.invokevirtual 109, 3) := by decide +kernel
theorem d_X_spies_58 : decode prog_1_method_17_code 58 = .ok (.ifCond .eq 5, 3) := by decide +kernel
theorem d_X_spies_61 : decode prog_1_method_17_code 61 = .ok (.iload_n 3, 1) := by decide +kernel
theorem d_X_spies_62 : decode prog_1_method_17_code 62 = .ok (.ireturn, 1) := by decide +kernel
theorem d_X_spies_63 : decode prog_1_method_17_code 63 = .ok (.aload_n 0, 1) := by decide +kernel
theorem d_X_spies_64 : decode prog_1_method_17_code 64 = .ok (.getfield 19, 3) := by decide +kernel
theorem d_X_spies_67 : decode prog_1_method_17_code 67 = .ok (.invokevirtual 118, 3) := by decide +kernel
theorem d_X_spies_70 : decode prog_1_method_17_code 70 = .ok (.iinc 3 1, 3) := by decide +kernel
theorem d_X_spies_73 : decode prog_1_method_17_code 73 = .ok (.goto (-31), 3) := by decide +kernel
theorem d_X_spies_76 : decode prog_1_method_17_code 76 = .ok (.aload_n 0, 1) := by decide +kernel
theorem d_X_spies_77 : decode prog_1_method_17_code 77 = .ok (.ldc 148, 2) := by decide +kernel
theorem d_X_spies_79 : decode prog_1_method_17_code 79 = .ok (.invokevirtual 49, 3) := by decide +kernel
theorem d_X_spies_82 : decode prog_1_method_17_code 82 = .ok (.ireturn, 1) := by decide +kernel
theorem d_X_spies_22 : decode prog_1_method_17_code 22 = .ok (.aload_n 0, 1) := by decide +kernel
theorem d_X_spies_23 : decode prog_1_method_17_code 23 = .ok (.ldc 48, 2) := by decide +kernel
theorem d_X_spies_25 : decode prog_1_method_17_code 25 = .ok (.invokevirtual 49, 3) := by decide +kernel
theorem d_X_spies_28 : decode prog_1_method_17_code 28 = .ok (.ireturn, 1) := by decide +kernel
theorem d_X_meet_0 : decode prog_1_method_18_code 0 = .ok (.aload_n 0, 1) := by decide +kernel
theorem d_X_meet_1 : decode prog_1_method_18_code 1 = .ok (.getfield 12, 3) := by decide +kernel
theorem d_X_meet_4 : decode prog_1_method_18_code 4 = .ok (.iload_n 1, 1) := by decide +kernel
theorem d_X_meet_5 : decode prog_1_method_18_code 5 = .ok (.invokevirtual 97, 3) := by decide +kernel
theorem d_X_meet_8 : decode prog_1_method_18_code 8 = .ok (.ifCond .eq 19, 3) := by decide +kernel
theorem d_X_meet_11 : decode prog_1_method_18_code 11 = .ok (.aload_n 0, 1) := by decide +kernel
theorem d_X_meet_12 : decode prog_1_method_18_code 12 = .ok (.getfield 12, 3) := by decide +kernel
theorem d_X_meet_15 : decode prog_1_method_18_code 15 = .ok (.iload_n 2, 1) := by decide +kernel
theorem d_X_meet_16 : decode prog_1_method_18_code 16 = .ok (.invokevirtual 97, 3) := by decide +kernel
theorem d_X_meet_19 : decode prog_1_method_18_code 19 = .ok (.ifCond .eq 8, 3) := by decide +kernel
theorem d_X_meet_22 : decode prog_1_method_18_code 22 = .ok (.iload_n 1, 1) := by decide +kernel
theorem d_X_meet_23 : decode prog_1_method_18_code 23 = .ok (.iload_n 2, 1) := by decide +kernel
theorem d_X_meet_24 : decode prog_1_method_18_code 24 = .ok (.if_icmp .ne 10, 3) := by decide +kernel
theorem d_X_meet_34 : decode prog_1_method_18_code 34 = .ok (.aload_n 0, 1) := by decide +kernel
theorem d_X_meet_35 : decode prog_1_method_18_code 35 = .ok (.getfield 19, 3) := by decide +kernel
theorem d_X_meet_38 : decode prog_1_method_18_code 38 = .ok (.aload_n 0, 1) := by decide +kernel
theorem d_X_meet_39 : decode prog_1_method_18_code 39 = .ok (.getfield 12, 3) := by decide +kernel
theorem d_X_meet_42 : decode prog_1_method_18_code 42 = .ok (.invokevirtual 140, 3) := by decide +kernel
theorem d_X_meet_45 : decode prog_1_method_18_code 45 = .ok (.iconst 0, 1) := by decide +kernel
theorem d_X_meet_46 : decode prog_1_method_18_code 46 = .ok (.istore_n 3, 1) := by decide +kernel
theorem d_X_meet_47 : decode prog_1_method_18_code 47 = .ok (.iload_n 3, 1) := by decide +kernel
theorem d_X_meet_48 : decode prog_1_method_18_code 48 = .ok (.sipush 200, 3) := by decide +kernel
theorem d_X_meet_51 : decode prog_1_method_18_code 51 = .ok (.if_icmp .gt 43, 3) := by decide +kernel
theorem d_X_meet_54 : decode prog_1_method_18_code 54 = .ok (.aload_n 0, 1) := by decide +kernel
theorem d_X_meet_55 : decode prog_1_method_18_code 55 = .ok (.getfield 19, 3) := by decide +kernel
theorem d_X_meet_58 : decode prog_1_method_18_code 58 = .ok (.getfield 100, 3) := by decide +kernel
theorem d_X_meet_61 : decode prog_1_method_18_code 61 = .ok (.iload_n 1, 1) := by decide +kernel
theorem d_X_meet_62 : decode prog_1_method_18_code 62 = .ok (.aaload, 1) := by decide +kernel
theorem d_X_meet_63 : decode prog_1_method_18_code 63 = .ok (.iconst 0, 1) := by decide +kernel
theorem d_X_meet_64 : decode prog_1_method_18_code 64 = .ok (.iaload, 1) := by decide +kernel
theorem d_X_meet_65 : decode prog_1_method_18_code 65 = .ok (.aload_n 0, 1) := by decide +kernel
theorem d_X_meet_66 : decode prog_1_method_18_code 66 = .ok (.getfield 19, 3) := by decide +kernel
theorem d_X_meet_69 : decode prog_1_method_18_code 69 = .ok (.getfield 100, 3) := by decide +kernel
theorem d_X_meet_72 : decode prog_1_method_18_code 72 = .ok (.iload_n 2, 1) := by decide +kernel
theorem d_X_meet_73 : decode prog_1_method_18_code 73 = .ok (.aaload, 1) := by decide +kernel
theorem d_X_meet_74 : decode prog_1_method_18_code 74 = .ok (.iconst 0, 1) := by decide +kernel
theorem d_X_meet_75 : decode prog_1_method_18_code 75 = .ok (.iaload, 1) := by decide +kernel
theorem d_X_meet_76 : decode prog_1_method_18_code 76 = .ok (.if_icmp .ne 5, 3) := by decide +kernel
theorem d_X_meet_79 : decode prog_1_method_18_code 79 = .ok (.iload_n 3, 1) := by decide +kernel
theorem d_X_meet_80 : decode prog_1_method_18_code 80 = .ok (.ireturn, 1) := by decide +kernel
theorem d_X_meet_81 : decode prog_1_method_18_code 81 = .ok (.aload_n 0, 1) := by decide +kernel
theorem d_X_meet_82 : decode prog_1_method_18_code 82 = .ok (.getfield 19, 3) := by decide +kernel
theorem d_X_meet_85 : decode prog_1_method_18_code 85 = .ok (.invokevirtual 118, 3) := by decide +kernel
theorem d_X_meet_88 : decode prog_1_method_18_code 88 = .ok (.iinc 3 1, 3) := by decide +kernel
theorem d_X_meet_91 : decode prog_1_method_18_code 91 = .ok (.goto (-44), 3) := by decide +kernel
theorem d_X_meet_94 : decode prog_1_method_18_code 94 = .ok (.aload_n 0, 1) := by decide +kernel
theorem d_X_meet_95 : decode prog_1_method_18_code 95 = .ok (.ldc 148, 2) := by decide +kernel
theorem d_X_meet_97 : decode prog_1_method_18_code 97 = .ok (.invokevirtual 49, 3) := by decide +kernel
theorem d_X_meet_100 : decode prog_1_method_18_code 100 = .ok (.ireturn, 1) := by decide +kernel
theorem d_X_meet_27 : decode prog_1_method_18_code 27 = .ok (.aload_n 0, 1) := by decide +kernel
theorem d_X_meet_28 : decode prog_1_method_18_code 28 = .ok (.ldc 48, 2) := by decide +kernel
theorem d_X_meet_30 : decode prog_1_method_18_code 30 = .ok (.invokevirtual 49, 3) := by decide +kernel
theorem d_X_meet_33 : decode prog_1_method_18_code 33 = .ok (.ireturn, 1) := by decide +kernel
theorem d_X_startFor_0 : decode prog_1_method_19_code 0 = .ok (.aload_n 0, 1) := by decide +kernel
theorem d_X_startFor_1 : decode prog_1_method_19_code 1 = .ok (.getfield 12, 3) := by decide +kernel
theorem d_X_startFor_4 : decode prog_1_method_19_code 4 = .ok (.iload_n 1, 1) := by decide +kernel
theorem d_X_startFor_5 : decode prog_1_method_19_code 5 = .ok (.invokevirtual 97, 3) := by decide +kernel
theorem d_X_startFor_8 : decode prog_1_method_19_code 8 = .ok (.ifCond .eq 13, 3) := by decide +kernel
theorem d_X_startFor_11 : decode prog_1_method_19_code 11 = .ok (.iload_n 2, 1) := by decide +kernel
theorem d_X_startFor_12 : decode prog_1_method_19_code 12 = .ok (.iconst 0, 1) := by decide +kernel
theorem d_X_startFor_13 : decode prog_1_method_19_code 13 = .ok (.bipush 40, 2) := by decide +kernel
theorem d_X_startFor_15 : decode prog_1_method_19_code 15 = .ok (.invokestatic 44, 3) := by decide +kernel
theorem d_X_startFor_18 : decode prog_1_method_19_code 18 = .ok (.ifCond .ne 10, 3) := by decide +kernel
theorem d_X_startFor_28 : decode prog_1_method_19_code 28 = .ok (.aload_n 0, 1) := by decide +kernel
theorem d_X_startFor_29 : decode prog_1_method_19_code 29 = .ok (.iload_n 1, 1) := by decide +kernel
theorem d_X_startFor_30 : decode prog_1_method_19_code 30 = .ok (.iconst 0, 1) := by decide +kernel
theorem d_X_startFor_31 : decode prog_1_method_19_code 31 = .ok (.iload_n 2, 1) := by decide +kernel
theorem d_X_startFor_32 : decode prog_1_method_19_code 32 = .ok (.invokevirtual 149, 3) := by decide +kernel
theorem d_X_startFor_35 : decode prog_1_method_19_code 35 = .ok (.ireturn, 1) := by decide +kernel
theorem d_X_startFor_21 : decode prog_1_method_19_code 21 = .ok (.aload_n 0, 1) := by decide +kernel
theorem d_X_startFor_22 : decode prog_1_method_19_code 22 = .ok (.ldc 48, 2) := by decide +kernel
theorem d_X_startFor_24 : decode prog_1_method_19_code 24 = .ok (.invokevirtual 49, 3) := by decide +kernel
theorem d_X_startFor_27 : decode prog_1_method_19_code 27 = .ok (.ireturn, 1) := by decide +kernel
theorem d_X_aimFor_0 : decode prog_1_method_20_code 0 = .ok (.aload_n 0, 1) := by decide +kernel
theorem d_X_aimFor_1 : decode prog_1_method_20_code 1 = .ok (.getfield 12, 3) := by decide +kernel
theorem d_X_aimFor_4 : decode prog_1_method_20_code 4 = .ok (.iload_n 1, 1) := by decide +kernel
theorem d_X_aimFor_5 : decode prog_1_method_20_code 5 = .ok (.invokevirtual 97, 3) := by decide +kernel
theorem d_X_aimFor_8 : decode prog_1_method_20_code 8 = .ok (.ifCond .eq 13, 3) := by decide +kernel
theorem d_X_aimFor_11 : decode prog_1_method_20_code 11 = .ok (.iload_n 2, 1) := by decide +kernel
theorem d_X_aimFor_12 : decode prog_1_method_20_code 12 = .ok (.iconst 0, 1) := by decide +kernel
theorem d_X_aimFor_13 : decode prog_1_method_20_code 13 = .ok (.bipush 40, 2) := by decide +kernel
theorem d_X_aimFor_15 : decode prog_1_method_20_code 15 = .ok (.invokestatic 44, 3) := by decide +kernel
theorem d_X_aimFor_18 : decode prog_1_method_20_code 18 = .ok (.ifCond .ne 10, 3) := by decide +kernel
theorem d_X_aimFor_28 : decode prog_1_method_20_code 28 = .ok (.aload_n 0, 1) := by decide +kernel
theorem d_X_aimFor_29 : decode prog_1_method_20_code 29 = .ok (.iload_n 1, 1) := by decide +kernel
theorem d_X_aimFor_30 : decode prog_1_method_20_code 30 = .ok (.iconst 1, 1) := by decide +kernel
theorem d_X_aimFor_31 : decode prog_1_method_20_code 31 = .ok (.iload_n 2, 1) := by decide +kernel
theorem d_X_aimFor_32 : decode prog_1_method_20_code 32 = .ok (.invokevirtual 149, 3) := by decide +kernel
theorem d_X_aimFor_35 : decode prog_1_method_20_code 35 = .ok (.ireturn, 1) := by decide +kernel
theorem d_X_aimFor_21 : decode prog_1_method_20_code 21 = .ok (.aload_n 0, 1) := by decide +kernel
theorem d_X_aimFor_22 : decode prog_1_method_20_code 22 = .ok (.ldc 48, 2) := by decide +kernel
theorem d_X_aimFor_24 : decode prog_1_method_20_code 24 = .ok (.invokevirtual 49, 3) := by decide +kernel
theorem d_X_aimFor_27 : decode prog_1_method_20_code 27 = .ok (.ireturn, 1) := by decide +kernel
set_option maxHeartbeats 1000000 in
set_option maxRecDepth 20000 in
theorem c_X_tryDays (l : Launch) (E : QE) (S : QM) (τ : Nat → Int32) (hτ : S 2 = τ) (hwf : WF τ) (n : Nat) (hn : n ≤ 1000) : qCV E l y_X_tryDays prog_1_method_48_code 3 5 [.ref (eA E 0), .int (nI n)] S (qr S 2 (daysS n τ)) := by
  refine qCV_of (by decide) (Nat.le_of_ble_eq_true rfl) (fun p e s m below meth c ls X hW hl => ?_)
  have hl : lv_has ls 3 [(0, .ref (eA E 0)), (1, .int (nI n))] := hl
  refine lv_iconst (v := nI 0) X.x X.b d_X_tryDays_0 (by decide) ?_
  refine lv_istore_n (lv' := [(2, .int (nI 0)), (0, .ref (eA E 0)), (1, .int (nI n))]) X.x X.b d_X_tryDays_1 rfl hl (by decide) rfl (fun ls hl => ?_)
  have hW : qWH E (qr S 2 τ) s s.heap [] := by rw [← hτ, qr_self]; exact hW
  have loop2 : ∀ (fu2 : Nat) (j : Nat) (μ : Nat → Int32), j ≤ n → μ = daysS j τ → n - j < fu2 → ∀ (H : Heap) (locs : List Loc) (ls : Array Slot), qWH E (qr S 2 μ) s H locs → lv_has ls 3 [(2, .int (nI j)), (0, .ref (eA E 0)), (1, .int (nI n))] → W p l e (qRm 5) s m ([.ref (eA E 0), .int (nI n)] : List Value).toArray below meth c H locs 0 0 (MQ below (qQv E (qr S 2 (daysS n τ)) s.heap.size) ([.ref (eA E 0), .int (nI n)] : List Value).toArray s 0 0 (qAA E s.heap.size)) (F0 m 2 ls []) := by
    intro fu2
    induction fu2 with
    | zero =>
      intro j μ hj hm hfu
      exact absurd hfu (Nat.not_lt_zero _)
    | succ fu2 ih2 =>
      intro j μ hj hm hfu H locs ls hW hl
      refine lv_iload_n X.x X.b d_X_tryDays_2 rfl (lv_at hl 0 rfl) ?_
      refine lv_iload_n X.x X.b d_X_tryDays_3 rfl (lv_at hl 2 rfl) ?_
      refine lv_icmp_ge (tgt := 20) X.x X.b d_X_tryDays_4 (by decide) (fun c4 => ?_) (fun c4 => ?_)
      · have c4 : n ≤ j := (nI_leI (by omega) (by omega)).mp c4
        exact q_vret X hW (by rw [hm, show j = n by omega]) d_X_tryDays_20
      · have c4 : ¬ n ≤ j := fun z => c4 ((nI_leI (by omega) (by omega)).mpr z)
        refine lv_aload_n X.x X.b d_X_tryDays_7 rfl (lv_at hl 1 rfl) ?_
        refine q_getr X hW qj3 rfl _ ds_X 2 (by decide) mw_185 rfl (c1 := cB 2) rfl d_X_tryDays_8 ?_
        refine q_cvv X (c_Cm_passDay l E 2 (by decide) (qr S 2 μ) μ (by rw [qr_at]) (hm ▸ dF hwf j)) hW (q_recv X hW (ds_cm (k := 2) (by decide)) rfl) ok_Cm_passDay mw_305 ⟨by decide, by decide⟩ (As := []) rfl rfl (Nat.le_of_ble_eq_true rfl) (lv := [(2, .int (nI j)), (0, .ref (eA E 0)), (1, .int (nI n))]) hl ⟨Nat.le_refl 0, Nat.le_refl 0⟩ d_X_tryDays_11 (fun H locs hW => ?_)
        have hW : qWH E (qr S 2 (dayS μ)) s H locs := (by have h := hW; rw [qr_qr] at h; exact h)
        refine lv_iinc (v := nI (j + 1)) (lv' := [(2, .int (nI (j + 1))), (0, .ref (eA E 0)), (1, .int (nI n))]) X.x X.b d_X_tryDays_14 hl (k := 0) rfl (by rw [show Int32.ofInt 1 = nI 1 from by decide, nI_add]) (by decide) rfl (fun ls hl => ?_)
        refine lv_goto (tgt := 2) X.x X.b d_X_tryDays_17 (by decide) ?_
        exact ih2 (j + 1) (dayS μ) (by omega) (by rw [hm]; rfl) (by omega) _ _ _ hW (lv_sub hl [0, 1, 2] rfl)
  exact loop2 (n - 0 + 1) 0 τ (by omega) rfl (Nat.lt_succ_self _) _ _ _ hW (lv_sub hl [0, 1, 2] rfl)
set_option maxHeartbeats 1000000 in
set_option maxRecDepth 20000 in
theorem c_X_gotWith (l : Launch) (E : QE) (S : QM) (ρ φ τ : Nat → Int32) (hρ : S 0 = ρ) (hφ : S 14 = φ) (hτ : S 2 = τ) (hwf : WF ρ) (w f : Nat) (v : Int32) (n : Nat) (hw : w < nW ρ) (hf : f < 6) (hn : n ≤ 1000) (hv : WF (upd ρ (44 + 6 * w + f) v)) : qCPi E l y_X_gotWith prog_1_method_49_code 6 .int 5 [.ref (eA E 0), .int (nI w), .int (nI f), .int v, .int (nI n)] S (gotS ρ w f v n) (any S 2 WF) := by
  refine qCPi_of (by decide) (Nat.le_of_ble_eq_true rfl) (fun p e s m below meth c ls X hW hl => ?_)
  have hl : lv_has ls 6 [(0, .ref (eA E 0)), (1, .int (nI w)), (2, .int (nI f)), (3, .int v), (4, .int (nI n))] := hl
  have htl := hwf.tl
  have hwl := hwf.wl
  have hdl := hwf.dl
  have hbw : WF (becS τ ρ) := becS_wf hwf
  have hbe : eqv (becS τ ρ) ρ := becS_e hwf
  have hu : WF (upd (becS τ ρ) (44 + 6 * w + f) v) := WF_e (hbe.up v (by omega) (by omega)) hv
  refine lv_aload_n X.x X.b d_X_gotWith_0 rfl (lv_at hl 0 rfl) ?_
  refine q_getr X hW qj3 rfl _ ds_X 2 (by decide) mw_185 rfl (c1 := cB 2) rfl d_X_gotWith_1 ?_
  refine lv_aload_n X.x X.b d_X_gotWith_4 rfl (lv_at hl 0 rfl) ?_
  refine q_getr X hW qj3 rfl _ ds_X 0 (by decide) mw_183 rfl (c1 := cB 0) rfl d_X_gotWith_5 ?_
  refine q_cvv X (c_Cm_become l E 2 0 (by decide) (by decide) (by decide) S τ ρ (by rw [hτ]) (by rw [hρ]) hwf) hW (q_recv X hW (ds_cm (k := 2) (by decide)) rfl) ok_Cm_become mw_371 ⟨by decide, by decide⟩ (As := [.ref (eA E (cB 0))]) rfl rfl (Nat.le_of_ble_eq_true rfl) (lv := [(0, .ref (eA E 0)), (1, .int (nI w)), (2, .int (nI f)), (3, .int v), (4, .int (nI n))]) hl ⟨Nat.le_refl 0, Nat.le_refl 0⟩ d_X_gotWith_8 (fun H locs hW => ?_)
  have hW : qWH E (qr S 2 (becS τ ρ)) s H locs := hW
  refine lv_aload_n X.x X.b d_X_gotWith_11 rfl (lv_at hl 0 rfl) ?_
  refine q_getr X hW qj3 rfl _ ds_X 2 (by decide) mw_185 rfl (c1 := cB 2) rfl d_X_gotWith_12 ?_
  refine q_getr X hW qj0 rfl _ (ds_cm (k := 2) (by decide)) 2 (by decide) mw_106 rfl (c1 := cB 2 + 3) rfl d_X_gotWith_15 ?_
  refine lv_iload_n X.x X.b d_X_gotWith_18 rfl (lv_at hl 1 rfl) ?_
  refine g_wk (show 2 < 3 by decide) X hW (show w < 6 by omega) d_X_gotWith_19 ?_
  refine lv_iload_n X.x X.b d_X_gotWith_20 rfl (lv_at hl 2 rfl) ?_
  refine lv_iload_n X.x X.b d_X_gotWith_21 rfl (lv_at hl 3 rfl) ?_
  refine g_ast X hW (ds_w (w := w) (k := 2) (by decide) (by omega)) (q_in (by omega) (by decide)) (p0 := 44 + 6 * w + f) (q_tn (by omega) (by omega)) (ρ := becS τ ρ) (by rw [qr_at]) d_X_gotWith_22 (fun H locs hW => ?_)
  obtain ⟨r22, er22⟩ : ∃ z, z = upd (becS τ ρ) (44 + 6 * w + f) v := ⟨_, rfl⟩
  rw [← er22] at hW
  rw [qr_qr] at hW
  refine lv_iconst (v := nI 0) X.x X.b d_X_gotWith_23 (by decide) ?_
  refine lv_istore (lv' := [(5, .int (nI 0)), (0, .ref (eA E 0)), (1, .int (nI w)), (2, .int (nI f)), (3, .int v), (4, .int (nI n))]) X.x X.b d_X_gotWith_24 hl (by decide) rfl (fun ls hl => ?_)
  have loop26 : ∀ (fu26 : Nat) (j : Nat) (μ : Nat → Int32), j ≤ n → μ = daysS j (upd (becS τ ρ) (44 + 6 * w + f) v) → n - j < fu26 → ∀ (H : Heap) (locs : List Loc) (ls : Array Slot), qWH E (qr S 2 μ) s H locs → lv_has ls 6 [(5, .int (nI j)), (0, .ref (eA E 0)), (1, .int (nI w)), (2, .int (nI f)), (3, .int v), (4, .int (nI n))] → W p l e (qRm 5) s m ([.ref (eA E 0), .int (nI w), .int (nI f), .int v, .int (nI n)] : List Value).toArray below meth c H locs 0 0 (MQ below (qQpi E (gotS ρ w f v n) (any S 2 WF) s.heap.size) ([.ref (eA E 0), .int (nI w), .int (nI f), .int v, .int (nI n)] : List Value).toArray s 0 0 (qAA E s.heap.size)) (F0 m 26 ls []) := by
    intro fu26
    induction fu26 with
    | zero =>
      intro j μ hj hm hfu
      exact absurd hfu (Nat.not_lt_zero _)
    | succ fu26 ih26 =>
      intro j μ hj hm hfu H locs ls hW hl
      refine lv_iload X.x X.b d_X_gotWith_26 (lv_at hl 0 rfl) ?_
      refine lv_iload X.x X.b d_X_gotWith_28 (lv_at hl 5 rfl) ?_
      refine lv_icmp_ge (tgt := 46) X.x X.b d_X_gotWith_30 (by decide) (fun c30 => ?_) (fun c30 => ?_)
      · have c30 : n ≤ j := (nI_leI (by omega) (by omega)).mp c30
        refine lv_aload_n X.x X.b d_X_gotWith_46 rfl (lv_at hl 1 rfl) ?_
        refine q_getr X hW qj3 rfl _ ds_X 2 (by decide) mw_185 rfl (c1 := cB 2) rfl d_X_gotWith_47 ?_
        refine q_getr X hW qj0 rfl _ (ds_cm (k := 2) (by decide)) 2 (by decide) mw_106 rfl (c1 := cB 2 + 3) rfl d_X_gotWith_50 ?_
        refine lv_iload_n X.x X.b d_X_gotWith_53 rfl (lv_at hl 2 rfl) ?_
        refine g_wk (show 2 < 3 by decide) X hW (show w < 6 by omega) d_X_gotWith_54 ?_
        refine lv_iconst (v := nI 4) X.x X.b d_X_gotWith_55 (by decide) ?_
        refine g_ald X hW (ds_w (w := w) (k := 2) (by decide) (by omega)) (q_in (by omega) (by decide)) (p0 := 44 + 6 * w + 4) (q_tn (by omega) (by omega)) (v := μ (44 + 6 * w + 4)) (by rw [qr_at]) d_X_gotWith_56 ?_
        exact q_pzret X rfl hW ⟨by rw [hm, show j = n by omega]; exact gotS_e hbe hv hw n, ⟨_, hm ▸ dF hu j, rfl⟩⟩ d_X_gotWith_57
      · have c30 : ¬ n ≤ j := fun z => c30 ((nI_leI (by omega) (by omega)).mpr z)
        refine lv_aload_n X.x X.b d_X_gotWith_33 rfl (lv_at hl 1 rfl) ?_
        refine q_getr X hW qj3 rfl _ ds_X 2 (by decide) mw_185 rfl (c1 := cB 2) rfl d_X_gotWith_34 ?_
        refine q_cvv X (c_Cm_passDay l E 2 (by decide) (qr S 2 μ) μ (by rw [qr_at]) (hm ▸ dF hu j)) hW (q_recv X hW (ds_cm (k := 2) (by decide)) rfl) ok_Cm_passDay mw_305 ⟨by decide, by decide⟩ (As := []) rfl rfl (Nat.le_of_ble_eq_true rfl) (lv := [(5, .int (nI j)), (0, .ref (eA E 0)), (1, .int (nI w)), (2, .int (nI f)), (3, .int v), (4, .int (nI n))]) hl ⟨Nat.le_refl 0, Nat.le_refl 0⟩ d_X_gotWith_37 (fun H locs hW => ?_)
        have hW : qWH E (qr S 2 (dayS μ)) s H locs := (by have h := hW; rw [qr_qr] at h; exact h)
        refine lv_iinc (v := nI (j + 1)) (lv' := [(5, .int (nI (j + 1))), (0, .ref (eA E 0)), (1, .int (nI w)), (2, .int (nI f)), (3, .int v), (4, .int (nI n))]) X.x X.b d_X_gotWith_40 hl (k := 0) rfl (by rw [show Int32.ofInt 1 = nI 1 from by decide, nI_add]) (by decide) rfl (fun ls hl => ?_)
        refine lv_goto (tgt := 26) X.x X.b d_X_gotWith_43 (by decide) ?_
        exact ih26 (j + 1) (dayS μ) (by omega) (by rw [hm]; rfl) (by omega) _ _ _ hW (lv_sub hl [0, 1, 2, 3, 4, 5] rfl)
  exact loop26 (n - 0 + 1) 0 r22 (by omega) (by rw [er22]; rfl) (Nat.lt_succ_self _) _ _ _ hW (lv_sub hl [0, 1, 2, 3, 4, 5] rfl)
set_option maxHeartbeats 1000000 in
set_option maxRecDepth 20000 in
theorem c_X_bestForGot_0 (l : Launch) (E : QE) (S : QM) (ρ φ τ : Nat → Int32) (hρ : S 0 = ρ) (hφ : S 14 = φ) (hτ : S 2 = τ) (hwf : WF ρ) (w n : Nat) (hw : w < nW ρ) (hn : n ≤ 40) (hτw : WF τ) : qCPi E l y_X_bestForGot prog_1_method_50_code 8 .int 6 [.ref (eA E 0), .int (nI w), .int (nI 0), .int (nI n)] S (nI (bst (fun i => gotS ρ w 0 (nI i) n) 16).1) (any S 2 WF) := by
  refine qCPi_of (by decide) (Nat.le_of_ble_eq_true rfl) (fun p e s m below meth c ls X hW hl => ?_)
  have hl : lv_has ls 8 [(0, .ref (eA E 0)), (1, .int (nI w)), (2, .int (nI 0)), (3, .int (nI n))] := hl
  have htl := hwf.tl
  have hwl := hwf.wl
  have hdl := hwf.dl
  have hbw : WF (becS τ ρ) := becS_wf hwf
  have hbe : eqv (becS τ ρ) ρ := becS_e hwf
  refine lv_iconst (v := nI 0) X.x X.b d_X_bestForGot_0 (by decide) ?_
  refine lv_istore (lv' := [(4, .int (nI 0)), (0, .ref (eA E 0)), (1, .int (nI w)), (2, .int (nI 0)), (3, .int (nI n))]) X.x X.b d_X_bestForGot_1 hl (by decide) rfl (fun ls hl => ?_)
  refine lv_iconst (v := (-1)) X.x X.b d_X_bestForGot_3 (by decide) ?_
  refine lv_istore (lv' := [(5, .int (-1)), (4, .int (nI 0)), (0, .ref (eA E 0)), (1, .int (nI w)), (2, .int (nI 0)), (3, .int (nI n))]) X.x X.b d_X_bestForGot_4 hl (by decide) rfl (fun ls hl => ?_)
  refine lv_iconst (v := nI 0) X.x X.b d_X_bestForGot_6 (by decide) ?_
  refine lv_istore (lv' := [(6, .int (nI 0)), (5, .int (-1)), (4, .int (nI 0)), (0, .ref (eA E 0)), (1, .int (nI w)), (2, .int (nI 0)), (3, .int (nI n))]) X.x X.b d_X_bestForGot_7 hl (by decide) rfl (fun ls hl => ?_)
  have hW : qWH E (qr S 2 τ) s s.heap [] := by rw [← hτ, qr_self]; exact hW
  have loop9 : ∀ (fu9 : Nat) (j : Nat) (b : Nat) (a : Int32) (ν : Nat → Int32), j ≤ 16 → (b, a) = bst (fun i => gotS ρ w 0 (nI i) n) j → WF ν → 16 - j < fu9 → ∀ (H : Heap) (locs : List Loc) (ls : Array Slot), qWH E (qr S 2 ν) s H locs → lv_has ls 8 [(6, .int (nI j)), (5, .int a), (4, .int (nI b)), (0, .ref (eA E 0)), (1, .int (nI w)), (2, .int (nI 0)), (3, .int (nI n))] → W p l e (qRm 6) s m ([.ref (eA E 0), .int (nI w), .int (nI 0), .int (nI n)] : List Value).toArray below meth c H locs 0 0 (MQ below (qQpi E (nI (bst (fun i => gotS ρ w 0 (nI i) n) 16).1) (any S 2 WF) s.heap.size) ([.ref (eA E 0), .int (nI w), .int (nI 0), .int (nI n)] : List Value).toArray s 0 0 (qAA E s.heap.size)) (F0 m 9 ls []) := by
    intro fu9
    induction fu9 with
    | zero =>
      intro j b a ν hj hb hν hfu
      exact absurd hfu (Nat.not_lt_zero _)
    | succ fu9 ih9 =>
      intro j b a ν hj hb hν hfu H locs ls hW hl
      refine lv_iload X.x X.b d_X_bestForGot_9 (lv_at hl 0 rfl) ?_
      refine q_gets X hW X.Z.2.2.1 mw_275 d_X_bestForGot_11 ?_
      refine lv_iload_n X.x X.b d_X_bestForGot_14 rfl (lv_at hl 5 rfl) ?_
      refine g_zald X hW X.Z.2.2.1 (q_in (show 0 < 6 by omega) (by decide)) (q_tn (by omega) (Nat.zero_add _)) d_X_bestForGot_15 ?_
      rw [show zt2.getD 0 0 = nI 15 from by decide]
      refine lv_icmp_gt (tgt := 51) X.x X.b d_X_bestForGot_16 (by decide) (fun c16 => ?_) (fun c16 => ?_)
      · have c16 : 15 < j := (nI_ltI (by omega) (by omega)).mp c16
        refine lv_iload X.x X.b d_X_bestForGot_51 (lv_at hl 2 rfl) ?_
        exact q_pzret X rfl hW ⟨by rw [show bst (fun i => gotS ρ w 0 (nI i) n) 16 = (b, a) by rw [hb, show j = 16 by omega]], ⟨_, hν, rfl⟩⟩ d_X_bestForGot_53
      · have c16 : ¬ 15 < j := fun z => c16 ((nI_ltI (by omega) (by omega)).mpr z)
        refine lv_aload_n X.x X.b d_X_bestForGot_19 rfl (lv_at hl 3 rfl) ?_
        refine lv_iload_n X.x X.b d_X_bestForGot_20 rfl (lv_at hl 4 rfl) ?_
        refine lv_iload_n X.x X.b d_X_bestForGot_21 rfl (lv_at hl 5 rfl) ?_
        refine lv_iload X.x X.b d_X_bestForGot_22 (lv_at hl 0 rfl) ?_
        refine lv_iload_n X.x X.b d_X_bestForGot_24 rfl (lv_at hl 6 rfl) ?_
        refine q_cvip X (c_X_gotWith l E (qr S 2 ν) ρ φ ν (by rw [qr_ne (by omega), hρ]) (by rw [qr_ne (by omega), hφ]) (by rw [qr_at]) hwf w 0 (nI j) n (by omega) (by omega) (by omega) (WF_wc hwf (by omega) (by omega))) hW (q_recv X hW ds_X rfl) ok_X_gotWith mw_407 ⟨by decide, by decide⟩ (As := [.int (nI w), .int (nI 0), .int (nI j), .int (nI n)]) rfl rfl (Nat.le_of_ble_eq_true rfl) (lv := [(6, .int (nI j)), (5, .int a), (4, .int (nI b)), (0, .ref (eA E 0)), (1, .int (nI w)), (2, .int (nI 0)), (3, .int (nI n))]) hl ⟨Nat.le_refl 0, Nat.le_refl 0⟩ d_X_bestForGot_25 (fun H locs Sq25 hP25 hW => ?_)
        obtain ⟨τ25, hτ25, rfl⟩ := hP25
        have hW : qWH E (qr S 2 τ25) s H locs := (by have h := hW; rw [qr_qr] at h; exact h)
        refine lv_istore (lv' := [(7, .int (gotS ρ w 0 (nI j) n)), (6, .int (nI j)), (5, .int a), (4, .int (nI b)), (0, .ref (eA E 0)), (1, .int (nI w)), (2, .int (nI 0)), (3, .int (nI n))]) X.x X.b d_X_bestForGot_28 hl (by decide) rfl (fun ls hl => ?_)
        refine lv_iload X.x X.b d_X_bestForGot_30 (lv_at hl 0 rfl) ?_
        refine lv_iload X.x X.b d_X_bestForGot_32 (lv_at hl 2 rfl) ?_
        refine lv_icmp_le (tgt := 45) X.x X.b d_X_bestForGot_34 (by decide) (fun c34 => ?_) (fun c34 => ?_)
        · refine lv_iinc (v := nI (j + 1)) (lv' := [(6, .int (nI (j + 1))), (7, .int (gotS ρ w 0 (nI j) n)), (5, .int a), (4, .int (nI b)), (0, .ref (eA E 0)), (1, .int (nI w)), (2, .int (nI 0)), (3, .int (nI n))]) X.x X.b d_X_bestForGot_45 hl (k := 1) rfl (by rw [show Int32.ofInt 1 = nI 1 from by decide, nI_add]) (by decide) rfl (fun ls hl => ?_)
          refine lv_goto (tgt := 9) X.x X.b d_X_bestForGot_48 (by decide) ?_
          exact ih9 (j + 1) b a τ25 (by omega) (by unfold bst; rw [← hb]; first | exact (if_pos (Int32.not_le.mp c34)).symm | exact (if_neg (Int32.not_lt.mpr c34)).symm) hτ25 (by omega) _ _ _ hW (lv_sub hl [0, 2, 3, 4, 5, 6, 7] rfl)
        · refine lv_iload X.x X.b d_X_bestForGot_37 (lv_at hl 1 rfl) ?_
          refine lv_istore (lv' := [(4, .int (nI j)), (7, .int (gotS ρ w 0 (nI j) n)), (6, .int (nI j)), (5, .int a), (0, .ref (eA E 0)), (1, .int (nI w)), (2, .int (nI 0)), (3, .int (nI n))]) X.x X.b d_X_bestForGot_39 hl (by decide) rfl (fun ls hl => ?_)
          refine lv_iload X.x X.b d_X_bestForGot_41 (lv_at hl 1 rfl) ?_
          refine lv_istore (lv' := [(5, .int (gotS ρ w 0 (nI j) n)), (4, .int (nI j)), (7, .int (gotS ρ w 0 (nI j) n)), (6, .int (nI j)), (0, .ref (eA E 0)), (1, .int (nI w)), (2, .int (nI 0)), (3, .int (nI n))]) X.x X.b d_X_bestForGot_43 hl (by decide) rfl (fun ls hl => ?_)
          refine lv_iinc (v := nI (j + 1)) (lv' := [(6, .int (nI (j + 1))), (5, .int (gotS ρ w 0 (nI j) n)), (4, .int (nI j)), (7, .int (gotS ρ w 0 (nI j) n)), (0, .ref (eA E 0)), (1, .int (nI w)), (2, .int (nI 0)), (3, .int (nI n))]) X.x X.b d_X_bestForGot_45 hl (k := 3) rfl (by rw [show Int32.ofInt 1 = nI 1 from by decide, nI_add]) (by decide) rfl (fun ls hl => ?_)
          refine lv_goto (tgt := 9) X.x X.b d_X_bestForGot_48 (by decide) ?_
          exact ih9 (j + 1) j (gotS ρ w 0 (nI j) n) τ25 (by omega) (by unfold bst; rw [← hb]; first | exact (if_pos (Int32.not_le.mp c34)).symm | exact (if_neg (Int32.not_lt.mpr c34)).symm) hτ25 (by omega) _ _ _ hW (lv_sub hl [0, 1, 2, 4, 5, 6, 7] rfl)
  exact loop9 (16 - 0 + 1) 0 0 (-1) τ (by omega) rfl hτw (Nat.lt_succ_self _) _ _ _ hW (lv_sub hl [0, 1, 2, 3, 4, 5, 6] rfl)
set_option maxHeartbeats 1000000 in
set_option maxRecDepth 20000 in
theorem c_X_bestForGot_1 (l : Launch) (E : QE) (S : QM) (ρ φ τ : Nat → Int32) (hρ : S 0 = ρ) (hφ : S 14 = φ) (hτ : S 2 = τ) (hwf : WF ρ) (w n : Nat) (hw : w < nW ρ) (hn : n ≤ 40) (hτw : WF τ) : qCPi E l y_X_bestForGot prog_1_method_50_code 8 .int 6 [.ref (eA E 0), .int (nI w), .int (nI 1), .int (nI n)] S (nI (bst (fun i => gotS ρ w 1 (nI i) n) 8).1) (any S 2 WF) := by
  refine qCPi_of (by decide) (Nat.le_of_ble_eq_true rfl) (fun p e s m below meth c ls X hW hl => ?_)
  have hl : lv_has ls 8 [(0, .ref (eA E 0)), (1, .int (nI w)), (2, .int (nI 1)), (3, .int (nI n))] := hl
  have htl := hwf.tl
  have hwl := hwf.wl
  have hdl := hwf.dl
  have hbw : WF (becS τ ρ) := becS_wf hwf
  have hbe : eqv (becS τ ρ) ρ := becS_e hwf
  refine lv_iconst (v := nI 0) X.x X.b d_X_bestForGot_0 (by decide) ?_
  refine lv_istore (lv' := [(4, .int (nI 0)), (0, .ref (eA E 0)), (1, .int (nI w)), (2, .int (nI 1)), (3, .int (nI n))]) X.x X.b d_X_bestForGot_1 hl (by decide) rfl (fun ls hl => ?_)
  refine lv_iconst (v := (-1)) X.x X.b d_X_bestForGot_3 (by decide) ?_
  refine lv_istore (lv' := [(5, .int (-1)), (4, .int (nI 0)), (0, .ref (eA E 0)), (1, .int (nI w)), (2, .int (nI 1)), (3, .int (nI n))]) X.x X.b d_X_bestForGot_4 hl (by decide) rfl (fun ls hl => ?_)
  refine lv_iconst (v := nI 0) X.x X.b d_X_bestForGot_6 (by decide) ?_
  refine lv_istore (lv' := [(6, .int (nI 0)), (5, .int (-1)), (4, .int (nI 0)), (0, .ref (eA E 0)), (1, .int (nI w)), (2, .int (nI 1)), (3, .int (nI n))]) X.x X.b d_X_bestForGot_7 hl (by decide) rfl (fun ls hl => ?_)
  have hW : qWH E (qr S 2 τ) s s.heap [] := by rw [← hτ, qr_self]; exact hW
  have loop9 : ∀ (fu9 : Nat) (j : Nat) (b : Nat) (a : Int32) (ν : Nat → Int32), j ≤ 8 → (b, a) = bst (fun i => gotS ρ w 1 (nI i) n) j → WF ν → 8 - j < fu9 → ∀ (H : Heap) (locs : List Loc) (ls : Array Slot), qWH E (qr S 2 ν) s H locs → lv_has ls 8 [(6, .int (nI j)), (5, .int a), (4, .int (nI b)), (0, .ref (eA E 0)), (1, .int (nI w)), (2, .int (nI 1)), (3, .int (nI n))] → W p l e (qRm 6) s m ([.ref (eA E 0), .int (nI w), .int (nI 1), .int (nI n)] : List Value).toArray below meth c H locs 0 0 (MQ below (qQpi E (nI (bst (fun i => gotS ρ w 1 (nI i) n) 8).1) (any S 2 WF) s.heap.size) ([.ref (eA E 0), .int (nI w), .int (nI 1), .int (nI n)] : List Value).toArray s 0 0 (qAA E s.heap.size)) (F0 m 9 ls []) := by
    intro fu9
    induction fu9 with
    | zero =>
      intro j b a ν hj hb hν hfu
      exact absurd hfu (Nat.not_lt_zero _)
    | succ fu9 ih9 =>
      intro j b a ν hj hb hν hfu H locs ls hW hl
      refine lv_iload X.x X.b d_X_bestForGot_9 (lv_at hl 0 rfl) ?_
      refine q_gets X hW X.Z.2.2.1 mw_275 d_X_bestForGot_11 ?_
      refine lv_iload_n X.x X.b d_X_bestForGot_14 rfl (lv_at hl 5 rfl) ?_
      refine g_zald X hW X.Z.2.2.1 (q_in (show 1 < 6 by omega) (by decide)) (q_tn (by omega) (Nat.zero_add _)) d_X_bestForGot_15 ?_
      rw [show zt2.getD 1 0 = nI 7 from by decide]
      refine lv_icmp_gt (tgt := 51) X.x X.b d_X_bestForGot_16 (by decide) (fun c16 => ?_) (fun c16 => ?_)
      · have c16 : 7 < j := (nI_ltI (by omega) (by omega)).mp c16
        refine lv_iload X.x X.b d_X_bestForGot_51 (lv_at hl 2 rfl) ?_
        exact q_pzret X rfl hW ⟨by rw [show bst (fun i => gotS ρ w 1 (nI i) n) 8 = (b, a) by rw [hb, show j = 8 by omega]], ⟨_, hν, rfl⟩⟩ d_X_bestForGot_53
      · have c16 : ¬ 7 < j := fun z => c16 ((nI_ltI (by omega) (by omega)).mpr z)
        refine lv_aload_n X.x X.b d_X_bestForGot_19 rfl (lv_at hl 3 rfl) ?_
        refine lv_iload_n X.x X.b d_X_bestForGot_20 rfl (lv_at hl 4 rfl) ?_
        refine lv_iload_n X.x X.b d_X_bestForGot_21 rfl (lv_at hl 5 rfl) ?_
        refine lv_iload X.x X.b d_X_bestForGot_22 (lv_at hl 0 rfl) ?_
        refine lv_iload_n X.x X.b d_X_bestForGot_24 rfl (lv_at hl 6 rfl) ?_
        refine q_cvip X (c_X_gotWith l E (qr S 2 ν) ρ φ ν (by rw [qr_ne (by omega), hρ]) (by rw [qr_ne (by omega), hφ]) (by rw [qr_at]) hwf w 1 (nI j) n (by omega) (by omega) (by omega) (WF_free hwf (by omega))) hW (q_recv X hW ds_X rfl) ok_X_gotWith mw_407 ⟨by decide, by decide⟩ (As := [.int (nI w), .int (nI 1), .int (nI j), .int (nI n)]) rfl rfl (Nat.le_of_ble_eq_true rfl) (lv := [(6, .int (nI j)), (5, .int a), (4, .int (nI b)), (0, .ref (eA E 0)), (1, .int (nI w)), (2, .int (nI 1)), (3, .int (nI n))]) hl ⟨Nat.le_refl 0, Nat.le_refl 0⟩ d_X_bestForGot_25 (fun H locs Sq25 hP25 hW => ?_)
        obtain ⟨τ25, hτ25, rfl⟩ := hP25
        have hW : qWH E (qr S 2 τ25) s H locs := (by have h := hW; rw [qr_qr] at h; exact h)
        refine lv_istore (lv' := [(7, .int (gotS ρ w 1 (nI j) n)), (6, .int (nI j)), (5, .int a), (4, .int (nI b)), (0, .ref (eA E 0)), (1, .int (nI w)), (2, .int (nI 1)), (3, .int (nI n))]) X.x X.b d_X_bestForGot_28 hl (by decide) rfl (fun ls hl => ?_)
        refine lv_iload X.x X.b d_X_bestForGot_30 (lv_at hl 0 rfl) ?_
        refine lv_iload X.x X.b d_X_bestForGot_32 (lv_at hl 2 rfl) ?_
        refine lv_icmp_le (tgt := 45) X.x X.b d_X_bestForGot_34 (by decide) (fun c34 => ?_) (fun c34 => ?_)
        · refine lv_iinc (v := nI (j + 1)) (lv' := [(6, .int (nI (j + 1))), (7, .int (gotS ρ w 1 (nI j) n)), (5, .int a), (4, .int (nI b)), (0, .ref (eA E 0)), (1, .int (nI w)), (2, .int (nI 1)), (3, .int (nI n))]) X.x X.b d_X_bestForGot_45 hl (k := 1) rfl (by rw [show Int32.ofInt 1 = nI 1 from by decide, nI_add]) (by decide) rfl (fun ls hl => ?_)
          refine lv_goto (tgt := 9) X.x X.b d_X_bestForGot_48 (by decide) ?_
          exact ih9 (j + 1) b a τ25 (by omega) (by unfold bst; rw [← hb]; first | exact (if_pos (Int32.not_le.mp c34)).symm | exact (if_neg (Int32.not_lt.mpr c34)).symm) hτ25 (by omega) _ _ _ hW (lv_sub hl [0, 2, 3, 4, 5, 6, 7] rfl)
        · refine lv_iload X.x X.b d_X_bestForGot_37 (lv_at hl 1 rfl) ?_
          refine lv_istore (lv' := [(4, .int (nI j)), (7, .int (gotS ρ w 1 (nI j) n)), (6, .int (nI j)), (5, .int a), (0, .ref (eA E 0)), (1, .int (nI w)), (2, .int (nI 1)), (3, .int (nI n))]) X.x X.b d_X_bestForGot_39 hl (by decide) rfl (fun ls hl => ?_)
          refine lv_iload X.x X.b d_X_bestForGot_41 (lv_at hl 1 rfl) ?_
          refine lv_istore (lv' := [(5, .int (gotS ρ w 1 (nI j) n)), (4, .int (nI j)), (7, .int (gotS ρ w 1 (nI j) n)), (6, .int (nI j)), (0, .ref (eA E 0)), (1, .int (nI w)), (2, .int (nI 1)), (3, .int (nI n))]) X.x X.b d_X_bestForGot_43 hl (by decide) rfl (fun ls hl => ?_)
          refine lv_iinc (v := nI (j + 1)) (lv' := [(6, .int (nI (j + 1))), (5, .int (gotS ρ w 1 (nI j) n)), (4, .int (nI j)), (7, .int (gotS ρ w 1 (nI j) n)), (0, .ref (eA E 0)), (1, .int (nI w)), (2, .int (nI 1)), (3, .int (nI n))]) X.x X.b d_X_bestForGot_45 hl (k := 3) rfl (by rw [show Int32.ofInt 1 = nI 1 from by decide, nI_add]) (by decide) rfl (fun ls hl => ?_)
          refine lv_goto (tgt := 9) X.x X.b d_X_bestForGot_48 (by decide) ?_
          exact ih9 (j + 1) j (gotS ρ w 1 (nI j) n) τ25 (by omega) (by unfold bst; rw [← hb]; first | exact (if_pos (Int32.not_le.mp c34)).symm | exact (if_neg (Int32.not_lt.mpr c34)).symm) hτ25 (by omega) _ _ _ hW (lv_sub hl [0, 1, 2, 4, 5, 6, 7] rfl)
  exact loop9 (8 - 0 + 1) 0 0 (-1) τ (by omega) rfl hτw (Nat.lt_succ_self _) _ _ _ hW (lv_sub hl [0, 1, 2, 3, 4, 5, 6] rfl)
set_option maxHeartbeats 1000000 in
set_option maxRecDepth 20000 in
theorem c_X_go_s (l : Launch) (E : QE) (S : QM) (ρ φ : Nat → Int32) (hρ : S 0 = ρ) (hφ : S 14 = φ) (hwf : WF ρ) (n : Nat) (h1 : 1 ≤ n) (hn : n ≤ 60) (hs : ¬ nD ρ ≤ 99999 - n) : qCI E l y_X_go prog_1_method_12_code 3 .int 5 [.ref (eA E 0), .int (nI n)] S (-1000005) (qr S 14 (fnS φ 4)) := by
  refine qCI_of (by decide) (Nat.le_of_ble_eq_true rfl) (fun p e s m below meth c ls X hW hl => ?_)
  have hl : lv_has ls 3 [(0, .ref (eA E 0)), (1, .int (nI n))] := hl
  have htl := hwf.tl
  have hwl := hwf.wl
  have hdl := hwf.dl
  refine lv_iload_n X.x X.b d_X_go_0 rfl (lv_at hl 1 rfl) ?_
  refine lv_iconst (v := nI 1) X.x X.b d_X_go_1 (by decide) ?_
  refine lv_bipush (v := nI 60) X.x X.b d_X_go_2 (by decide) ?_
  refine q_csi X (c_X_within l E S (nI n) (nI 1) (nI 60)) hW ok_X_within mw_209 ⟨by decide, by decide⟩ (As := [.int (nI n), .int (nI 1), .int (nI 60)]) rfl rfl (Nat.le_of_ble_eq_true rfl) (lv := [(0, .ref (eA E 0)), (1, .int (nI n))]) hl ⟨Nat.le_refl 0, Nat.le_refl 0⟩ d_X_go_4 (fun H locs hW => ?_)
  refine lv_if_ne (tgt := 17) X.x X.b d_X_go_7 (by decide) (fun c7 => ?_) (fun c7 => ?_)
  · have c7 := b2i_n c7
    have c7 := (inR_i (by omega) (by decide)).mp c7
    refine lv_aload_n X.x X.b d_X_go_17 rfl (lv_at hl 0 rfl) ?_
    refine q_getr X hW qj3 rfl _ ds_X 0 (by decide) mw_183 rfl (c1 := cB 0) rfl d_X_go_18 ?_
    refine g_geti X hW qj0 rfl _ (ds_cm (k := 0) (by decide)) 6 (by decide) mw_116 rfl (r0 := 0) (p0 := 0) rfl (v := ρ 0) (by rw [hρ]) d_X_go_21 ?_
    rw [hwf.d]
    refine lv_ldc (v := nI 99999) X.x X.b X.ow (X.ts _ mw_303) d_X_go_24 ?_
    refine lv_iload_n X.x X.b d_X_go_26 rfl (lv_at hl 1 rfl) ?_
    refine lv_isub X.x X.b d_X_go_27 ?_
    rw [pk_sub (by omega)]
    refine lv_icmp_le (tgt := 38) X.x X.b d_X_go_28 (by decide) (fun c28 => ?_) (fun c28 => ?_)
    · have c28 : (nD ρ) ≤ (99999 - n) := (nI_leI (by omega) (by omega)).mp c28
      omega
    · have c28 : ¬ (nD ρ) ≤ (99999 - n) := fun z => c28 ((nI_leI (by omega) (by omega)).mpr z)
      refine lv_aload_n X.x X.b d_X_go_31 rfl (lv_at hl 0 rfl) ?_
      refine lv_ldc (v := (-1000005)) X.x X.b X.ow (X.ts _ mw_304) d_X_go_32 ?_
      refine q_cvi X (c_X_told_4 l E S φ (by rw [hφ])) hW (q_recv X hW ds_X rfl) ok_X_told mw_213 ⟨by decide, by decide⟩ (As := [.int (-1000005)]) rfl rfl (Nat.le_of_ble_eq_true rfl) (lv := [(0, .ref (eA E 0)), (1, .int (nI n))]) hl ⟨Nat.le_refl 0, Nat.le_refl 0⟩ d_X_go_34 (fun H locs hW => ?_)
      have hW : qWH E (qr S 14 (fnS φ 4)) s H locs := hW
      exact q_zret X rfl hW ⟨rfl, rfl⟩ d_X_go_37
  · have c7 := b2i_e c7
    have c7 := mt (inR_i (by omega) (by decide)).mpr c7
    omega
set_option maxHeartbeats 1000000 in
set_option maxRecDepth 20000 in
theorem c_X_go_g (l : Launch) (E : QE) (S : QM) (ρ φ : Nat → Int32) (hρ : S 0 = ρ) (hφ : S 14 = φ) (hwf : WF ρ) (n : Nat) (h1 : 1 ≤ n) (hn : n ≤ 60) (hs : nD ρ ≤ 99999 - n) : qCI E l y_X_go prog_1_method_12_code 3 .int 5 [.ref (eA E 0), .int (nI n)] S (sumS (daysS n ρ) 4) (qr S 0 (daysS n ρ)) := by
  refine qCI_of (by decide) (Nat.le_of_ble_eq_true rfl) (fun p e s m below meth c ls X hW hl => ?_)
  have hl : lv_has ls 3 [(0, .ref (eA E 0)), (1, .int (nI n))] := hl
  have htl := hwf.tl
  have hwl := hwf.wl
  have hdl := hwf.dl
  refine lv_iload_n X.x X.b d_X_go_0 rfl (lv_at hl 1 rfl) ?_
  refine lv_iconst (v := nI 1) X.x X.b d_X_go_1 (by decide) ?_
  refine lv_bipush (v := nI 60) X.x X.b d_X_go_2 (by decide) ?_
  refine q_csi X (c_X_within l E S (nI n) (nI 1) (nI 60)) hW ok_X_within mw_209 ⟨by decide, by decide⟩ (As := [.int (nI n), .int (nI 1), .int (nI 60)]) rfl rfl (Nat.le_of_ble_eq_true rfl) (lv := [(0, .ref (eA E 0)), (1, .int (nI n))]) hl ⟨Nat.le_refl 0, Nat.le_refl 0⟩ d_X_go_4 (fun H locs hW => ?_)
  refine lv_if_ne (tgt := 17) X.x X.b d_X_go_7 (by decide) (fun c7 => ?_) (fun c7 => ?_)
  · have c7 := b2i_n c7
    have c7 := (inR_i (by omega) (by decide)).mp c7
    refine lv_aload_n X.x X.b d_X_go_17 rfl (lv_at hl 0 rfl) ?_
    refine q_getr X hW qj3 rfl _ ds_X 0 (by decide) mw_183 rfl (c1 := cB 0) rfl d_X_go_18 ?_
    refine g_geti X hW qj0 rfl _ (ds_cm (k := 0) (by decide)) 6 (by decide) mw_116 rfl (r0 := 0) (p0 := 0) rfl (v := ρ 0) (by rw [hρ]) d_X_go_21 ?_
    rw [hwf.d]
    refine lv_ldc (v := nI 99999) X.x X.b X.ow (X.ts _ mw_303) d_X_go_24 ?_
    refine lv_iload_n X.x X.b d_X_go_26 rfl (lv_at hl 1 rfl) ?_
    refine lv_isub X.x X.b d_X_go_27 ?_
    rw [pk_sub (by omega)]
    refine lv_icmp_le (tgt := 38) X.x X.b d_X_go_28 (by decide) (fun c28 => ?_) (fun c28 => ?_)
    · have c28 : (nD ρ) ≤ (99999 - n) := (nI_leI (by omega) (by omega)).mp c28
      refine lv_iconst (v := nI 0) X.x X.b d_X_go_38 (by decide) ?_
      refine lv_istore_n (lv' := [(2, .int (nI 0)), (0, .ref (eA E 0)), (1, .int (nI n))]) X.x X.b d_X_go_39 rfl hl (by decide) rfl (fun ls hl => ?_)
      have hW : qWH E (qr S 0 ρ) s H locs := by rw [← hρ, qr_self]; exact hW
      have loop40 : ∀ (fu40 : Nat) (j : Nat) (μ : Nat → Int32), j ≤ n → μ = daysS j ρ → n - j < fu40 → ∀ (H : Heap) (locs : List Loc) (ls : Array Slot), qWH E (qr S 0 μ) s H locs → lv_has ls 3 [(2, .int (nI j)), (0, .ref (eA E 0)), (1, .int (nI n))] → W p l e (qRm 5) s m ([.ref (eA E 0), .int (nI n)] : List Value).toArray below meth c H locs 0 0 (MQ below (qQi E (sumS (daysS n ρ) 4) (qr S 0 (daysS n ρ)) s.heap.size) ([.ref (eA E 0), .int (nI n)] : List Value).toArray s 0 0 (qAA E s.heap.size)) (F0 m 40 ls []) := by
        intro fu40
        induction fu40 with
        | zero =>
          intro j μ hj hm hfu
          exact absurd hfu (Nat.not_lt_zero _)
        | succ fu40 ih40 =>
          intro j μ hj hm hfu H locs ls hW hl
          refine lv_iload_n X.x X.b d_X_go_40 rfl (lv_at hl 0 rfl) ?_
          refine lv_iload_n X.x X.b d_X_go_41 rfl (lv_at hl 2 rfl) ?_
          refine lv_icmp_ge (tgt := 58) X.x X.b d_X_go_42 (by decide) (fun c42 => ?_) (fun c42 => ?_)
          · have c42 : n ≤ j := (nI_leI (by omega) (by omega)).mp c42
            refine lv_aload_n X.x X.b d_X_go_58 rfl (lv_at hl 1 rfl) ?_
            refine q_getr X hW qj3 rfl _ ds_X 0 (by decide) mw_183 rfl (c1 := cB 0) rfl d_X_go_59 ?_
            refine lv_iconst (v := nI 4) X.x X.b d_X_go_62 (by decide) ?_
            refine q_cvi X (c_Cm_sumOf l E 0 (by decide) (qr S 0 μ) μ (by rw [qr_at]) (hm ▸ dF hwf j) 4 (by omega)) hW (q_recv X hW (ds_cm (k := 0) (by decide)) rfl) ok_Cm_sumOf mw_338 ⟨by decide, by decide⟩ (As := [.int (nI 4)]) rfl rfl (Nat.le_of_ble_eq_true rfl) (lv := [(2, .int (nI j)), (0, .ref (eA E 0)), (1, .int (nI n))]) hl ⟨Nat.le_refl 0, Nat.le_refl 0⟩ d_X_go_63 (fun H locs hW => ?_)
            exact q_zret X rfl hW ⟨by rw [hm, show j = n by omega], by rw [hm, show j = n by omega]⟩ d_X_go_66
          · have c42 : ¬ n ≤ j := fun z => c42 ((nI_leI (by omega) (by omega)).mpr z)
            refine lv_aload_n X.x X.b d_X_go_45 rfl (lv_at hl 1 rfl) ?_
            refine q_getr X hW qj3 rfl _ ds_X 0 (by decide) mw_183 rfl (c1 := cB 0) rfl d_X_go_46 ?_
            refine q_cvv X (c_Cm_passDay l E 0 (by decide) (qr S 0 μ) μ (by rw [qr_at]) (hm ▸ dF hwf j)) hW (q_recv X hW (ds_cm (k := 0) (by decide)) rfl) ok_Cm_passDay mw_305 ⟨by decide, by decide⟩ (As := []) rfl rfl (Nat.le_of_ble_eq_true rfl) (lv := [(2, .int (nI j)), (0, .ref (eA E 0)), (1, .int (nI n))]) hl ⟨Nat.le_refl 0, Nat.le_refl 0⟩ d_X_go_49 (fun H locs hW => ?_)
            have hW : qWH E (qr S 0 (dayS μ)) s H locs := (by have h := hW; rw [qr_qr] at h; exact h)
            refine lv_iinc (v := nI (j + 1)) (lv' := [(2, .int (nI (j + 1))), (0, .ref (eA E 0)), (1, .int (nI n))]) X.x X.b d_X_go_52 hl (k := 0) rfl (by rw [show Int32.ofInt 1 = nI 1 from by decide, nI_add]) (by decide) rfl (fun ls hl => ?_)
            refine lv_goto (tgt := 40) X.x X.b d_X_go_55 (by decide) ?_
            exact ih40 (j + 1) (dayS μ) (by omega) (by rw [hm]; rfl) (by omega) _ _ _ hW (lv_sub hl [0, 1, 2] rfl)
      exact loop40 (n - 0 + 1) 0 ρ (by omega) rfl (Nat.lt_succ_self _) _ _ _ hW (lv_sub hl [0, 1, 2] rfl)
    · have c28 : ¬ (nD ρ) ≤ (99999 - n) := fun z => c28 ((nI_leI (by omega) (by omega)).mpr z)
      omega
  · have c7 := b2i_e c7
    have c7 := mt (inR_i (by omega) (by decide)).mpr c7
    omega
set_option maxHeartbeats 1000000 in
set_option maxRecDepth 20000 in
theorem c_X_go_b (l : Launch) (E : QE) (S : QM) (ρ φ : Nat → Int32) (hρ : S 0 = ρ) (hφ : S 14 = φ) (hwf : WF ρ) (x : Int32) (h : ¬ (inR 1 60 x)) : qCI E l y_X_go prog_1_method_12_code 3 .int 3 [.ref (eA E 0), .int x] S (-1000001) (qr S 14 (fnS φ 0)) := by
  refine qCI_of (by decide) (Nat.le_of_ble_eq_true rfl) (fun p e s m below meth c ls X hW hl => ?_)
  have hl : lv_has ls 3 [(0, .ref (eA E 0)), (1, .int x)] := hl
  have htl := hwf.tl
  have hwl := hwf.wl
  have hdl := hwf.dl
  refine lv_iload_n X.x X.b d_X_go_0 rfl (lv_at hl 1 rfl) ?_
  refine lv_iconst (v := nI 1) X.x X.b d_X_go_1 (by decide) ?_
  refine lv_bipush (v := nI 60) X.x X.b d_X_go_2 (by decide) ?_
  refine q_csi X (c_X_within l E S x (nI 1) (nI 60)) hW ok_X_within mw_209 ⟨by decide, by decide⟩ (As := [.int x, .int (nI 1), .int (nI 60)]) rfl rfl (Nat.le_of_ble_eq_true rfl) (lv := [(0, .ref (eA E 0)), (1, .int x)]) hl ⟨Nat.le_refl 0, Nat.le_refl 0⟩ d_X_go_4 (fun H locs hW => ?_)
  refine lv_if_ne (tgt := 17) X.x X.b d_X_go_7 (by decide) (fun c7 => ?_) (fun c7 => ?_)
  · have c7 := b2i_n c7
    exact absurd c7 h
  · have c7 := b2i_e c7
    refine lv_aload_n X.x X.b d_X_go_10 rfl (lv_at hl 0 rfl) ?_
    refine lv_ldc (v := (-1000001)) X.x X.b X.ow (X.ts _ mw_212) d_X_go_11 ?_
    refine q_cvi X (c_X_told_0 l E S φ (by rw [hφ])) hW (q_recv X hW ds_X rfl) ok_X_told mw_213 ⟨by decide, by decide⟩ (As := [.int (-1000001)]) rfl rfl (Nat.le_of_ble_eq_true rfl) (lv := [(0, .ref (eA E 0)), (1, .int x)]) hl ⟨Nat.le_refl 0, Nat.le_refl 0⟩ d_X_go_13 (fun H locs hW => ?_)
    have hW : qWH E (qr S 14 (fnS φ 0)) s H locs := hW
    exact q_zret X rfl hW ⟨rfl, rfl⟩ d_X_go_16
set_option maxHeartbeats 1000000 in
set_option maxRecDepth 20000 in
theorem c_X_now_0 (l : Launch) (E : QE) (S : QM) (ρ φ : Nat → Int32) (hρ : S 0 = ρ) (hφ : S 14 = φ) (hwf : WF ρ)  : qCI E l y_X_now prog_1_method_13_code 2 .int 5 [.ref (eA E 0), .int (nI 0)] S (ρ 0) S := by
  refine qCI_of (by decide) (Nat.le_of_ble_eq_true rfl) (fun p e s m below meth c ls X hW hl => ?_)
  have hl : lv_has ls 2 [(0, .ref (eA E 0)), (1, .int (nI 0))] := hl
  have htl := hwf.tl
  have hwl := hwf.wl
  have hdl := hwf.dl
  refine lv_iload_n X.x X.b d_X_now_0 rfl (lv_at hl 1 rfl) ?_
  refine lv_tableIn (tgt := 48) (off := 47) X.x X.b d_X_now_1 (by decide) (by decide) (by decide) (by decide) ?_
  refine lv_aload_n X.x X.b d_X_now_48 rfl (lv_at hl 0 rfl) ?_
  refine q_getr X hW qj3 rfl _ ds_X 0 (by decide) mw_183 rfl (c1 := cB 0) rfl d_X_now_49 ?_
  refine g_geti X hW qj0 rfl _ (ds_cm (k := 0) (by decide)) 6 (by decide) mw_116 rfl (r0 := 0) (p0 := 0) rfl (v := ρ 0) (by rw [hρ]) d_X_now_52 ?_
  exact q_zret X rfl hW ⟨rfl, rfl⟩ d_X_now_55
set_option maxHeartbeats 1000000 in
set_option maxRecDepth 20000 in
theorem c_X_now_1 (l : Launch) (E : QE) (S : QM) (ρ φ : Nat → Int32) (hρ : S 0 = ρ) (hφ : S 14 = φ) (hwf : WF ρ)  : qCI E l y_X_now prog_1_method_13_code 2 .int 5 [.ref (eA E 0), .int (nI 1)] S (sumS ρ 4) S := by
  refine qCI_of (by decide) (Nat.le_of_ble_eq_true rfl) (fun p e s m below meth c ls X hW hl => ?_)
  have hl : lv_has ls 2 [(0, .ref (eA E 0)), (1, .int (nI 1))] := hl
  have htl := hwf.tl
  have hwl := hwf.wl
  have hdl := hwf.dl
  refine lv_iload_n X.x X.b d_X_now_0 rfl (lv_at hl 1 rfl) ?_
  refine lv_tableIn (tgt := 56) (off := 55) X.x X.b d_X_now_1 (by decide) (by decide) (by decide) (by decide) ?_
  refine lv_aload_n X.x X.b d_X_now_56 rfl (lv_at hl 0 rfl) ?_
  refine q_getr X hW qj3 rfl _ ds_X 0 (by decide) mw_183 rfl (c1 := cB 0) rfl d_X_now_57 ?_
  refine lv_iconst (v := nI 4) X.x X.b d_X_now_60 (by decide) ?_
  refine q_cvi X (c_Cm_sumOf l E 0 (by decide) S ρ (by rw [hρ]) hwf 4 (by omega)) hW (q_recv X hW (ds_cm (k := 0) (by decide)) rfl) ok_Cm_sumOf mw_338 ⟨by decide, by decide⟩ (As := [.int (nI 4)]) rfl rfl (Nat.le_of_ble_eq_true rfl) (lv := [(0, .ref (eA E 0)), (1, .int (nI 1))]) hl ⟨Nat.le_refl 0, Nat.le_refl 0⟩ d_X_now_61 (fun H locs hW => ?_)
  exact q_zret X rfl hW ⟨rfl, rfl⟩ d_X_now_64
set_option maxHeartbeats 1000000 in
set_option maxRecDepth 20000 in
theorem c_X_now_2 (l : Launch) (E : QE) (S : QM) (ρ φ : Nat → Int32) (hρ : S 0 = ρ) (hφ : S 14 = φ) (hwf : WF ρ)  : qCI E l y_X_now prog_1_method_13_code 2 .int 5 [.ref (eA E 0), .int (nI 2)] S (sumS ρ 5) S := by
  refine qCI_of (by decide) (Nat.le_of_ble_eq_true rfl) (fun p e s m below meth c ls X hW hl => ?_)
  have hl : lv_has ls 2 [(0, .ref (eA E 0)), (1, .int (nI 2))] := hl
  have htl := hwf.tl
  have hwl := hwf.wl
  have hdl := hwf.dl
  refine lv_iload_n X.x X.b d_X_now_0 rfl (lv_at hl 1 rfl) ?_
  refine lv_tableIn (tgt := 65) (off := 64) X.x X.b d_X_now_1 (by decide) (by decide) (by decide) (by decide) ?_
  refine lv_aload_n X.x X.b d_X_now_65 rfl (lv_at hl 0 rfl) ?_
  refine q_getr X hW qj3 rfl _ ds_X 0 (by decide) mw_183 rfl (c1 := cB 0) rfl d_X_now_66 ?_
  refine lv_iconst (v := nI 5) X.x X.b d_X_now_69 (by decide) ?_
  refine q_cvi X (c_Cm_sumOf l E 0 (by decide) S ρ (by rw [hρ]) hwf 5 (by omega)) hW (q_recv X hW (ds_cm (k := 0) (by decide)) rfl) ok_Cm_sumOf mw_338 ⟨by decide, by decide⟩ (As := [.int (nI 5)]) rfl rfl (Nat.le_of_ble_eq_true rfl) (lv := [(0, .ref (eA E 0)), (1, .int (nI 2))]) hl ⟨Nat.le_refl 0, Nat.le_refl 0⟩ d_X_now_70 (fun H locs hW => ?_)
  exact q_zret X rfl hW ⟨rfl, rfl⟩ d_X_now_73
set_option maxHeartbeats 1000000 in
set_option maxRecDepth 20000 in
theorem c_X_now_3 (l : Launch) (E : QE) (S : QM) (ρ φ : Nat → Int32) (hρ : S 0 = ρ) (hφ : S 14 = φ) (hwf : WF ρ)  : qCI E l y_X_now prog_1_method_13_code 2 .int 5 [.ref (eA E 0), .int (nI 3)] S (setS (gdd ρ) (nW ρ)) S := by
  refine qCI_of (by decide) (Nat.le_of_ble_eq_true rfl) (fun p e s m below meth c ls X hW hl => ?_)
  have hl : lv_has ls 2 [(0, .ref (eA E 0)), (1, .int (nI 3))] := hl
  have htl := hwf.tl
  have hwl := hwf.wl
  have hdl := hwf.dl
  refine lv_iload_n X.x X.b d_X_now_0 rfl (lv_at hl 1 rfl) ?_
  refine lv_tableIn (tgt := 74) (off := 73) X.x X.b d_X_now_1 (by decide) (by decide) (by decide) (by decide) ?_
  refine lv_aload_n X.x X.b d_X_now_74 rfl (lv_at hl 0 rfl) ?_
  refine q_getr X hW qj3 rfl _ ds_X 0 (by decide) mw_183 rfl (c1 := cB 0) rfl d_X_now_75 ?_
  refine q_cvi X (c_Cm_guidedWalkers l E 0 (by decide) S ρ (by rw [hρ]) hwf ) hW (q_recv X hW (ds_cm (k := 0) (by decide)) rfl) ok_Cm_guidedWalkers mw_346 ⟨by decide, by decide⟩ (As := []) rfl rfl (Nat.le_of_ble_eq_true rfl) (lv := [(0, .ref (eA E 0)), (1, .int (nI 3))]) hl ⟨Nat.le_refl 0, Nat.le_refl 0⟩ d_X_now_78 (fun H locs hW => ?_)
  exact q_zret X rfl hW ⟨rfl, rfl⟩ d_X_now_81
set_option maxHeartbeats 1000000 in
set_option maxRecDepth 20000 in
theorem c_X_now_4 (l : Launch) (E : QE) (S : QM) (ρ φ : Nat → Int32) (hρ : S 0 = ρ) (hφ : S 14 = φ) (hwf : WF ρ)  : qCI E l y_X_now prog_1_method_13_code 2 .int 5 [.ref (eA E 0), .int (nI 4)] S (carS ρ) S := by
  refine qCI_of (by decide) (Nat.le_of_ble_eq_true rfl) (fun p e s m below meth c ls X hW hl => ?_)
  have hl : lv_has ls 2 [(0, .ref (eA E 0)), (1, .int (nI 4))] := hl
  have htl := hwf.tl
  have hwl := hwf.wl
  have hdl := hwf.dl
  refine lv_iload_n X.x X.b d_X_now_0 rfl (lv_at hl 1 rfl) ?_
  refine lv_tableIn (tgt := 82) (off := 81) X.x X.b d_X_now_1 (by decide) (by decide) (by decide) (by decide) ?_
  refine lv_aload_n X.x X.b d_X_now_82 rfl (lv_at hl 0 rfl) ?_
  refine q_getr X hW qj3 rfl _ ds_X 0 (by decide) mw_183 rfl (c1 := cB 0) rfl d_X_now_83 ?_
  refine q_cvi X (c_Cm_thingsCaredFor l E 0 (by decide) S ρ (by rw [hρ]) hwf ) hW (q_recv X hW (ds_cm (k := 0) (by decide)) rfl) ok_Cm_thingsCaredFor mw_350 ⟨by decide, by decide⟩ (As := []) rfl rfl (Nat.le_of_ble_eq_true rfl) (lv := [(0, .ref (eA E 0)), (1, .int (nI 4))]) hl ⟨Nat.le_refl 0, Nat.le_refl 0⟩ d_X_now_86 (fun H locs hW => ?_)
  exact q_zret X rfl hW ⟨rfl, rfl⟩ d_X_now_89
set_option maxHeartbeats 1000000 in
set_option maxRecDepth 20000 in
theorem c_X_now_5 (l : Launch) (E : QE) (S : QM) (ρ φ : Nat → Int32) (hρ : S 0 = ρ) (hφ : S 14 = φ) (hwf : WF ρ)  : qCI E l y_X_now prog_1_method_13_code 2 .int 5 [.ref (eA E 0), .int (nI 5)] S (wcsS ρ) S := by
  refine qCI_of (by decide) (Nat.le_of_ble_eq_true rfl) (fun p e s m below meth c ls X hW hl => ?_)
  have hl : lv_has ls 2 [(0, .ref (eA E 0)), (1, .int (nI 5))] := hl
  have htl := hwf.tl
  have hwl := hwf.wl
  have hdl := hwf.dl
  refine lv_iload_n X.x X.b d_X_now_0 rfl (lv_at hl 1 rfl) ?_
  refine lv_tableIn (tgt := 90) (off := 89) X.x X.b d_X_now_1 (by decide) (by decide) (by decide) (by decide) ?_
  refine lv_aload_n X.x X.b d_X_now_90 rfl (lv_at hl 0 rfl) ?_
  refine q_getr X hW qj3 rfl _ ds_X 0 (by decide) mw_183 rfl (c1 := cB 0) rfl d_X_now_91 ?_
  refine q_cvi X (c_Cm_cellsWithWalkers l E 0 (by decide) S ρ (by rw [hρ]) hwf ) hW (q_recv X hW (ds_cm (k := 0) (by decide)) rfl) ok_Cm_cellsWithWalkers mw_354 ⟨by decide, by decide⟩ (As := []) rfl rfl (Nat.le_of_ble_eq_true rfl) (lv := [(0, .ref (eA E 0)), (1, .int (nI 5))]) hl ⟨Nat.le_refl 0, Nat.le_refl 0⟩ d_X_now_94 (fun H locs hW => ?_)
  exact q_zret X rfl hW ⟨rfl, rfl⟩ d_X_now_97
set_option maxHeartbeats 1000000 in
set_option maxRecDepth 20000 in
theorem c_X_now_6 (l : Launch) (E : QE) (S : QM) (ρ φ : Nat → Int32) (hρ : S 0 = ρ) (hφ : S 14 = φ) (hwf : WF ρ)  : qCI E l y_X_now prog_1_method_13_code 2 .int 5 [.ref (eA E 0), .int (nI 6)] S (tcsS ρ) S := by
  refine qCI_of (by decide) (Nat.le_of_ble_eq_true rfl) (fun p e s m below meth c ls X hW hl => ?_)
  have hl : lv_has ls 2 [(0, .ref (eA E 0)), (1, .int (nI 6))] := hl
  have htl := hwf.tl
  have hwl := hwf.wl
  have hdl := hwf.dl
  refine lv_iload_n X.x X.b d_X_now_0 rfl (lv_at hl 1 rfl) ?_
  refine lv_tableIn (tgt := 98) (off := 97) X.x X.b d_X_now_1 (by decide) (by decide) (by decide) (by decide) ?_
  refine lv_aload_n X.x X.b d_X_now_98 rfl (lv_at hl 0 rfl) ?_
  refine q_getr X hW qj3 rfl _ ds_X 0 (by decide) mw_183 rfl (c1 := cB 0) rfl d_X_now_99 ?_
  refine q_cvi X (c_Cm_cellsWithThings l E 0 (by decide) S ρ (by rw [hρ]) hwf ) hW (q_recv X hW (ds_cm (k := 0) (by decide)) rfl) ok_Cm_cellsWithThings mw_358 ⟨by decide, by decide⟩ (As := []) rfl rfl (Nat.le_of_ble_eq_true rfl) (lv := [(0, .ref (eA E 0)), (1, .int (nI 6))]) hl ⟨Nat.le_refl 0, Nat.le_refl 0⟩ d_X_now_102 (fun H locs hW => ?_)
  exact q_zret X rfl hW ⟨rfl, rfl⟩ d_X_now_105
set_option maxHeartbeats 1000000 in
set_option maxRecDepth 20000 in
theorem c_X_now_7 (l : Launch) (E : QE) (S : QM) (ρ φ : Nat → Int32) (hρ : S 0 = ρ) (hφ : S 14 = φ) (hwf : WF ρ)  : qCI E l y_X_now prog_1_method_13_code 2 .int 5 [.ref (eA E 0), .int (nI 7)] S (unsS ρ) S := by
  refine qCI_of (by decide) (Nat.le_of_ble_eq_true rfl) (fun p e s m below meth c ls X hW hl => ?_)
  have hl : lv_has ls 2 [(0, .ref (eA E 0)), (1, .int (nI 7))] := hl
  have htl := hwf.tl
  have hwl := hwf.wl
  have hdl := hwf.dl
  refine lv_iload_n X.x X.b d_X_now_0 rfl (lv_at hl 1 rfl) ?_
  refine lv_tableIn (tgt := 106) (off := 105) X.x X.b d_X_now_1 (by decide) (by decide) (by decide) (by decide) ?_
  refine lv_aload_n X.x X.b d_X_now_106 rfl (lv_at hl 0 rfl) ?_
  refine q_getr X hW qj3 rfl _ ds_X 0 (by decide) mw_183 rfl (c1 := cB 0) rfl d_X_now_107 ?_
  refine q_cvi X (c_Cm_unseenThings l E 0 (by decide) S ρ (by rw [hρ]) hwf ) hW (q_recv X hW (ds_cm (k := 0) (by decide)) rfl) ok_Cm_unseenThings mw_362 ⟨by decide, by decide⟩ (As := []) rfl rfl (Nat.le_of_ble_eq_true rfl) (lv := [(0, .ref (eA E 0)), (1, .int (nI 7))]) hl ⟨Nat.le_refl 0, Nat.le_refl 0⟩ d_X_now_110 (fun H locs hW => ?_)
  exact q_zret X rfl hW ⟨rfl, rfl⟩ d_X_now_113
set_option maxHeartbeats 1000000 in
set_option maxRecDepth 20000 in
theorem c_X_now_b (l : Launch) (E : QE) (S : QM) (ρ φ : Nat → Int32) (hρ : S 0 = ρ) (hφ : S 14 = φ) (hwf : WF ρ) (x : Int32) (h : ¬ inR 0 7 x) : qCI E l y_X_now prog_1_method_13_code 2 .int 5 [.ref (eA E 0), .int x] S (-1000001) (qr S 14 (fnS φ 0)) := by
  refine qCI_of (by decide) (Nat.le_of_ble_eq_true rfl) (fun p e s m below meth c ls X hW hl => ?_)
  have hl : lv_has ls 2 [(0, .ref (eA E 0)), (1, .int x)] := hl
  have htl := hwf.tl
  have hwl := hwf.wl
  have hdl := hwf.dl
  refine lv_iload_n X.x X.b d_X_now_0 rfl (lv_at hl 1 rfl) ?_
  by_cases c1_0 : x = nI 0
  · exact absurd (show inR 0 7 x by rw [c1_0]; exact (inR_i (by omega) (by decide)).mpr (by omega)) h
  by_cases c1_1 : x = nI 1
  · exact absurd (show inR 0 7 x by rw [c1_1]; exact (inR_i (by omega) (by decide)).mpr (by omega)) h
  by_cases c1_2 : x = nI 2
  · exact absurd (show inR 0 7 x by rw [c1_2]; exact (inR_i (by omega) (by decide)).mpr (by omega)) h
  by_cases c1_3 : x = nI 3
  · exact absurd (show inR 0 7 x by rw [c1_3]; exact (inR_i (by omega) (by decide)).mpr (by omega)) h
  by_cases c1_4 : x = nI 4
  · exact absurd (show inR 0 7 x by rw [c1_4]; exact (inR_i (by omega) (by decide)).mpr (by omega)) h
  by_cases c1_5 : x = nI 5
  · exact absurd (show inR 0 7 x by rw [c1_5]; exact (inR_i (by omega) (by decide)).mpr (by omega)) h
  by_cases c1_6 : x = nI 6
  · exact absurd (show inR 0 7 x by rw [c1_6]; exact (inR_i (by omega) (by decide)).mpr (by omega)) h
  by_cases c1_7 : x = nI 7
  · exact absurd (show inR 0 7 x by rw [c1_7]; exact (inR_i (by omega) (by decide)).mpr (by omega)) h
  refine lv_tableOut (tgt := 114) X.x X.b d_X_now_1 (by have qc1_0 := lv_neT c1_0 (by decide : Int32.toInt (nI 0) = 0); have qc1_1 := lv_neT c1_1 (by decide : Int32.toInt (nI 1) = 1); have qc1_2 := lv_neT c1_2 (by decide : Int32.toInt (nI 2) = 2); have qc1_3 := lv_neT c1_3 (by decide : Int32.toInt (nI 3) = 3); have qc1_4 := lv_neT c1_4 (by decide : Int32.toInt (nI 4) = 4); have qc1_5 := lv_neT c1_5 (by decide : Int32.toInt (nI 5) = 5); have qc1_6 := lv_neT c1_6 (by decide : Int32.toInt (nI 6) = 6); have qc1_7 := lv_neT c1_7 (by decide : Int32.toInt (nI 7) = 7); omega) (by decide) ?_
  refine lv_aload_n X.x X.b d_X_now_114 rfl (lv_at hl 0 rfl) ?_
  refine lv_ldc (v := (-1000001)) X.x X.b X.ow (X.ts _ mw_212) d_X_now_115 ?_
  refine q_cvi X (c_X_told_0 l E S φ (by rw [hφ])) hW (q_recv X hW ds_X rfl) ok_X_told mw_213 ⟨by decide, by decide⟩ (As := [.int (-1000001)]) rfl rfl (Nat.le_of_ble_eq_true rfl) (lv := [(0, .ref (eA E 0)), (1, .int x)]) hl ⟨Nat.le_refl 0, Nat.le_refl 0⟩ d_X_now_117 (fun H locs hW => ?_)
  have hW : qWH E (qr S 14 (fnS φ 0)) s H locs := hW
  exact q_zret X rfl hW ⟨rfl, rfl⟩ d_X_now_120
set_option maxHeartbeats 1000000 in
set_option maxRecDepth 20000 in
theorem c_X_ahead_1 (l : Launch) (E : QE) (S : QM) (ρ φ τ : Nat → Int32) (hρ : S 0 = ρ) (hφ : S 14 = φ) (hτ : S 2 = τ) (hwf : WF ρ) (t n : Nat) (ht : t < nT ρ) (hn : n ≤ 100) : qCPi E l y_X_ahead prog_1_method_14_code 4 .int 6 [.ref (eA E 0), .int (nI t), .int (nI 1), .int (nI n)] S (daysS n ρ (20 + 3 * t + 1)) (any S 2 WF) := by
  refine qCPi_of (by decide) (Nat.le_of_ble_eq_true rfl) (fun p e s m below meth c ls X hW hl => ?_)
  have hl : lv_has ls 4 [(0, .ref (eA E 0)), (1, .int (nI t)), (2, .int (nI 1)), (3, .int (nI n))] := hl
  have htl := hwf.tl
  have hwl := hwf.wl
  have hdl := hwf.dl
  have hbw : WF (becS τ ρ) := becS_wf hwf
  have hbe : eqv (becS τ ρ) ρ := becS_e hwf
  refine lv_aload_n X.x X.b d_X_ahead_0 rfl (lv_at hl 0 rfl) ?_
  refine q_getr X hW qj3 rfl _ ds_X 0 (by decide) mw_183 rfl (c1 := cB 0) rfl d_X_ahead_1 ?_
  refine lv_iload_n X.x X.b d_X_ahead_4 rfl (lv_at hl 1 rfl) ?_
  refine q_cvi X (c_Cm_hasThing l E 0 (by decide) S ρ (by rw [hρ]) hwf (nI t)) hW (q_recv X hW (ds_cm (k := 0) (by decide)) rfl) ok_Cm_hasThing mw_244 ⟨by decide, by decide⟩ (As := [.int (nI t)]) rfl rfl (Nat.le_of_ble_eq_true rfl) (lv := [(0, .ref (eA E 0)), (1, .int (nI t)), (2, .int (nI 1)), (3, .int (nI n))]) hl ⟨Nat.le_refl 0, Nat.le_refl 0⟩ d_X_ahead_5 (fun H locs hW => ?_)
  refine lv_if_eq (tgt := 30) X.x X.b d_X_ahead_8 (by decide) (fun c8 => ?_) (fun c8 => ?_)
  · have c8 := b2i_e c8
    have c8 := mt (isT_i hwf (by omega)).mpr c8
    omega
  · have c8 := b2i_n c8
    have c8 := (isT_i hwf (by omega)).mp c8
    refine lv_iload_n X.x X.b d_X_ahead_11 rfl (lv_at hl 2 rfl) ?_
    refine lv_iconst (v := nI 1) X.x X.b d_X_ahead_12 (by decide) ?_
    refine lv_iconst (v := nI 2) X.x X.b d_X_ahead_13 (by decide) ?_
    refine q_csi X (c_X_within l E S (nI 1) (nI 1) (nI 2)) hW ok_X_within mw_209 ⟨by decide, by decide⟩ (As := [.int (nI 1), .int (nI 1), .int (nI 2)]) rfl rfl (Nat.le_of_ble_eq_true rfl) (lv := [(0, .ref (eA E 0)), (1, .int (nI t)), (2, .int (nI 1)), (3, .int (nI n))]) hl ⟨Nat.le_refl 0, Nat.le_refl 0⟩ d_X_ahead_14 (fun H locs hW => ?_)
    refine lv_if_eq (tgt := 30) X.x X.b d_X_ahead_17 (by decide) (fun c17 => ?_) (fun c17 => ?_)
    · have c17 := b2i_e c17
      have c17 := mt (inR_i (by omega) (by decide)).mpr c17
      omega
    · have c17 := b2i_n c17
      have c17 := (inR_i (by omega) (by decide)).mp c17
      refine lv_iload_n X.x X.b d_X_ahead_20 rfl (lv_at hl 3 rfl) ?_
      refine lv_iconst (v := nI 0) X.x X.b d_X_ahead_21 (by decide) ?_
      refine lv_bipush (v := nI 100) X.x X.b d_X_ahead_22 (by decide) ?_
      refine q_csi X (c_X_within l E S (nI n) (nI 0) (nI 100)) hW ok_X_within mw_209 ⟨by decide, by decide⟩ (As := [.int (nI n), .int (nI 0), .int (nI 100)]) rfl rfl (Nat.le_of_ble_eq_true rfl) (lv := [(0, .ref (eA E 0)), (1, .int (nI t)), (2, .int (nI 1)), (3, .int (nI n))]) hl ⟨Nat.le_refl 0, Nat.le_refl 0⟩ d_X_ahead_24 (fun H locs hW => ?_)
      refine lv_if_ne (tgt := 37) X.x X.b d_X_ahead_27 (by decide) (fun c27 => ?_) (fun c27 => ?_)
      · have c27 := b2i_n c27
        have c27 := (inR_i (by omega) (by decide)).mp c27
        refine lv_aload_n X.x X.b d_X_ahead_37 rfl (lv_at hl 0 rfl) ?_
        refine q_getr X hW qj3 rfl _ ds_X 2 (by decide) mw_185 rfl (c1 := cB 2) rfl d_X_ahead_38 ?_
        refine lv_aload_n X.x X.b d_X_ahead_41 rfl (lv_at hl 0 rfl) ?_
        refine q_getr X hW qj3 rfl _ ds_X 0 (by decide) mw_183 rfl (c1 := cB 0) rfl d_X_ahead_42 ?_
        refine q_cvv X (c_Cm_become l E 2 0 (by decide) (by decide) (by decide) S τ ρ (by rw [hτ]) (by rw [hρ]) hwf) hW (q_recv X hW (ds_cm (k := 2) (by decide)) rfl) ok_Cm_become mw_371 ⟨by decide, by decide⟩ (As := [.ref (eA E (cB 0))]) rfl rfl (Nat.le_of_ble_eq_true rfl) (lv := [(0, .ref (eA E 0)), (1, .int (nI t)), (2, .int (nI 1)), (3, .int (nI n))]) hl ⟨Nat.le_refl 0, Nat.le_refl 0⟩ d_X_ahead_45 (fun H locs hW => ?_)
        have hW : qWH E (qr S 2 (becS τ ρ)) s H locs := hW
        refine lv_aload_n X.x X.b d_X_ahead_48 rfl (lv_at hl 0 rfl) ?_
        refine lv_iload_n X.x X.b d_X_ahead_49 rfl (lv_at hl 3 rfl) ?_
        refine q_cvv X (c_X_tryDays l E (qr S 2 (becS τ ρ)) (becS τ ρ) (by rw [qr_at]) hbw n (by omega)) hW (q_recv X hW ds_X rfl) ok_X_tryDays mw_378 ⟨by decide, by decide⟩ (As := [.int (nI n)]) rfl rfl (Nat.le_of_ble_eq_true rfl) (lv := [(0, .ref (eA E 0)), (1, .int (nI t)), (2, .int (nI 1)), (3, .int (nI n))]) hl ⟨Nat.le_refl 0, Nat.le_refl 0⟩ d_X_ahead_50 (fun H locs hW => ?_)
        have hW : qWH E (qr S 2 (daysS n (becS τ ρ))) s H locs := (by have h := hW; rw [qr_qr] at h; exact h)
        refine lv_aload_n X.x X.b d_X_ahead_53 rfl (lv_at hl 0 rfl) ?_
        refine q_getr X hW qj3 rfl _ ds_X 2 (by decide) mw_185 rfl (c1 := cB 2) rfl d_X_ahead_54 ?_
        refine q_getr X hW qj0 rfl _ (ds_cm (k := 2) (by decide)) 1 (by decide) mw_103 rfl (c1 := cB 2 + 2) rfl d_X_ahead_57 ?_
        refine lv_iload_n X.x X.b d_X_ahead_60 rfl (lv_at hl 1 rfl) ?_
        refine g_th (show 2 < 3 by decide) X hW (show t < 8 by omega) d_X_ahead_61 ?_
        refine lv_iload_n X.x X.b d_X_ahead_62 rfl (lv_at hl 2 rfl) ?_
        refine g_ald X hW (ds_t (t := t) (k := 2) (by decide) (by omega)) (q_in (by omega) (by decide)) (p0 := 20 + 3 * t + 1) (q_tn (by omega) (by omega)) (v := (daysS n (becS τ ρ)) (20 + 3 * t + 1)) (by rw [qr_at]) d_X_ahead_63 ?_
        exact q_pzret X rfl hW ⟨(daysS_e hbe hbw n).tp (show t < nT _ from dT hbw (by rw [hbe.nT]; exact ht) n) 1 (by omega), ⟨_, dF hbw n, rfl⟩⟩ d_X_ahead_64
      · have c27 := b2i_e c27
        have c27 := mt (inR_i (by omega) (by decide)).mpr c27
        omega
set_option maxHeartbeats 1000000 in
set_option maxRecDepth 20000 in
theorem c_X_ahead_2 (l : Launch) (E : QE) (S : QM) (ρ φ τ : Nat → Int32) (hρ : S 0 = ρ) (hφ : S 14 = φ) (hτ : S 2 = τ) (hwf : WF ρ) (t n : Nat) (ht : t < nT ρ) (hn : n ≤ 100) : qCPi E l y_X_ahead prog_1_method_14_code 4 .int 6 [.ref (eA E 0), .int (nI t), .int (nI 2), .int (nI n)] S (daysS n ρ (20 + 3 * t + 2)) (any S 2 WF) := by
  refine qCPi_of (by decide) (Nat.le_of_ble_eq_true rfl) (fun p e s m below meth c ls X hW hl => ?_)
  have hl : lv_has ls 4 [(0, .ref (eA E 0)), (1, .int (nI t)), (2, .int (nI 2)), (3, .int (nI n))] := hl
  have htl := hwf.tl
  have hwl := hwf.wl
  have hdl := hwf.dl
  have hbw : WF (becS τ ρ) := becS_wf hwf
  have hbe : eqv (becS τ ρ) ρ := becS_e hwf
  refine lv_aload_n X.x X.b d_X_ahead_0 rfl (lv_at hl 0 rfl) ?_
  refine q_getr X hW qj3 rfl _ ds_X 0 (by decide) mw_183 rfl (c1 := cB 0) rfl d_X_ahead_1 ?_
  refine lv_iload_n X.x X.b d_X_ahead_4 rfl (lv_at hl 1 rfl) ?_
  refine q_cvi X (c_Cm_hasThing l E 0 (by decide) S ρ (by rw [hρ]) hwf (nI t)) hW (q_recv X hW (ds_cm (k := 0) (by decide)) rfl) ok_Cm_hasThing mw_244 ⟨by decide, by decide⟩ (As := [.int (nI t)]) rfl rfl (Nat.le_of_ble_eq_true rfl) (lv := [(0, .ref (eA E 0)), (1, .int (nI t)), (2, .int (nI 2)), (3, .int (nI n))]) hl ⟨Nat.le_refl 0, Nat.le_refl 0⟩ d_X_ahead_5 (fun H locs hW => ?_)
  refine lv_if_eq (tgt := 30) X.x X.b d_X_ahead_8 (by decide) (fun c8 => ?_) (fun c8 => ?_)
  · have c8 := b2i_e c8
    have c8 := mt (isT_i hwf (by omega)).mpr c8
    omega
  · have c8 := b2i_n c8
    have c8 := (isT_i hwf (by omega)).mp c8
    refine lv_iload_n X.x X.b d_X_ahead_11 rfl (lv_at hl 2 rfl) ?_
    refine lv_iconst (v := nI 1) X.x X.b d_X_ahead_12 (by decide) ?_
    refine lv_iconst (v := nI 2) X.x X.b d_X_ahead_13 (by decide) ?_
    refine q_csi X (c_X_within l E S (nI 2) (nI 1) (nI 2)) hW ok_X_within mw_209 ⟨by decide, by decide⟩ (As := [.int (nI 2), .int (nI 1), .int (nI 2)]) rfl rfl (Nat.le_of_ble_eq_true rfl) (lv := [(0, .ref (eA E 0)), (1, .int (nI t)), (2, .int (nI 2)), (3, .int (nI n))]) hl ⟨Nat.le_refl 0, Nat.le_refl 0⟩ d_X_ahead_14 (fun H locs hW => ?_)
    refine lv_if_eq (tgt := 30) X.x X.b d_X_ahead_17 (by decide) (fun c17 => ?_) (fun c17 => ?_)
    · have c17 := b2i_e c17
      have c17 := mt (inR_i (by omega) (by decide)).mpr c17
      omega
    · have c17 := b2i_n c17
      have c17 := (inR_i (by omega) (by decide)).mp c17
      refine lv_iload_n X.x X.b d_X_ahead_20 rfl (lv_at hl 3 rfl) ?_
      refine lv_iconst (v := nI 0) X.x X.b d_X_ahead_21 (by decide) ?_
      refine lv_bipush (v := nI 100) X.x X.b d_X_ahead_22 (by decide) ?_
      refine q_csi X (c_X_within l E S (nI n) (nI 0) (nI 100)) hW ok_X_within mw_209 ⟨by decide, by decide⟩ (As := [.int (nI n), .int (nI 0), .int (nI 100)]) rfl rfl (Nat.le_of_ble_eq_true rfl) (lv := [(0, .ref (eA E 0)), (1, .int (nI t)), (2, .int (nI 2)), (3, .int (nI n))]) hl ⟨Nat.le_refl 0, Nat.le_refl 0⟩ d_X_ahead_24 (fun H locs hW => ?_)
      refine lv_if_ne (tgt := 37) X.x X.b d_X_ahead_27 (by decide) (fun c27 => ?_) (fun c27 => ?_)
      · have c27 := b2i_n c27
        have c27 := (inR_i (by omega) (by decide)).mp c27
        refine lv_aload_n X.x X.b d_X_ahead_37 rfl (lv_at hl 0 rfl) ?_
        refine q_getr X hW qj3 rfl _ ds_X 2 (by decide) mw_185 rfl (c1 := cB 2) rfl d_X_ahead_38 ?_
        refine lv_aload_n X.x X.b d_X_ahead_41 rfl (lv_at hl 0 rfl) ?_
        refine q_getr X hW qj3 rfl _ ds_X 0 (by decide) mw_183 rfl (c1 := cB 0) rfl d_X_ahead_42 ?_
        refine q_cvv X (c_Cm_become l E 2 0 (by decide) (by decide) (by decide) S τ ρ (by rw [hτ]) (by rw [hρ]) hwf) hW (q_recv X hW (ds_cm (k := 2) (by decide)) rfl) ok_Cm_become mw_371 ⟨by decide, by decide⟩ (As := [.ref (eA E (cB 0))]) rfl rfl (Nat.le_of_ble_eq_true rfl) (lv := [(0, .ref (eA E 0)), (1, .int (nI t)), (2, .int (nI 2)), (3, .int (nI n))]) hl ⟨Nat.le_refl 0, Nat.le_refl 0⟩ d_X_ahead_45 (fun H locs hW => ?_)
        have hW : qWH E (qr S 2 (becS τ ρ)) s H locs := hW
        refine lv_aload_n X.x X.b d_X_ahead_48 rfl (lv_at hl 0 rfl) ?_
        refine lv_iload_n X.x X.b d_X_ahead_49 rfl (lv_at hl 3 rfl) ?_
        refine q_cvv X (c_X_tryDays l E (qr S 2 (becS τ ρ)) (becS τ ρ) (by rw [qr_at]) hbw n (by omega)) hW (q_recv X hW ds_X rfl) ok_X_tryDays mw_378 ⟨by decide, by decide⟩ (As := [.int (nI n)]) rfl rfl (Nat.le_of_ble_eq_true rfl) (lv := [(0, .ref (eA E 0)), (1, .int (nI t)), (2, .int (nI 2)), (3, .int (nI n))]) hl ⟨Nat.le_refl 0, Nat.le_refl 0⟩ d_X_ahead_50 (fun H locs hW => ?_)
        have hW : qWH E (qr S 2 (daysS n (becS τ ρ))) s H locs := (by have h := hW; rw [qr_qr] at h; exact h)
        refine lv_aload_n X.x X.b d_X_ahead_53 rfl (lv_at hl 0 rfl) ?_
        refine q_getr X hW qj3 rfl _ ds_X 2 (by decide) mw_185 rfl (c1 := cB 2) rfl d_X_ahead_54 ?_
        refine q_getr X hW qj0 rfl _ (ds_cm (k := 2) (by decide)) 1 (by decide) mw_103 rfl (c1 := cB 2 + 2) rfl d_X_ahead_57 ?_
        refine lv_iload_n X.x X.b d_X_ahead_60 rfl (lv_at hl 1 rfl) ?_
        refine g_th (show 2 < 3 by decide) X hW (show t < 8 by omega) d_X_ahead_61 ?_
        refine lv_iload_n X.x X.b d_X_ahead_62 rfl (lv_at hl 2 rfl) ?_
        refine g_ald X hW (ds_t (t := t) (k := 2) (by decide) (by omega)) (q_in (by omega) (by decide)) (p0 := 20 + 3 * t + 2) (q_tn (by omega) (by omega)) (v := (daysS n (becS τ ρ)) (20 + 3 * t + 2)) (by rw [qr_at]) d_X_ahead_63 ?_
        exact q_pzret X rfl hW ⟨(daysS_e hbe hbw n).tp (show t < nT _ from dT hbw (by rw [hbe.nT]; exact ht) n) 2 (by omega), ⟨_, dF hbw n, rfl⟩⟩ d_X_ahead_64
      · have c27 := b2i_e c27
        have c27 := mt (inR_i (by omega) (by decide)).mpr c27
        omega
set_option maxHeartbeats 1000000 in
set_option maxRecDepth 20000 in
theorem c_X_ahead_b (l : Launch) (E : QE) (S : QM) (ρ φ : Nat → Int32) (hρ : S 0 = ρ) (hφ : S 14 = φ) (hwf : WF ρ) (x y z : Int32) (h : ¬ (isT ρ x ∧ inR 1 2 y ∧ inR 0 100 z)) : qCI E l y_X_ahead prog_1_method_14_code 4 .int 3 [.ref (eA E 0), .int x, .int y, .int z] S (-1000001) (qr S 14 (fnS φ 0)) := by
  refine qCI_of (by decide) (Nat.le_of_ble_eq_true rfl) (fun p e s m below meth c ls X hW hl => ?_)
  have hl : lv_has ls 4 [(0, .ref (eA E 0)), (1, .int x), (2, .int y), (3, .int z)] := hl
  have htl := hwf.tl
  have hwl := hwf.wl
  have hdl := hwf.dl
  refine lv_aload_n X.x X.b d_X_ahead_0 rfl (lv_at hl 0 rfl) ?_
  refine q_getr X hW qj3 rfl _ ds_X 0 (by decide) mw_183 rfl (c1 := cB 0) rfl d_X_ahead_1 ?_
  refine lv_iload_n X.x X.b d_X_ahead_4 rfl (lv_at hl 1 rfl) ?_
  refine q_cvi X (c_Cm_hasThing l E 0 (by decide) S ρ (by rw [hρ]) hwf x) hW (q_recv X hW (ds_cm (k := 0) (by decide)) rfl) ok_Cm_hasThing mw_244 ⟨by decide, by decide⟩ (As := [.int x]) rfl rfl (Nat.le_of_ble_eq_true rfl) (lv := [(0, .ref (eA E 0)), (1, .int x), (2, .int y), (3, .int z)]) hl ⟨Nat.le_refl 0, Nat.le_refl 0⟩ d_X_ahead_5 (fun H locs hW => ?_)
  refine lv_if_eq (tgt := 30) X.x X.b d_X_ahead_8 (by decide) (fun c8 => ?_) (fun c8 => ?_)
  · have c8 := b2i_e c8
    refine lv_aload_n X.x X.b d_X_ahead_30 rfl (lv_at hl 0 rfl) ?_
    refine lv_ldc (v := (-1000001)) X.x X.b X.ow (X.ts _ mw_212) d_X_ahead_31 ?_
    refine q_cvi X (c_X_told_0 l E S φ (by rw [hφ])) hW (q_recv X hW ds_X rfl) ok_X_told mw_213 ⟨by decide, by decide⟩ (As := [.int (-1000001)]) rfl rfl (Nat.le_of_ble_eq_true rfl) (lv := [(0, .ref (eA E 0)), (1, .int x), (2, .int y), (3, .int z)]) hl ⟨Nat.le_refl 0, Nat.le_refl 0⟩ d_X_ahead_33 (fun H locs hW => ?_)
    have hW : qWH E (qr S 14 (fnS φ 0)) s H locs := hW
    exact q_zret X rfl hW ⟨rfl, rfl⟩ d_X_ahead_36
  · have c8 := b2i_n c8
    refine lv_iload_n X.x X.b d_X_ahead_11 rfl (lv_at hl 2 rfl) ?_
    refine lv_iconst (v := nI 1) X.x X.b d_X_ahead_12 (by decide) ?_
    refine lv_iconst (v := nI 2) X.x X.b d_X_ahead_13 (by decide) ?_
    refine q_csi X (c_X_within l E S y (nI 1) (nI 2)) hW ok_X_within mw_209 ⟨by decide, by decide⟩ (As := [.int y, .int (nI 1), .int (nI 2)]) rfl rfl (Nat.le_of_ble_eq_true rfl) (lv := [(0, .ref (eA E 0)), (1, .int x), (2, .int y), (3, .int z)]) hl ⟨Nat.le_refl 0, Nat.le_refl 0⟩ d_X_ahead_14 (fun H locs hW => ?_)
    refine lv_if_eq (tgt := 30) X.x X.b d_X_ahead_17 (by decide) (fun c17 => ?_) (fun c17 => ?_)
    · have c17 := b2i_e c17
      refine lv_aload_n X.x X.b d_X_ahead_30 rfl (lv_at hl 0 rfl) ?_
      refine lv_ldc (v := (-1000001)) X.x X.b X.ow (X.ts _ mw_212) d_X_ahead_31 ?_
      refine q_cvi X (c_X_told_0 l E S φ (by rw [hφ])) hW (q_recv X hW ds_X rfl) ok_X_told mw_213 ⟨by decide, by decide⟩ (As := [.int (-1000001)]) rfl rfl (Nat.le_of_ble_eq_true rfl) (lv := [(0, .ref (eA E 0)), (1, .int x), (2, .int y), (3, .int z)]) hl ⟨Nat.le_refl 0, Nat.le_refl 0⟩ d_X_ahead_33 (fun H locs hW => ?_)
      have hW : qWH E (qr S 14 (fnS φ 0)) s H locs := hW
      exact q_zret X rfl hW ⟨rfl, rfl⟩ d_X_ahead_36
    · have c17 := b2i_n c17
      refine lv_iload_n X.x X.b d_X_ahead_20 rfl (lv_at hl 3 rfl) ?_
      refine lv_iconst (v := nI 0) X.x X.b d_X_ahead_21 (by decide) ?_
      refine lv_bipush (v := nI 100) X.x X.b d_X_ahead_22 (by decide) ?_
      refine q_csi X (c_X_within l E S z (nI 0) (nI 100)) hW ok_X_within mw_209 ⟨by decide, by decide⟩ (As := [.int z, .int (nI 0), .int (nI 100)]) rfl rfl (Nat.le_of_ble_eq_true rfl) (lv := [(0, .ref (eA E 0)), (1, .int x), (2, .int y), (3, .int z)]) hl ⟨Nat.le_refl 0, Nat.le_refl 0⟩ d_X_ahead_24 (fun H locs hW => ?_)
      refine lv_if_ne (tgt := 37) X.x X.b d_X_ahead_27 (by decide) (fun c27 => ?_) (fun c27 => ?_)
      · have c27 := b2i_n c27
        exact absurd ⟨c8, c17, c27⟩ h
      · have c27 := b2i_e c27
        refine lv_aload_n X.x X.b d_X_ahead_30 rfl (lv_at hl 0 rfl) ?_
        refine lv_ldc (v := (-1000001)) X.x X.b X.ow (X.ts _ mw_212) d_X_ahead_31 ?_
        refine q_cvi X (c_X_told_0 l E S φ (by rw [hφ])) hW (q_recv X hW ds_X rfl) ok_X_told mw_213 ⟨by decide, by decide⟩ (As := [.int (-1000001)]) rfl rfl (Nat.le_of_ble_eq_true rfl) (lv := [(0, .ref (eA E 0)), (1, .int x), (2, .int y), (3, .int z)]) hl ⟨Nat.le_refl 0, Nat.le_refl 0⟩ d_X_ahead_33 (fun H locs hW => ?_)
        have hW : qWH E (qr S 14 (fnS φ 0)) s H locs := hW
        exact q_zret X rfl hW ⟨rfl, rfl⟩ d_X_ahead_36
set_option maxHeartbeats 1000000 in
set_option maxRecDepth 20000 in
theorem c_X_later_0 (l : Launch) (E : QE) (S : QM) (ρ φ τ : Nat → Int32) (hρ : S 0 = ρ) (hφ : S 14 = φ) (hτ : S 2 = τ) (hwf : WF ρ) (w n : Nat) (hw : w < nW ρ) (hn : n ≤ 100) : qCPi E l y_X_later prog_1_method_15_code 5 .int 6 [.ref (eA E 0), .int (nI w), .int (nI 0), .int (nI n)] S (daysS n ρ (44 + 6 * w)) (any S 2 WF) := by
  refine qCPi_of (by decide) (Nat.le_of_ble_eq_true rfl) (fun p e s m below meth c ls X hW hl => ?_)
  have hl : lv_has ls 5 [(0, .ref (eA E 0)), (1, .int (nI w)), (2, .int (nI 0)), (3, .int (nI n))] := hl
  have htl := hwf.tl
  have hwl := hwf.wl
  have hdl := hwf.dl
  have hbw : WF (becS τ ρ) := becS_wf hwf
  have hbe : eqv (becS τ ρ) ρ := becS_e hwf
  refine lv_iload_n X.x X.b d_X_later_0 rfl (lv_at hl 2 rfl) ?_
  refine lv_if_eq (tgt := 13) X.x X.b d_X_later_1 (by decide) (fun c1 => ?_) (fun c1 => ?_)
  · have c1 : 0 = 0 := (nI_eq (by omega) (by omega)).mp c1
    refine lv_iconst (v := nI 1) X.x X.b d_X_later_13 (by decide) ?_
    refine lv_goto (tgt := 18) X.x X.b d_X_later_14 (by decide) ?_
    refine lv_istore (lv' := [(4, .int (nI 1)), (0, .ref (eA E 0)), (1, .int (nI w)), (2, .int (nI 0)), (3, .int (nI n))]) X.x X.b d_X_later_18 hl (by decide) rfl (fun ls hl => ?_)
    refine lv_aload_n X.x X.b d_X_later_20 rfl (lv_at hl 1 rfl) ?_
    refine q_getr X hW qj3 rfl _ ds_X 0 (by decide) mw_183 rfl (c1 := cB 0) rfl d_X_later_21 ?_
    refine lv_iload_n X.x X.b d_X_later_24 rfl (lv_at hl 2 rfl) ?_
    refine q_cvi X (c_Cm_hasWalker l E 0 (by decide) S ρ (by rw [hρ]) hwf (nI w)) hW (q_recv X hW (ds_cm (k := 0) (by decide)) rfl) ok_Cm_hasWalker mw_265 ⟨by decide, by decide⟩ (As := [.int (nI w)]) rfl rfl (Nat.le_of_ble_eq_true rfl) (lv := [(4, .int (nI 1)), (0, .ref (eA E 0)), (1, .int (nI w)), (2, .int (nI 0)), (3, .int (nI n))]) hl ⟨Nat.le_refl 0, Nat.le_refl 0⟩ d_X_later_25 (fun H locs hW => ?_)
    refine lv_if_eq (tgt := 46) X.x X.b d_X_later_28 (by decide) (fun c28 => ?_) (fun c28 => ?_)
    · have c28 := b2i_e c28
      have c28 := mt (isW_i hwf (by omega)).mpr c28
      omega
    · have c28 := b2i_n c28
      have c28 := (isW_i hwf (by omega)).mp c28
      refine lv_iload X.x X.b d_X_later_31 (lv_at hl 0 rfl) ?_
      refine lv_if_eq (tgt := 46) X.x X.b d_X_later_33 (by decide) (fun c33 => ?_) (fun c33 => ?_)
      · exact absurd c33 (by decide)
      · have c33 : ¬ 1 = 0 := fun z => c33 ((nI_eq (by omega) (by omega)).mpr z)
        refine lv_iload_n X.x X.b d_X_later_36 rfl (lv_at hl 4 rfl) ?_
        refine lv_iconst (v := nI 0) X.x X.b d_X_later_37 (by decide) ?_
        refine lv_bipush (v := nI 100) X.x X.b d_X_later_38 (by decide) ?_
        refine q_csi X (c_X_within l E S (nI n) (nI 0) (nI 100)) hW ok_X_within mw_209 ⟨by decide, by decide⟩ (As := [.int (nI n), .int (nI 0), .int (nI 100)]) rfl rfl (Nat.le_of_ble_eq_true rfl) (lv := [(4, .int (nI 1)), (0, .ref (eA E 0)), (1, .int (nI w)), (2, .int (nI 0)), (3, .int (nI n))]) hl ⟨Nat.le_refl 0, Nat.le_refl 0⟩ d_X_later_40 (fun H locs hW => ?_)
        refine lv_if_ne (tgt := 53) X.x X.b d_X_later_43 (by decide) (fun c43 => ?_) (fun c43 => ?_)
        · have c43 := b2i_n c43
          have c43 := (inR_i (by omega) (by decide)).mp c43
          refine lv_aload_n X.x X.b d_X_later_53 rfl (lv_at hl 1 rfl) ?_
          refine q_getr X hW qj3 rfl _ ds_X 2 (by decide) mw_185 rfl (c1 := cB 2) rfl d_X_later_54 ?_
          refine lv_aload_n X.x X.b d_X_later_57 rfl (lv_at hl 1 rfl) ?_
          refine q_getr X hW qj3 rfl _ ds_X 0 (by decide) mw_183 rfl (c1 := cB 0) rfl d_X_later_58 ?_
          refine q_cvv X (c_Cm_become l E 2 0 (by decide) (by decide) (by decide) S τ ρ (by rw [hτ]) (by rw [hρ]) hwf) hW (q_recv X hW (ds_cm (k := 2) (by decide)) rfl) ok_Cm_become mw_371 ⟨by decide, by decide⟩ (As := [.ref (eA E (cB 0))]) rfl rfl (Nat.le_of_ble_eq_true rfl) (lv := [(4, .int (nI 1)), (0, .ref (eA E 0)), (1, .int (nI w)), (2, .int (nI 0)), (3, .int (nI n))]) hl ⟨Nat.le_refl 0, Nat.le_refl 0⟩ d_X_later_61 (fun H locs hW => ?_)
          have hW : qWH E (qr S 2 (becS τ ρ)) s H locs := hW
          refine lv_aload_n X.x X.b d_X_later_64 rfl (lv_at hl 1 rfl) ?_
          refine lv_iload_n X.x X.b d_X_later_65 rfl (lv_at hl 4 rfl) ?_
          refine q_cvv X (c_X_tryDays l E (qr S 2 (becS τ ρ)) (becS τ ρ) (by rw [qr_at]) hbw n (by omega)) hW (q_recv X hW ds_X rfl) ok_X_tryDays mw_378 ⟨by decide, by decide⟩ (As := [.int (nI n)]) rfl rfl (Nat.le_of_ble_eq_true rfl) (lv := [(4, .int (nI 1)), (0, .ref (eA E 0)), (1, .int (nI w)), (2, .int (nI 0)), (3, .int (nI n))]) hl ⟨Nat.le_refl 0, Nat.le_refl 0⟩ d_X_later_66 (fun H locs hW => ?_)
          have hW : qWH E (qr S 2 (daysS n (becS τ ρ))) s H locs := (by have h := hW; rw [qr_qr] at h; exact h)
          refine lv_aload_n X.x X.b d_X_later_69 rfl (lv_at hl 1 rfl) ?_
          refine q_getr X hW qj3 rfl _ ds_X 2 (by decide) mw_185 rfl (c1 := cB 2) rfl d_X_later_70 ?_
          refine q_getr X hW qj0 rfl _ (ds_cm (k := 2) (by decide)) 2 (by decide) mw_106 rfl (c1 := cB 2 + 3) rfl d_X_later_73 ?_
          refine lv_iload_n X.x X.b d_X_later_76 rfl (lv_at hl 2 rfl) ?_
          refine g_wk (show 2 < 3 by decide) X hW (show w < 6 by omega) d_X_later_77 ?_
          refine lv_iload_n X.x X.b d_X_later_78 rfl (lv_at hl 3 rfl) ?_
          refine g_ald X hW (ds_w (w := w) (k := 2) (by decide) (by omega)) (q_in (by omega) (by decide)) (p0 := 44 + 6 * w) (q_tn (by omega) (by omega)) (v := (daysS n (becS τ ρ)) (44 + 6 * w)) (by rw [qr_at]) d_X_later_79 ?_
          exact q_pzret X rfl hW ⟨(daysS_e hbe hbw n).wp (show w < nW _ from dW hbw (by rw [hbe.nW]; exact hw) n) 0 (by omega), ⟨_, dF hbw n, rfl⟩⟩ d_X_later_80
        · have c43 := b2i_e c43
          have c43 := mt (inR_i (by omega) (by decide)).mpr c43
          omega
  · exact absurd (by decide) c1
set_option maxHeartbeats 1000000 in
set_option maxRecDepth 20000 in
theorem c_X_later_3 (l : Launch) (E : QE) (S : QM) (ρ φ τ : Nat → Int32) (hρ : S 0 = ρ) (hφ : S 14 = φ) (hτ : S 2 = τ) (hwf : WF ρ) (w n : Nat) (hw : w < nW ρ) (hn : n ≤ 100) : qCPi E l y_X_later prog_1_method_15_code 5 .int 6 [.ref (eA E 0), .int (nI w), .int (nI 3), .int (nI n)] S (daysS n ρ (44 + 6 * w + 3)) (any S 2 WF) := by
  refine qCPi_of (by decide) (Nat.le_of_ble_eq_true rfl) (fun p e s m below meth c ls X hW hl => ?_)
  have hl : lv_has ls 5 [(0, .ref (eA E 0)), (1, .int (nI w)), (2, .int (nI 3)), (3, .int (nI n))] := hl
  have htl := hwf.tl
  have hwl := hwf.wl
  have hdl := hwf.dl
  have hbw : WF (becS τ ρ) := becS_wf hwf
  have hbe : eqv (becS τ ρ) ρ := becS_e hwf
  refine lv_iload_n X.x X.b d_X_later_0 rfl (lv_at hl 2 rfl) ?_
  refine lv_if_eq (tgt := 13) X.x X.b d_X_later_1 (by decide) (fun c1 => ?_) (fun c1 => ?_)
  · exact absurd c1 (by decide)
  · have c1 : ¬ 3 = 0 := fun z => c1 ((nI_eq (by omega) (by omega)).mpr z)
    refine lv_iload_n X.x X.b d_X_later_4 rfl (lv_at hl 2 rfl) ?_
    refine lv_iconst (v := nI 3) X.x X.b d_X_later_5 (by decide) ?_
    refine lv_iconst (v := nI 5) X.x X.b d_X_later_6 (by decide) ?_
    refine q_csi X (c_X_within l E S (nI 3) (nI 3) (nI 5)) hW ok_X_within mw_209 ⟨by decide, by decide⟩ (As := [.int (nI 3), .int (nI 3), .int (nI 5)]) rfl rfl (Nat.le_of_ble_eq_true rfl) (lv := [(0, .ref (eA E 0)), (1, .int (nI w)), (2, .int (nI 3)), (3, .int (nI n))]) hl ⟨Nat.le_refl 0, Nat.le_refl 0⟩ d_X_later_7 (fun H locs hW => ?_)
    refine lv_if_eq (tgt := 17) X.x X.b d_X_later_10 (by decide) (fun c10 => ?_) (fun c10 => ?_)
    · have c10 := b2i_e c10
      have c10 := mt (inR_i (by omega) (by decide)).mpr c10
      omega
    · have c10 := b2i_n c10
      have c10 := (inR_i (by omega) (by decide)).mp c10
      refine lv_iconst (v := nI 1) X.x X.b d_X_later_13 (by decide) ?_
      refine lv_goto (tgt := 18) X.x X.b d_X_later_14 (by decide) ?_
      refine lv_istore (lv' := [(4, .int (nI 1)), (0, .ref (eA E 0)), (1, .int (nI w)), (2, .int (nI 3)), (3, .int (nI n))]) X.x X.b d_X_later_18 hl (by decide) rfl (fun ls hl => ?_)
      refine lv_aload_n X.x X.b d_X_later_20 rfl (lv_at hl 1 rfl) ?_
      refine q_getr X hW qj3 rfl _ ds_X 0 (by decide) mw_183 rfl (c1 := cB 0) rfl d_X_later_21 ?_
      refine lv_iload_n X.x X.b d_X_later_24 rfl (lv_at hl 2 rfl) ?_
      refine q_cvi X (c_Cm_hasWalker l E 0 (by decide) S ρ (by rw [hρ]) hwf (nI w)) hW (q_recv X hW (ds_cm (k := 0) (by decide)) rfl) ok_Cm_hasWalker mw_265 ⟨by decide, by decide⟩ (As := [.int (nI w)]) rfl rfl (Nat.le_of_ble_eq_true rfl) (lv := [(4, .int (nI 1)), (0, .ref (eA E 0)), (1, .int (nI w)), (2, .int (nI 3)), (3, .int (nI n))]) hl ⟨Nat.le_refl 0, Nat.le_refl 0⟩ d_X_later_25 (fun H locs hW => ?_)
      refine lv_if_eq (tgt := 46) X.x X.b d_X_later_28 (by decide) (fun c28 => ?_) (fun c28 => ?_)
      · have c28 := b2i_e c28
        have c28 := mt (isW_i hwf (by omega)).mpr c28
        omega
      · have c28 := b2i_n c28
        have c28 := (isW_i hwf (by omega)).mp c28
        refine lv_iload X.x X.b d_X_later_31 (lv_at hl 0 rfl) ?_
        refine lv_if_eq (tgt := 46) X.x X.b d_X_later_33 (by decide) (fun c33 => ?_) (fun c33 => ?_)
        · exact absurd c33 (by decide)
        · have c33 : ¬ 1 = 0 := fun z => c33 ((nI_eq (by omega) (by omega)).mpr z)
          refine lv_iload_n X.x X.b d_X_later_36 rfl (lv_at hl 4 rfl) ?_
          refine lv_iconst (v := nI 0) X.x X.b d_X_later_37 (by decide) ?_
          refine lv_bipush (v := nI 100) X.x X.b d_X_later_38 (by decide) ?_
          refine q_csi X (c_X_within l E S (nI n) (nI 0) (nI 100)) hW ok_X_within mw_209 ⟨by decide, by decide⟩ (As := [.int (nI n), .int (nI 0), .int (nI 100)]) rfl rfl (Nat.le_of_ble_eq_true rfl) (lv := [(4, .int (nI 1)), (0, .ref (eA E 0)), (1, .int (nI w)), (2, .int (nI 3)), (3, .int (nI n))]) hl ⟨Nat.le_refl 0, Nat.le_refl 0⟩ d_X_later_40 (fun H locs hW => ?_)
          refine lv_if_ne (tgt := 53) X.x X.b d_X_later_43 (by decide) (fun c43 => ?_) (fun c43 => ?_)
          · have c43 := b2i_n c43
            have c43 := (inR_i (by omega) (by decide)).mp c43
            refine lv_aload_n X.x X.b d_X_later_53 rfl (lv_at hl 1 rfl) ?_
            refine q_getr X hW qj3 rfl _ ds_X 2 (by decide) mw_185 rfl (c1 := cB 2) rfl d_X_later_54 ?_
            refine lv_aload_n X.x X.b d_X_later_57 rfl (lv_at hl 1 rfl) ?_
            refine q_getr X hW qj3 rfl _ ds_X 0 (by decide) mw_183 rfl (c1 := cB 0) rfl d_X_later_58 ?_
            refine q_cvv X (c_Cm_become l E 2 0 (by decide) (by decide) (by decide) S τ ρ (by rw [hτ]) (by rw [hρ]) hwf) hW (q_recv X hW (ds_cm (k := 2) (by decide)) rfl) ok_Cm_become mw_371 ⟨by decide, by decide⟩ (As := [.ref (eA E (cB 0))]) rfl rfl (Nat.le_of_ble_eq_true rfl) (lv := [(4, .int (nI 1)), (0, .ref (eA E 0)), (1, .int (nI w)), (2, .int (nI 3)), (3, .int (nI n))]) hl ⟨Nat.le_refl 0, Nat.le_refl 0⟩ d_X_later_61 (fun H locs hW => ?_)
            have hW : qWH E (qr S 2 (becS τ ρ)) s H locs := hW
            refine lv_aload_n X.x X.b d_X_later_64 rfl (lv_at hl 1 rfl) ?_
            refine lv_iload_n X.x X.b d_X_later_65 rfl (lv_at hl 4 rfl) ?_
            refine q_cvv X (c_X_tryDays l E (qr S 2 (becS τ ρ)) (becS τ ρ) (by rw [qr_at]) hbw n (by omega)) hW (q_recv X hW ds_X rfl) ok_X_tryDays mw_378 ⟨by decide, by decide⟩ (As := [.int (nI n)]) rfl rfl (Nat.le_of_ble_eq_true rfl) (lv := [(4, .int (nI 1)), (0, .ref (eA E 0)), (1, .int (nI w)), (2, .int (nI 3)), (3, .int (nI n))]) hl ⟨Nat.le_refl 0, Nat.le_refl 0⟩ d_X_later_66 (fun H locs hW => ?_)
            have hW : qWH E (qr S 2 (daysS n (becS τ ρ))) s H locs := (by have h := hW; rw [qr_qr] at h; exact h)
            refine lv_aload_n X.x X.b d_X_later_69 rfl (lv_at hl 1 rfl) ?_
            refine q_getr X hW qj3 rfl _ ds_X 2 (by decide) mw_185 rfl (c1 := cB 2) rfl d_X_later_70 ?_
            refine q_getr X hW qj0 rfl _ (ds_cm (k := 2) (by decide)) 2 (by decide) mw_106 rfl (c1 := cB 2 + 3) rfl d_X_later_73 ?_
            refine lv_iload_n X.x X.b d_X_later_76 rfl (lv_at hl 2 rfl) ?_
            refine g_wk (show 2 < 3 by decide) X hW (show w < 6 by omega) d_X_later_77 ?_
            refine lv_iload_n X.x X.b d_X_later_78 rfl (lv_at hl 3 rfl) ?_
            refine g_ald X hW (ds_w (w := w) (k := 2) (by decide) (by omega)) (q_in (by omega) (by decide)) (p0 := 44 + 6 * w + 3) (q_tn (by omega) (by omega)) (v := (daysS n (becS τ ρ)) (44 + 6 * w + 3)) (by rw [qr_at]) d_X_later_79 ?_
            exact q_pzret X rfl hW ⟨(daysS_e hbe hbw n).wp (show w < nW _ from dW hbw (by rw [hbe.nW]; exact hw) n) 3 (by omega), ⟨_, dF hbw n, rfl⟩⟩ d_X_later_80
          · have c43 := b2i_e c43
            have c43 := mt (inR_i (by omega) (by decide)).mpr c43
            omega
set_option maxHeartbeats 1000000 in
set_option maxRecDepth 20000 in
theorem c_X_later_4 (l : Launch) (E : QE) (S : QM) (ρ φ τ : Nat → Int32) (hρ : S 0 = ρ) (hφ : S 14 = φ) (hτ : S 2 = τ) (hwf : WF ρ) (w n : Nat) (hw : w < nW ρ) (hn : n ≤ 100) : qCPi E l y_X_later prog_1_method_15_code 5 .int 6 [.ref (eA E 0), .int (nI w), .int (nI 4), .int (nI n)] S (daysS n ρ (44 + 6 * w + 4)) (any S 2 WF) := by
  refine qCPi_of (by decide) (Nat.le_of_ble_eq_true rfl) (fun p e s m below meth c ls X hW hl => ?_)
  have hl : lv_has ls 5 [(0, .ref (eA E 0)), (1, .int (nI w)), (2, .int (nI 4)), (3, .int (nI n))] := hl
  have htl := hwf.tl
  have hwl := hwf.wl
  have hdl := hwf.dl
  have hbw : WF (becS τ ρ) := becS_wf hwf
  have hbe : eqv (becS τ ρ) ρ := becS_e hwf
  refine lv_iload_n X.x X.b d_X_later_0 rfl (lv_at hl 2 rfl) ?_
  refine lv_if_eq (tgt := 13) X.x X.b d_X_later_1 (by decide) (fun c1 => ?_) (fun c1 => ?_)
  · exact absurd c1 (by decide)
  · have c1 : ¬ 4 = 0 := fun z => c1 ((nI_eq (by omega) (by omega)).mpr z)
    refine lv_iload_n X.x X.b d_X_later_4 rfl (lv_at hl 2 rfl) ?_
    refine lv_iconst (v := nI 3) X.x X.b d_X_later_5 (by decide) ?_
    refine lv_iconst (v := nI 5) X.x X.b d_X_later_6 (by decide) ?_
    refine q_csi X (c_X_within l E S (nI 4) (nI 3) (nI 5)) hW ok_X_within mw_209 ⟨by decide, by decide⟩ (As := [.int (nI 4), .int (nI 3), .int (nI 5)]) rfl rfl (Nat.le_of_ble_eq_true rfl) (lv := [(0, .ref (eA E 0)), (1, .int (nI w)), (2, .int (nI 4)), (3, .int (nI n))]) hl ⟨Nat.le_refl 0, Nat.le_refl 0⟩ d_X_later_7 (fun H locs hW => ?_)
    refine lv_if_eq (tgt := 17) X.x X.b d_X_later_10 (by decide) (fun c10 => ?_) (fun c10 => ?_)
    · have c10 := b2i_e c10
      have c10 := mt (inR_i (by omega) (by decide)).mpr c10
      omega
    · have c10 := b2i_n c10
      have c10 := (inR_i (by omega) (by decide)).mp c10
      refine lv_iconst (v := nI 1) X.x X.b d_X_later_13 (by decide) ?_
      refine lv_goto (tgt := 18) X.x X.b d_X_later_14 (by decide) ?_
      refine lv_istore (lv' := [(4, .int (nI 1)), (0, .ref (eA E 0)), (1, .int (nI w)), (2, .int (nI 4)), (3, .int (nI n))]) X.x X.b d_X_later_18 hl (by decide) rfl (fun ls hl => ?_)
      refine lv_aload_n X.x X.b d_X_later_20 rfl (lv_at hl 1 rfl) ?_
      refine q_getr X hW qj3 rfl _ ds_X 0 (by decide) mw_183 rfl (c1 := cB 0) rfl d_X_later_21 ?_
      refine lv_iload_n X.x X.b d_X_later_24 rfl (lv_at hl 2 rfl) ?_
      refine q_cvi X (c_Cm_hasWalker l E 0 (by decide) S ρ (by rw [hρ]) hwf (nI w)) hW (q_recv X hW (ds_cm (k := 0) (by decide)) rfl) ok_Cm_hasWalker mw_265 ⟨by decide, by decide⟩ (As := [.int (nI w)]) rfl rfl (Nat.le_of_ble_eq_true rfl) (lv := [(4, .int (nI 1)), (0, .ref (eA E 0)), (1, .int (nI w)), (2, .int (nI 4)), (3, .int (nI n))]) hl ⟨Nat.le_refl 0, Nat.le_refl 0⟩ d_X_later_25 (fun H locs hW => ?_)
      refine lv_if_eq (tgt := 46) X.x X.b d_X_later_28 (by decide) (fun c28 => ?_) (fun c28 => ?_)
      · have c28 := b2i_e c28
        have c28 := mt (isW_i hwf (by omega)).mpr c28
        omega
      · have c28 := b2i_n c28
        have c28 := (isW_i hwf (by omega)).mp c28
        refine lv_iload X.x X.b d_X_later_31 (lv_at hl 0 rfl) ?_
        refine lv_if_eq (tgt := 46) X.x X.b d_X_later_33 (by decide) (fun c33 => ?_) (fun c33 => ?_)
        · exact absurd c33 (by decide)
        · have c33 : ¬ 1 = 0 := fun z => c33 ((nI_eq (by omega) (by omega)).mpr z)
          refine lv_iload_n X.x X.b d_X_later_36 rfl (lv_at hl 4 rfl) ?_
          refine lv_iconst (v := nI 0) X.x X.b d_X_later_37 (by decide) ?_
          refine lv_bipush (v := nI 100) X.x X.b d_X_later_38 (by decide) ?_
          refine q_csi X (c_X_within l E S (nI n) (nI 0) (nI 100)) hW ok_X_within mw_209 ⟨by decide, by decide⟩ (As := [.int (nI n), .int (nI 0), .int (nI 100)]) rfl rfl (Nat.le_of_ble_eq_true rfl) (lv := [(4, .int (nI 1)), (0, .ref (eA E 0)), (1, .int (nI w)), (2, .int (nI 4)), (3, .int (nI n))]) hl ⟨Nat.le_refl 0, Nat.le_refl 0⟩ d_X_later_40 (fun H locs hW => ?_)
          refine lv_if_ne (tgt := 53) X.x X.b d_X_later_43 (by decide) (fun c43 => ?_) (fun c43 => ?_)
          · have c43 := b2i_n c43
            have c43 := (inR_i (by omega) (by decide)).mp c43
            refine lv_aload_n X.x X.b d_X_later_53 rfl (lv_at hl 1 rfl) ?_
            refine q_getr X hW qj3 rfl _ ds_X 2 (by decide) mw_185 rfl (c1 := cB 2) rfl d_X_later_54 ?_
            refine lv_aload_n X.x X.b d_X_later_57 rfl (lv_at hl 1 rfl) ?_
            refine q_getr X hW qj3 rfl _ ds_X 0 (by decide) mw_183 rfl (c1 := cB 0) rfl d_X_later_58 ?_
            refine q_cvv X (c_Cm_become l E 2 0 (by decide) (by decide) (by decide) S τ ρ (by rw [hτ]) (by rw [hρ]) hwf) hW (q_recv X hW (ds_cm (k := 2) (by decide)) rfl) ok_Cm_become mw_371 ⟨by decide, by decide⟩ (As := [.ref (eA E (cB 0))]) rfl rfl (Nat.le_of_ble_eq_true rfl) (lv := [(4, .int (nI 1)), (0, .ref (eA E 0)), (1, .int (nI w)), (2, .int (nI 4)), (3, .int (nI n))]) hl ⟨Nat.le_refl 0, Nat.le_refl 0⟩ d_X_later_61 (fun H locs hW => ?_)
            have hW : qWH E (qr S 2 (becS τ ρ)) s H locs := hW
            refine lv_aload_n X.x X.b d_X_later_64 rfl (lv_at hl 1 rfl) ?_
            refine lv_iload_n X.x X.b d_X_later_65 rfl (lv_at hl 4 rfl) ?_
            refine q_cvv X (c_X_tryDays l E (qr S 2 (becS τ ρ)) (becS τ ρ) (by rw [qr_at]) hbw n (by omega)) hW (q_recv X hW ds_X rfl) ok_X_tryDays mw_378 ⟨by decide, by decide⟩ (As := [.int (nI n)]) rfl rfl (Nat.le_of_ble_eq_true rfl) (lv := [(4, .int (nI 1)), (0, .ref (eA E 0)), (1, .int (nI w)), (2, .int (nI 4)), (3, .int (nI n))]) hl ⟨Nat.le_refl 0, Nat.le_refl 0⟩ d_X_later_66 (fun H locs hW => ?_)
            have hW : qWH E (qr S 2 (daysS n (becS τ ρ))) s H locs := (by have h := hW; rw [qr_qr] at h; exact h)
            refine lv_aload_n X.x X.b d_X_later_69 rfl (lv_at hl 1 rfl) ?_
            refine q_getr X hW qj3 rfl _ ds_X 2 (by decide) mw_185 rfl (c1 := cB 2) rfl d_X_later_70 ?_
            refine q_getr X hW qj0 rfl _ (ds_cm (k := 2) (by decide)) 2 (by decide) mw_106 rfl (c1 := cB 2 + 3) rfl d_X_later_73 ?_
            refine lv_iload_n X.x X.b d_X_later_76 rfl (lv_at hl 2 rfl) ?_
            refine g_wk (show 2 < 3 by decide) X hW (show w < 6 by omega) d_X_later_77 ?_
            refine lv_iload_n X.x X.b d_X_later_78 rfl (lv_at hl 3 rfl) ?_
            refine g_ald X hW (ds_w (w := w) (k := 2) (by decide) (by omega)) (q_in (by omega) (by decide)) (p0 := 44 + 6 * w + 4) (q_tn (by omega) (by omega)) (v := (daysS n (becS τ ρ)) (44 + 6 * w + 4)) (by rw [qr_at]) d_X_later_79 ?_
            exact q_pzret X rfl hW ⟨(daysS_e hbe hbw n).wp (show w < nW _ from dW hbw (by rw [hbe.nW]; exact hw) n) 4 (by omega), ⟨_, dF hbw n, rfl⟩⟩ d_X_later_80
          · have c43 := b2i_e c43
            have c43 := mt (inR_i (by omega) (by decide)).mpr c43
            omega
set_option maxHeartbeats 1000000 in
set_option maxRecDepth 20000 in
theorem c_X_later_5 (l : Launch) (E : QE) (S : QM) (ρ φ τ : Nat → Int32) (hρ : S 0 = ρ) (hφ : S 14 = φ) (hτ : S 2 = τ) (hwf : WF ρ) (w n : Nat) (hw : w < nW ρ) (hn : n ≤ 100) : qCPi E l y_X_later prog_1_method_15_code 5 .int 6 [.ref (eA E 0), .int (nI w), .int (nI 5), .int (nI n)] S (daysS n ρ (44 + 6 * w + 5)) (any S 2 WF) := by
  refine qCPi_of (by decide) (Nat.le_of_ble_eq_true rfl) (fun p e s m below meth c ls X hW hl => ?_)
  have hl : lv_has ls 5 [(0, .ref (eA E 0)), (1, .int (nI w)), (2, .int (nI 5)), (3, .int (nI n))] := hl
  have htl := hwf.tl
  have hwl := hwf.wl
  have hdl := hwf.dl
  have hbw : WF (becS τ ρ) := becS_wf hwf
  have hbe : eqv (becS τ ρ) ρ := becS_e hwf
  refine lv_iload_n X.x X.b d_X_later_0 rfl (lv_at hl 2 rfl) ?_
  refine lv_if_eq (tgt := 13) X.x X.b d_X_later_1 (by decide) (fun c1 => ?_) (fun c1 => ?_)
  · exact absurd c1 (by decide)
  · have c1 : ¬ 5 = 0 := fun z => c1 ((nI_eq (by omega) (by omega)).mpr z)
    refine lv_iload_n X.x X.b d_X_later_4 rfl (lv_at hl 2 rfl) ?_
    refine lv_iconst (v := nI 3) X.x X.b d_X_later_5 (by decide) ?_
    refine lv_iconst (v := nI 5) X.x X.b d_X_later_6 (by decide) ?_
    refine q_csi X (c_X_within l E S (nI 5) (nI 3) (nI 5)) hW ok_X_within mw_209 ⟨by decide, by decide⟩ (As := [.int (nI 5), .int (nI 3), .int (nI 5)]) rfl rfl (Nat.le_of_ble_eq_true rfl) (lv := [(0, .ref (eA E 0)), (1, .int (nI w)), (2, .int (nI 5)), (3, .int (nI n))]) hl ⟨Nat.le_refl 0, Nat.le_refl 0⟩ d_X_later_7 (fun H locs hW => ?_)
    refine lv_if_eq (tgt := 17) X.x X.b d_X_later_10 (by decide) (fun c10 => ?_) (fun c10 => ?_)
    · have c10 := b2i_e c10
      have c10 := mt (inR_i (by omega) (by decide)).mpr c10
      omega
    · have c10 := b2i_n c10
      have c10 := (inR_i (by omega) (by decide)).mp c10
      refine lv_iconst (v := nI 1) X.x X.b d_X_later_13 (by decide) ?_
      refine lv_goto (tgt := 18) X.x X.b d_X_later_14 (by decide) ?_
      refine lv_istore (lv' := [(4, .int (nI 1)), (0, .ref (eA E 0)), (1, .int (nI w)), (2, .int (nI 5)), (3, .int (nI n))]) X.x X.b d_X_later_18 hl (by decide) rfl (fun ls hl => ?_)
      refine lv_aload_n X.x X.b d_X_later_20 rfl (lv_at hl 1 rfl) ?_
      refine q_getr X hW qj3 rfl _ ds_X 0 (by decide) mw_183 rfl (c1 := cB 0) rfl d_X_later_21 ?_
      refine lv_iload_n X.x X.b d_X_later_24 rfl (lv_at hl 2 rfl) ?_
      refine q_cvi X (c_Cm_hasWalker l E 0 (by decide) S ρ (by rw [hρ]) hwf (nI w)) hW (q_recv X hW (ds_cm (k := 0) (by decide)) rfl) ok_Cm_hasWalker mw_265 ⟨by decide, by decide⟩ (As := [.int (nI w)]) rfl rfl (Nat.le_of_ble_eq_true rfl) (lv := [(4, .int (nI 1)), (0, .ref (eA E 0)), (1, .int (nI w)), (2, .int (nI 5)), (3, .int (nI n))]) hl ⟨Nat.le_refl 0, Nat.le_refl 0⟩ d_X_later_25 (fun H locs hW => ?_)
      refine lv_if_eq (tgt := 46) X.x X.b d_X_later_28 (by decide) (fun c28 => ?_) (fun c28 => ?_)
      · have c28 := b2i_e c28
        have c28 := mt (isW_i hwf (by omega)).mpr c28
        omega
      · have c28 := b2i_n c28
        have c28 := (isW_i hwf (by omega)).mp c28
        refine lv_iload X.x X.b d_X_later_31 (lv_at hl 0 rfl) ?_
        refine lv_if_eq (tgt := 46) X.x X.b d_X_later_33 (by decide) (fun c33 => ?_) (fun c33 => ?_)
        · exact absurd c33 (by decide)
        · have c33 : ¬ 1 = 0 := fun z => c33 ((nI_eq (by omega) (by omega)).mpr z)
          refine lv_iload_n X.x X.b d_X_later_36 rfl (lv_at hl 4 rfl) ?_
          refine lv_iconst (v := nI 0) X.x X.b d_X_later_37 (by decide) ?_
          refine lv_bipush (v := nI 100) X.x X.b d_X_later_38 (by decide) ?_
          refine q_csi X (c_X_within l E S (nI n) (nI 0) (nI 100)) hW ok_X_within mw_209 ⟨by decide, by decide⟩ (As := [.int (nI n), .int (nI 0), .int (nI 100)]) rfl rfl (Nat.le_of_ble_eq_true rfl) (lv := [(4, .int (nI 1)), (0, .ref (eA E 0)), (1, .int (nI w)), (2, .int (nI 5)), (3, .int (nI n))]) hl ⟨Nat.le_refl 0, Nat.le_refl 0⟩ d_X_later_40 (fun H locs hW => ?_)
          refine lv_if_ne (tgt := 53) X.x X.b d_X_later_43 (by decide) (fun c43 => ?_) (fun c43 => ?_)
          · have c43 := b2i_n c43
            have c43 := (inR_i (by omega) (by decide)).mp c43
            refine lv_aload_n X.x X.b d_X_later_53 rfl (lv_at hl 1 rfl) ?_
            refine q_getr X hW qj3 rfl _ ds_X 2 (by decide) mw_185 rfl (c1 := cB 2) rfl d_X_later_54 ?_
            refine lv_aload_n X.x X.b d_X_later_57 rfl (lv_at hl 1 rfl) ?_
            refine q_getr X hW qj3 rfl _ ds_X 0 (by decide) mw_183 rfl (c1 := cB 0) rfl d_X_later_58 ?_
            refine q_cvv X (c_Cm_become l E 2 0 (by decide) (by decide) (by decide) S τ ρ (by rw [hτ]) (by rw [hρ]) hwf) hW (q_recv X hW (ds_cm (k := 2) (by decide)) rfl) ok_Cm_become mw_371 ⟨by decide, by decide⟩ (As := [.ref (eA E (cB 0))]) rfl rfl (Nat.le_of_ble_eq_true rfl) (lv := [(4, .int (nI 1)), (0, .ref (eA E 0)), (1, .int (nI w)), (2, .int (nI 5)), (3, .int (nI n))]) hl ⟨Nat.le_refl 0, Nat.le_refl 0⟩ d_X_later_61 (fun H locs hW => ?_)
            have hW : qWH E (qr S 2 (becS τ ρ)) s H locs := hW
            refine lv_aload_n X.x X.b d_X_later_64 rfl (lv_at hl 1 rfl) ?_
            refine lv_iload_n X.x X.b d_X_later_65 rfl (lv_at hl 4 rfl) ?_
            refine q_cvv X (c_X_tryDays l E (qr S 2 (becS τ ρ)) (becS τ ρ) (by rw [qr_at]) hbw n (by omega)) hW (q_recv X hW ds_X rfl) ok_X_tryDays mw_378 ⟨by decide, by decide⟩ (As := [.int (nI n)]) rfl rfl (Nat.le_of_ble_eq_true rfl) (lv := [(4, .int (nI 1)), (0, .ref (eA E 0)), (1, .int (nI w)), (2, .int (nI 5)), (3, .int (nI n))]) hl ⟨Nat.le_refl 0, Nat.le_refl 0⟩ d_X_later_66 (fun H locs hW => ?_)
            have hW : qWH E (qr S 2 (daysS n (becS τ ρ))) s H locs := (by have h := hW; rw [qr_qr] at h; exact h)
            refine lv_aload_n X.x X.b d_X_later_69 rfl (lv_at hl 1 rfl) ?_
            refine q_getr X hW qj3 rfl _ ds_X 2 (by decide) mw_185 rfl (c1 := cB 2) rfl d_X_later_70 ?_
            refine q_getr X hW qj0 rfl _ (ds_cm (k := 2) (by decide)) 2 (by decide) mw_106 rfl (c1 := cB 2 + 3) rfl d_X_later_73 ?_
            refine lv_iload_n X.x X.b d_X_later_76 rfl (lv_at hl 2 rfl) ?_
            refine g_wk (show 2 < 3 by decide) X hW (show w < 6 by omega) d_X_later_77 ?_
            refine lv_iload_n X.x X.b d_X_later_78 rfl (lv_at hl 3 rfl) ?_
            refine g_ald X hW (ds_w (w := w) (k := 2) (by decide) (by omega)) (q_in (by omega) (by decide)) (p0 := 44 + 6 * w + 5) (q_tn (by omega) (by omega)) (v := (daysS n (becS τ ρ)) (44 + 6 * w + 5)) (by rw [qr_at]) d_X_later_79 ?_
            exact q_pzret X rfl hW ⟨(daysS_e hbe hbw n).wp (show w < nW _ from dW hbw (by rw [hbe.nW]; exact hw) n) 5 (by omega), ⟨_, dF hbw n, rfl⟩⟩ d_X_later_80
          · have c43 := b2i_e c43
            have c43 := mt (inR_i (by omega) (by decide)).mpr c43
            omega
set_option maxHeartbeats 1000000 in
set_option maxRecDepth 20000 in
theorem c_X_later_b (l : Launch) (E : QE) (S : QM) (ρ φ : Nat → Int32) (hρ : S 0 = ρ) (hφ : S 14 = φ) (hwf : WF ρ) (x y z : Int32) (h : ¬ (isW ρ x ∧ (y = 0 ∨ inR 3 5 y) ∧ inR 0 100 z)) : qCI E l y_X_later prog_1_method_15_code 5 .int 3 [.ref (eA E 0), .int x, .int y, .int z] S (-1000001) (qr S 14 (fnS φ 0)) := by
  refine qCI_of (by decide) (Nat.le_of_ble_eq_true rfl) (fun p e s m below meth c ls X hW hl => ?_)
  have hl : lv_has ls 5 [(0, .ref (eA E 0)), (1, .int x), (2, .int y), (3, .int z)] := hl
  have htl := hwf.tl
  have hwl := hwf.wl
  have hdl := hwf.dl
  refine lv_iload_n X.x X.b d_X_later_0 rfl (lv_at hl 2 rfl) ?_
  refine lv_if_eq (tgt := 13) X.x X.b d_X_later_1 (by decide) (fun c1 => ?_) (fun c1 => ?_)
  · refine lv_iconst (v := nI 1) X.x X.b d_X_later_13 (by decide) ?_
    refine lv_goto (tgt := 18) X.x X.b d_X_later_14 (by decide) ?_
    refine lv_istore (lv' := [(4, .int (nI 1)), (0, .ref (eA E 0)), (1, .int x), (2, .int y), (3, .int z)]) X.x X.b d_X_later_18 hl (by decide) rfl (fun ls hl => ?_)
    refine lv_aload_n X.x X.b d_X_later_20 rfl (lv_at hl 1 rfl) ?_
    refine q_getr X hW qj3 rfl _ ds_X 0 (by decide) mw_183 rfl (c1 := cB 0) rfl d_X_later_21 ?_
    refine lv_iload_n X.x X.b d_X_later_24 rfl (lv_at hl 2 rfl) ?_
    refine q_cvi X (c_Cm_hasWalker l E 0 (by decide) S ρ (by rw [hρ]) hwf x) hW (q_recv X hW (ds_cm (k := 0) (by decide)) rfl) ok_Cm_hasWalker mw_265 ⟨by decide, by decide⟩ (As := [.int x]) rfl rfl (Nat.le_of_ble_eq_true rfl) (lv := [(4, .int (nI 1)), (0, .ref (eA E 0)), (1, .int x), (2, .int y), (3, .int z)]) hl ⟨Nat.le_refl 0, Nat.le_refl 0⟩ d_X_later_25 (fun H locs hW => ?_)
    refine lv_if_eq (tgt := 46) X.x X.b d_X_later_28 (by decide) (fun c28 => ?_) (fun c28 => ?_)
    · have c28 := b2i_e c28
      refine lv_aload_n X.x X.b d_X_later_46 rfl (lv_at hl 1 rfl) ?_
      refine lv_ldc (v := (-1000001)) X.x X.b X.ow (X.ts _ mw_212) d_X_later_47 ?_
      refine q_cvi X (c_X_told_0 l E S φ (by rw [hφ])) hW (q_recv X hW ds_X rfl) ok_X_told mw_213 ⟨by decide, by decide⟩ (As := [.int (-1000001)]) rfl rfl (Nat.le_of_ble_eq_true rfl) (lv := [(4, .int (nI 1)), (0, .ref (eA E 0)), (1, .int x), (2, .int y), (3, .int z)]) hl ⟨Nat.le_refl 0, Nat.le_refl 0⟩ d_X_later_49 (fun H locs hW => ?_)
      have hW : qWH E (qr S 14 (fnS φ 0)) s H locs := hW
      exact q_zret X rfl hW ⟨rfl, rfl⟩ d_X_later_52
    · have c28 := b2i_n c28
      refine lv_iload X.x X.b d_X_later_31 (lv_at hl 0 rfl) ?_
      refine lv_if_eq (tgt := 46) X.x X.b d_X_later_33 (by decide) (fun c33 => ?_) (fun c33 => ?_)
      · exact absurd c33 (by decide)
      · have c33 : ¬ 1 = 0 := fun z => c33 ((nI_eq (by omega) (by omega)).mpr z)
        refine lv_iload_n X.x X.b d_X_later_36 rfl (lv_at hl 4 rfl) ?_
        refine lv_iconst (v := nI 0) X.x X.b d_X_later_37 (by decide) ?_
        refine lv_bipush (v := nI 100) X.x X.b d_X_later_38 (by decide) ?_
        refine q_csi X (c_X_within l E S z (nI 0) (nI 100)) hW ok_X_within mw_209 ⟨by decide, by decide⟩ (As := [.int z, .int (nI 0), .int (nI 100)]) rfl rfl (Nat.le_of_ble_eq_true rfl) (lv := [(4, .int (nI 1)), (0, .ref (eA E 0)), (1, .int x), (2, .int y), (3, .int z)]) hl ⟨Nat.le_refl 0, Nat.le_refl 0⟩ d_X_later_40 (fun H locs hW => ?_)
        refine lv_if_ne (tgt := 53) X.x X.b d_X_later_43 (by decide) (fun c43 => ?_) (fun c43 => ?_)
        · have c43 := b2i_n c43
          exact absurd ⟨c28, by first | exact Or.inl c1 | exact Or.inr c10, c43⟩ h
        · have c43 := b2i_e c43
          refine lv_aload_n X.x X.b d_X_later_46 rfl (lv_at hl 1 rfl) ?_
          refine lv_ldc (v := (-1000001)) X.x X.b X.ow (X.ts _ mw_212) d_X_later_47 ?_
          refine q_cvi X (c_X_told_0 l E S φ (by rw [hφ])) hW (q_recv X hW ds_X rfl) ok_X_told mw_213 ⟨by decide, by decide⟩ (As := [.int (-1000001)]) rfl rfl (Nat.le_of_ble_eq_true rfl) (lv := [(4, .int (nI 1)), (0, .ref (eA E 0)), (1, .int x), (2, .int y), (3, .int z)]) hl ⟨Nat.le_refl 0, Nat.le_refl 0⟩ d_X_later_49 (fun H locs hW => ?_)
          have hW : qWH E (qr S 14 (fnS φ 0)) s H locs := hW
          exact q_zret X rfl hW ⟨rfl, rfl⟩ d_X_later_52
  · refine lv_iload_n X.x X.b d_X_later_4 rfl (lv_at hl 2 rfl) ?_
    refine lv_iconst (v := nI 3) X.x X.b d_X_later_5 (by decide) ?_
    refine lv_iconst (v := nI 5) X.x X.b d_X_later_6 (by decide) ?_
    refine q_csi X (c_X_within l E S y (nI 3) (nI 5)) hW ok_X_within mw_209 ⟨by decide, by decide⟩ (As := [.int y, .int (nI 3), .int (nI 5)]) rfl rfl (Nat.le_of_ble_eq_true rfl) (lv := [(0, .ref (eA E 0)), (1, .int x), (2, .int y), (3, .int z)]) hl ⟨Nat.le_refl 0, Nat.le_refl 0⟩ d_X_later_7 (fun H locs hW => ?_)
    refine lv_if_eq (tgt := 17) X.x X.b d_X_later_10 (by decide) (fun c10 => ?_) (fun c10 => ?_)
    · have c10 := b2i_e c10
      refine lv_iconst (v := nI 0) X.x X.b d_X_later_17 (by decide) ?_
      refine lv_istore (lv' := [(4, .int (nI 0)), (0, .ref (eA E 0)), (1, .int x), (2, .int y), (3, .int z)]) X.x X.b d_X_later_18 hl (by decide) rfl (fun ls hl => ?_)
      refine lv_aload_n X.x X.b d_X_later_20 rfl (lv_at hl 1 rfl) ?_
      refine q_getr X hW qj3 rfl _ ds_X 0 (by decide) mw_183 rfl (c1 := cB 0) rfl d_X_later_21 ?_
      refine lv_iload_n X.x X.b d_X_later_24 rfl (lv_at hl 2 rfl) ?_
      refine q_cvi X (c_Cm_hasWalker l E 0 (by decide) S ρ (by rw [hρ]) hwf x) hW (q_recv X hW (ds_cm (k := 0) (by decide)) rfl) ok_Cm_hasWalker mw_265 ⟨by decide, by decide⟩ (As := [.int x]) rfl rfl (Nat.le_of_ble_eq_true rfl) (lv := [(4, .int (nI 0)), (0, .ref (eA E 0)), (1, .int x), (2, .int y), (3, .int z)]) hl ⟨Nat.le_refl 0, Nat.le_refl 0⟩ d_X_later_25 (fun H locs hW => ?_)
      refine lv_if_eq (tgt := 46) X.x X.b d_X_later_28 (by decide) (fun c28 => ?_) (fun c28 => ?_)
      · have c28 := b2i_e c28
        refine lv_aload_n X.x X.b d_X_later_46 rfl (lv_at hl 1 rfl) ?_
        refine lv_ldc (v := (-1000001)) X.x X.b X.ow (X.ts _ mw_212) d_X_later_47 ?_
        refine q_cvi X (c_X_told_0 l E S φ (by rw [hφ])) hW (q_recv X hW ds_X rfl) ok_X_told mw_213 ⟨by decide, by decide⟩ (As := [.int (-1000001)]) rfl rfl (Nat.le_of_ble_eq_true rfl) (lv := [(4, .int (nI 0)), (0, .ref (eA E 0)), (1, .int x), (2, .int y), (3, .int z)]) hl ⟨Nat.le_refl 0, Nat.le_refl 0⟩ d_X_later_49 (fun H locs hW => ?_)
        have hW : qWH E (qr S 14 (fnS φ 0)) s H locs := hW
        exact q_zret X rfl hW ⟨rfl, rfl⟩ d_X_later_52
      · have c28 := b2i_n c28
        refine lv_iload X.x X.b d_X_later_31 (lv_at hl 0 rfl) ?_
        refine lv_if_eq (tgt := 46) X.x X.b d_X_later_33 (by decide) (fun c33 => ?_) (fun c33 => ?_)
        · have c33 : 0 = 0 := (nI_eq (by omega) (by omega)).mp c33
          refine lv_aload_n X.x X.b d_X_later_46 rfl (lv_at hl 1 rfl) ?_
          refine lv_ldc (v := (-1000001)) X.x X.b X.ow (X.ts _ mw_212) d_X_later_47 ?_
          refine q_cvi X (c_X_told_0 l E S φ (by rw [hφ])) hW (q_recv X hW ds_X rfl) ok_X_told mw_213 ⟨by decide, by decide⟩ (As := [.int (-1000001)]) rfl rfl (Nat.le_of_ble_eq_true rfl) (lv := [(4, .int (nI 0)), (0, .ref (eA E 0)), (1, .int x), (2, .int y), (3, .int z)]) hl ⟨Nat.le_refl 0, Nat.le_refl 0⟩ d_X_later_49 (fun H locs hW => ?_)
          have hW : qWH E (qr S 14 (fnS φ 0)) s H locs := hW
          exact q_zret X rfl hW ⟨rfl, rfl⟩ d_X_later_52
        · exact absurd (by decide) c33
    · have c10 := b2i_n c10
      refine lv_iconst (v := nI 1) X.x X.b d_X_later_13 (by decide) ?_
      refine lv_goto (tgt := 18) X.x X.b d_X_later_14 (by decide) ?_
      refine lv_istore (lv' := [(4, .int (nI 1)), (0, .ref (eA E 0)), (1, .int x), (2, .int y), (3, .int z)]) X.x X.b d_X_later_18 hl (by decide) rfl (fun ls hl => ?_)
      refine lv_aload_n X.x X.b d_X_later_20 rfl (lv_at hl 1 rfl) ?_
      refine q_getr X hW qj3 rfl _ ds_X 0 (by decide) mw_183 rfl (c1 := cB 0) rfl d_X_later_21 ?_
      refine lv_iload_n X.x X.b d_X_later_24 rfl (lv_at hl 2 rfl) ?_
      refine q_cvi X (c_Cm_hasWalker l E 0 (by decide) S ρ (by rw [hρ]) hwf x) hW (q_recv X hW (ds_cm (k := 0) (by decide)) rfl) ok_Cm_hasWalker mw_265 ⟨by decide, by decide⟩ (As := [.int x]) rfl rfl (Nat.le_of_ble_eq_true rfl) (lv := [(4, .int (nI 1)), (0, .ref (eA E 0)), (1, .int x), (2, .int y), (3, .int z)]) hl ⟨Nat.le_refl 0, Nat.le_refl 0⟩ d_X_later_25 (fun H locs hW => ?_)
      refine lv_if_eq (tgt := 46) X.x X.b d_X_later_28 (by decide) (fun c28 => ?_) (fun c28 => ?_)
      · have c28 := b2i_e c28
        refine lv_aload_n X.x X.b d_X_later_46 rfl (lv_at hl 1 rfl) ?_
        refine lv_ldc (v := (-1000001)) X.x X.b X.ow (X.ts _ mw_212) d_X_later_47 ?_
        refine q_cvi X (c_X_told_0 l E S φ (by rw [hφ])) hW (q_recv X hW ds_X rfl) ok_X_told mw_213 ⟨by decide, by decide⟩ (As := [.int (-1000001)]) rfl rfl (Nat.le_of_ble_eq_true rfl) (lv := [(4, .int (nI 1)), (0, .ref (eA E 0)), (1, .int x), (2, .int y), (3, .int z)]) hl ⟨Nat.le_refl 0, Nat.le_refl 0⟩ d_X_later_49 (fun H locs hW => ?_)
        have hW : qWH E (qr S 14 (fnS φ 0)) s H locs := hW
        exact q_zret X rfl hW ⟨rfl, rfl⟩ d_X_later_52
      · have c28 := b2i_n c28
        refine lv_iload X.x X.b d_X_later_31 (lv_at hl 0 rfl) ?_
        refine lv_if_eq (tgt := 46) X.x X.b d_X_later_33 (by decide) (fun c33 => ?_) (fun c33 => ?_)
        · exact absurd c33 (by decide)
        · have c33 : ¬ 1 = 0 := fun z => c33 ((nI_eq (by omega) (by omega)).mpr z)
          refine lv_iload_n X.x X.b d_X_later_36 rfl (lv_at hl 4 rfl) ?_
          refine lv_iconst (v := nI 0) X.x X.b d_X_later_37 (by decide) ?_
          refine lv_bipush (v := nI 100) X.x X.b d_X_later_38 (by decide) ?_
          refine q_csi X (c_X_within l E S z (nI 0) (nI 100)) hW ok_X_within mw_209 ⟨by decide, by decide⟩ (As := [.int z, .int (nI 0), .int (nI 100)]) rfl rfl (Nat.le_of_ble_eq_true rfl) (lv := [(4, .int (nI 1)), (0, .ref (eA E 0)), (1, .int x), (2, .int y), (3, .int z)]) hl ⟨Nat.le_refl 0, Nat.le_refl 0⟩ d_X_later_40 (fun H locs hW => ?_)
          refine lv_if_ne (tgt := 53) X.x X.b d_X_later_43 (by decide) (fun c43 => ?_) (fun c43 => ?_)
          · have c43 := b2i_n c43
            exact absurd ⟨c28, by first | exact Or.inl c1 | exact Or.inr c10, c43⟩ h
          · have c43 := b2i_e c43
            refine lv_aload_n X.x X.b d_X_later_46 rfl (lv_at hl 1 rfl) ?_
            refine lv_ldc (v := (-1000001)) X.x X.b X.ow (X.ts _ mw_212) d_X_later_47 ?_
            refine q_cvi X (c_X_told_0 l E S φ (by rw [hφ])) hW (q_recv X hW ds_X rfl) ok_X_told mw_213 ⟨by decide, by decide⟩ (As := [.int (-1000001)]) rfl rfl (Nat.le_of_ble_eq_true rfl) (lv := [(4, .int (nI 1)), (0, .ref (eA E 0)), (1, .int x), (2, .int y), (3, .int z)]) hl ⟨Nat.le_refl 0, Nat.le_refl 0⟩ d_X_later_49 (fun H locs hW => ?_)
            have hW : qWH E (qr S 14 (fnS φ 0)) s H locs := hW
            exact q_zret X rfl hW ⟨rfl, rfl⟩ d_X_later_52
set_option maxHeartbeats 1000000 in
set_option maxRecDepth 20000 in
theorem c_X_arrives_g (l : Launch) (E : QE) (S : QM) (ρ φ τ : Nat → Int32) (hρ : S 0 = ρ) (hφ : S 14 = φ) (hτ : S 2 = τ) (hwf : WF ρ) (w v : Nat) (hw : w < nW ρ) (hv : v ≤ 9999) (hF : (lst (fun d => nI v ≤ (daysS d ρ) (44 + 6 * w + 4)) 201 0) < 201) : qCPi E l y_X_arrives prog_1_method_16_code 4 .int 6 [.ref (eA E 0), .int (nI w), .int (nI v)] S (nI (lst (fun d => nI v ≤ (daysS d ρ) (44 + 6 * w + 4)) 201 0)) (any S 2 WF) := by
  refine qCPi_of (by decide) (Nat.le_of_ble_eq_true rfl) (fun p e s m below meth c ls X hW hl => ?_)
  have hl : lv_has ls 4 [(0, .ref (eA E 0)), (1, .int (nI w)), (2, .int (nI v))] := hl
  have htl := hwf.tl
  have hwl := hwf.wl
  have hdl := hwf.dl
  have hbw : WF (becS τ ρ) := becS_wf hwf
  have hbe : eqv (becS τ ρ) ρ := becS_e hwf
  refine lv_aload_n X.x X.b d_X_arrives_0 rfl (lv_at hl 0 rfl) ?_
  refine q_getr X hW qj3 rfl _ ds_X 0 (by decide) mw_183 rfl (c1 := cB 0) rfl d_X_arrives_1 ?_
  refine lv_iload_n X.x X.b d_X_arrives_4 rfl (lv_at hl 1 rfl) ?_
  refine q_cvi X (c_Cm_hasWalker l E 0 (by decide) S ρ (by rw [hρ]) hwf (nI w)) hW (q_recv X hW (ds_cm (k := 0) (by decide)) rfl) ok_Cm_hasWalker mw_265 ⟨by decide, by decide⟩ (As := [.int (nI w)]) rfl rfl (Nat.le_of_ble_eq_true rfl) (lv := [(0, .ref (eA E 0)), (1, .int (nI w)), (2, .int (nI v))]) hl ⟨Nat.le_refl 0, Nat.le_refl 0⟩ d_X_arrives_5 (fun H locs hW => ?_)
  refine lv_if_eq (tgt := 22) X.x X.b d_X_arrives_8 (by decide) (fun c8 => ?_) (fun c8 => ?_)
  · have c8 := b2i_e c8
    have c8 := mt (isW_i hwf (by omega)).mpr c8
    omega
  · have c8 := b2i_n c8
    have c8 := (isW_i hwf (by omega)).mp c8
    refine lv_iload_n X.x X.b d_X_arrives_11 rfl (lv_at hl 2 rfl) ?_
    refine lv_iconst (v := nI 0) X.x X.b d_X_arrives_12 (by decide) ?_
    refine lv_sipush (v := nI 9999) X.x X.b d_X_arrives_13 (by decide) ?_
    refine q_csi X (c_X_within l E S (nI v) (nI 0) (nI 9999)) hW ok_X_within mw_209 ⟨by decide, by decide⟩ (As := [.int (nI v), .int (nI 0), .int (nI 9999)]) rfl rfl (Nat.le_of_ble_eq_true rfl) (lv := [(0, .ref (eA E 0)), (1, .int (nI w)), (2, .int (nI v))]) hl ⟨Nat.le_refl 0, Nat.le_refl 0⟩ d_X_arrives_16 (fun H locs hW => ?_)
    refine lv_if_ne (tgt := 29) X.x X.b d_X_arrives_19 (by decide) (fun c19 => ?_) (fun c19 => ?_)
    · have c19 := b2i_n c19
      have c19 := (inR_i (by omega) (by decide)).mp c19
      refine lv_aload_n X.x X.b d_X_arrives_29 rfl (lv_at hl 0 rfl) ?_
      refine q_getr X hW qj3 rfl _ ds_X 2 (by decide) mw_185 rfl (c1 := cB 2) rfl d_X_arrives_30 ?_
      refine lv_aload_n X.x X.b d_X_arrives_33 rfl (lv_at hl 0 rfl) ?_
      refine q_getr X hW qj3 rfl _ ds_X 0 (by decide) mw_183 rfl (c1 := cB 0) rfl d_X_arrives_34 ?_
      refine q_cvv X (c_Cm_become l E 2 0 (by decide) (by decide) (by decide) S τ ρ (by rw [hτ]) (by rw [hρ]) hwf) hW (q_recv X hW (ds_cm (k := 2) (by decide)) rfl) ok_Cm_become mw_371 ⟨by decide, by decide⟩ (As := [.ref (eA E (cB 0))]) rfl rfl (Nat.le_of_ble_eq_true rfl) (lv := [(0, .ref (eA E 0)), (1, .int (nI w)), (2, .int (nI v))]) hl ⟨Nat.le_refl 0, Nat.le_refl 0⟩ d_X_arrives_37 (fun H locs hW => ?_)
      have hW : qWH E (qr S 2 (becS τ ρ)) s H locs := hW
      refine lv_iconst (v := nI 0) X.x X.b d_X_arrives_40 (by decide) ?_
      refine lv_istore_n (lv' := [(3, .int (nI 0)), (0, .ref (eA E 0)), (1, .int (nI w)), (2, .int (nI v))]) X.x X.b d_X_arrives_41 rfl hl (by decide) rfl (fun ls hl => ?_)
      have loop42 : ∀ (fu42 : Nat) (j : Nat) (μ : Nat → Int32), j ≤ 201 → μ = daysS j (becS τ ρ) → lst (fun d => nI v ≤ (daysS d ρ) (44 + 6 * w + 4)) (201 - j) j = (lst (fun d => nI v ≤ (daysS d ρ) (44 + 6 * w + 4)) 201 0) → 201 - j < fu42 → ∀ (H : Heap) (locs : List Loc) (ls : Array Slot), qWH E (qr S 2 μ) s H locs → lv_has ls 4 [(3, .int (nI j)), (0, .ref (eA E 0)), (1, .int (nI w)), (2, .int (nI v))] → W p l e (qRm 6) s m ([.ref (eA E 0), .int (nI w), .int (nI v)] : List Value).toArray below meth c H locs 0 0 (MQ below (qQpi E (nI (lst (fun d => nI v ≤ (daysS d ρ) (44 + 6 * w + 4)) 201 0)) (any S 2 WF) s.heap.size) ([.ref (eA E 0), .int (nI w), .int (nI v)] : List Value).toArray s 0 0 (qAA E s.heap.size)) (F0 m 42 ls []) := by
        intro fu42
        induction fu42 with
        | zero =>
          intro j μ hj hm hL hfu
          exact absurd hfu (Nat.not_lt_zero _)
        | succ fu42 ih42 =>
          intro j μ hj hm hL hfu H locs ls hW hl
          have hμ : WF μ := hm ▸ dF hbw j
          have hμe : eqv μ (daysS j ρ) := hm ▸ daysS_e hbe hbw j
          have enW : nW μ = nW ρ := by rw [hμe.nW]; exact (days_ok hwf j).2.2
          have enT : nT μ = nT ρ := by rw [hμe.nT]; exact (days_ok hwf j).2.1
          have hdw := (days_ok hwf j).2.2
          have hdt := (days_ok hwf j).2.1
          refine lv_iload_n X.x X.b d_X_arrives_42 rfl (lv_at hl 0 rfl) ?_
          refine lv_sipush (v := nI 200) X.x X.b d_X_arrives_43 (by decide) ?_
          refine lv_icmp_gt (tgt := 79) X.x X.b d_X_arrives_46 (by decide) (fun c46 => ?_) (fun c46 => ?_)
          · have c46 : 200 < j := (nI_ltI (by omega) (by omega)).mp c46
            exfalso
            rw [show 201 - j = 0 by omega, lst] at hL
            omega
          · have c46 : ¬ 200 < j := fun z => c46 ((nI_ltI (by omega) (by omega)).mpr z)
            refine lv_aload_n X.x X.b d_X_arrives_49 rfl (lv_at hl 1 rfl) ?_
            refine q_getr X hW qj3 rfl _ ds_X 2 (by decide) mw_185 rfl (c1 := cB 2) rfl d_X_arrives_50 ?_
            refine q_getr X hW qj0 rfl _ (ds_cm (k := 2) (by decide)) 2 (by decide) mw_106 rfl (c1 := cB 2 + 3) rfl d_X_arrives_53 ?_
            refine lv_iload_n X.x X.b d_X_arrives_56 rfl (lv_at hl 2 rfl) ?_
            refine g_wk (show 2 < 3 by decide) X hW (show w < 6 by omega) d_X_arrives_57 ?_
            refine lv_iconst (v := nI 4) X.x X.b d_X_arrives_58 (by decide) ?_
            refine g_ald X hW (ds_w (w := w) (k := 2) (by decide) (by omega)) (q_in (by omega) (by decide)) (p0 := 44 + 6 * w + 4) (q_tn (by omega) (by omega)) (v := μ (44 + 6 * w + 4)) (by rw [qr_at]) d_X_arrives_59 ?_
            refine lv_iload_n X.x X.b d_X_arrives_60 rfl (lv_at hl 3 rfl) ?_
            refine lv_icmp_lt (tgt := 66) X.x X.b d_X_arrives_61 (by decide) (fun c61 => ?_) (fun c61 => ?_)
            · refine lv_aload_n X.x X.b d_X_arrives_66 rfl (lv_at hl 1 rfl) ?_
              refine q_getr X hW qj3 rfl _ ds_X 2 (by decide) mw_185 rfl (c1 := cB 2) rfl d_X_arrives_67 ?_
              refine q_cvv X (c_Cm_passDay l E 2 (by decide) (qr S 2 μ) μ (by rw [qr_at]) hμ) hW (q_recv X hW (ds_cm (k := 2) (by decide)) rfl) ok_Cm_passDay mw_305 ⟨by decide, by decide⟩ (As := []) rfl rfl (Nat.le_of_ble_eq_true rfl) (lv := [(3, .int (nI j)), (0, .ref (eA E 0)), (1, .int (nI w)), (2, .int (nI v))]) hl ⟨Nat.le_refl 0, Nat.le_refl 0⟩ d_X_arrives_70 (fun H locs hW => ?_)
              have hW : qWH E (qr S 2 (dayS μ)) s H locs := (by have h := hW; rw [qr_qr] at h; exact h)
              refine lv_iinc (v := nI (j + 1)) (lv' := [(3, .int (nI (j + 1))), (0, .ref (eA E 0)), (1, .int (nI w)), (2, .int (nI v))]) X.x X.b d_X_arrives_73 hl (k := 0) rfl (by rw [show Int32.ofInt 1 = nI 1 from by decide, nI_add]) (by decide) rfl (fun ls hl => ?_)
              refine lv_goto (tgt := 42) X.x X.b d_X_arrives_76 (by decide) ?_
              exact ih42 (j + 1) (dayS μ) (by omega) (by rw [hm]; rfl) (by rw [← hL, show 201 - j = (201 - (j + 1)) + 1 by omega, lst, if_neg (by rw [← hμe.wp (show w < nW μ by omega) 4 (by omega)]; exact Int32.not_le.mpr c61)]) (by omega) _ _ _ hW (lv_sub hl [0, 1, 2, 3] rfl)
            · refine lv_iload_n X.x X.b d_X_arrives_64 rfl (lv_at hl 0 rfl) ?_
              exact q_pzret X rfl hW ⟨by rw [← hL, show 201 - j = (200 - j) + 1 by omega, lst, if_pos (by rw [← hμe.wp (show w < nW μ by omega) 4 (by omega)]; exact Int32.not_lt.mp c61)], ⟨_, hμ, rfl⟩⟩ d_X_arrives_65
      exact loop42 (201 - 0 + 1) 0 (becS τ ρ) (by omega) rfl rfl (Nat.lt_succ_self _) _ _ _ hW (lv_sub hl [0, 1, 2, 3] rfl)
    · have c19 := b2i_e c19
      have c19 := mt (inR_i (by omega) (by decide)).mpr c19
      omega
set_option maxHeartbeats 1000000 in
set_option maxRecDepth 20000 in
theorem c_X_arrives_n (l : Launch) (E : QE) (S : QM) (ρ φ τ : Nat → Int32) (hρ : S 0 = ρ) (hφ : S 14 = φ) (hτ : S 2 = τ) (hwf : WF ρ) (w v : Nat) (hw : w < nW ρ) (hv : v ≤ 9999) (hF : ¬ (lst (fun d => nI v ≤ (daysS d ρ) (44 + 6 * w + 4)) 201 0) < 201) : qCPi E l y_X_arrives prog_1_method_16_code 4 .int 6 [.ref (eA E 0), .int (nI w), .int (nI v)] S (-1000004) (any (qr S 14 (fnS φ 3)) 2 WF) := by
  refine qCPi_of (by decide) (Nat.le_of_ble_eq_true rfl) (fun p e s m below meth c ls X hW hl => ?_)
  have hl : lv_has ls 4 [(0, .ref (eA E 0)), (1, .int (nI w)), (2, .int (nI v))] := hl
  have htl := hwf.tl
  have hwl := hwf.wl
  have hdl := hwf.dl
  have hbw : WF (becS τ ρ) := becS_wf hwf
  have hbe : eqv (becS τ ρ) ρ := becS_e hwf
  refine lv_aload_n X.x X.b d_X_arrives_0 rfl (lv_at hl 0 rfl) ?_
  refine q_getr X hW qj3 rfl _ ds_X 0 (by decide) mw_183 rfl (c1 := cB 0) rfl d_X_arrives_1 ?_
  refine lv_iload_n X.x X.b d_X_arrives_4 rfl (lv_at hl 1 rfl) ?_
  refine q_cvi X (c_Cm_hasWalker l E 0 (by decide) S ρ (by rw [hρ]) hwf (nI w)) hW (q_recv X hW (ds_cm (k := 0) (by decide)) rfl) ok_Cm_hasWalker mw_265 ⟨by decide, by decide⟩ (As := [.int (nI w)]) rfl rfl (Nat.le_of_ble_eq_true rfl) (lv := [(0, .ref (eA E 0)), (1, .int (nI w)), (2, .int (nI v))]) hl ⟨Nat.le_refl 0, Nat.le_refl 0⟩ d_X_arrives_5 (fun H locs hW => ?_)
  refine lv_if_eq (tgt := 22) X.x X.b d_X_arrives_8 (by decide) (fun c8 => ?_) (fun c8 => ?_)
  · have c8 := b2i_e c8
    have c8 := mt (isW_i hwf (by omega)).mpr c8
    omega
  · have c8 := b2i_n c8
    have c8 := (isW_i hwf (by omega)).mp c8
    refine lv_iload_n X.x X.b d_X_arrives_11 rfl (lv_at hl 2 rfl) ?_
    refine lv_iconst (v := nI 0) X.x X.b d_X_arrives_12 (by decide) ?_
    refine lv_sipush (v := nI 9999) X.x X.b d_X_arrives_13 (by decide) ?_
    refine q_csi X (c_X_within l E S (nI v) (nI 0) (nI 9999)) hW ok_X_within mw_209 ⟨by decide, by decide⟩ (As := [.int (nI v), .int (nI 0), .int (nI 9999)]) rfl rfl (Nat.le_of_ble_eq_true rfl) (lv := [(0, .ref (eA E 0)), (1, .int (nI w)), (2, .int (nI v))]) hl ⟨Nat.le_refl 0, Nat.le_refl 0⟩ d_X_arrives_16 (fun H locs hW => ?_)
    refine lv_if_ne (tgt := 29) X.x X.b d_X_arrives_19 (by decide) (fun c19 => ?_) (fun c19 => ?_)
    · have c19 := b2i_n c19
      have c19 := (inR_i (by omega) (by decide)).mp c19
      refine lv_aload_n X.x X.b d_X_arrives_29 rfl (lv_at hl 0 rfl) ?_
      refine q_getr X hW qj3 rfl _ ds_X 2 (by decide) mw_185 rfl (c1 := cB 2) rfl d_X_arrives_30 ?_
      refine lv_aload_n X.x X.b d_X_arrives_33 rfl (lv_at hl 0 rfl) ?_
      refine q_getr X hW qj3 rfl _ ds_X 0 (by decide) mw_183 rfl (c1 := cB 0) rfl d_X_arrives_34 ?_
      refine q_cvv X (c_Cm_become l E 2 0 (by decide) (by decide) (by decide) S τ ρ (by rw [hτ]) (by rw [hρ]) hwf) hW (q_recv X hW (ds_cm (k := 2) (by decide)) rfl) ok_Cm_become mw_371 ⟨by decide, by decide⟩ (As := [.ref (eA E (cB 0))]) rfl rfl (Nat.le_of_ble_eq_true rfl) (lv := [(0, .ref (eA E 0)), (1, .int (nI w)), (2, .int (nI v))]) hl ⟨Nat.le_refl 0, Nat.le_refl 0⟩ d_X_arrives_37 (fun H locs hW => ?_)
      have hW : qWH E (qr S 2 (becS τ ρ)) s H locs := hW
      refine lv_iconst (v := nI 0) X.x X.b d_X_arrives_40 (by decide) ?_
      refine lv_istore_n (lv' := [(3, .int (nI 0)), (0, .ref (eA E 0)), (1, .int (nI w)), (2, .int (nI v))]) X.x X.b d_X_arrives_41 rfl hl (by decide) rfl (fun ls hl => ?_)
      have loop42 : ∀ (fu42 : Nat) (j : Nat) (μ : Nat → Int32), j ≤ 201 → μ = daysS j (becS τ ρ) → lst (fun d => nI v ≤ (daysS d ρ) (44 + 6 * w + 4)) (201 - j) j = (lst (fun d => nI v ≤ (daysS d ρ) (44 + 6 * w + 4)) 201 0) → 201 - j < fu42 → ∀ (H : Heap) (locs : List Loc) (ls : Array Slot), qWH E (qr S 2 μ) s H locs → lv_has ls 4 [(3, .int (nI j)), (0, .ref (eA E 0)), (1, .int (nI w)), (2, .int (nI v))] → W p l e (qRm 6) s m ([.ref (eA E 0), .int (nI w), .int (nI v)] : List Value).toArray below meth c H locs 0 0 (MQ below (qQpi E (-1000004) (any (qr S 14 (fnS φ 3)) 2 WF) s.heap.size) ([.ref (eA E 0), .int (nI w), .int (nI v)] : List Value).toArray s 0 0 (qAA E s.heap.size)) (F0 m 42 ls []) := by
        intro fu42
        induction fu42 with
        | zero =>
          intro j μ hj hm hL hfu
          exact absurd hfu (Nat.not_lt_zero _)
        | succ fu42 ih42 =>
          intro j μ hj hm hL hfu H locs ls hW hl
          have hμ : WF μ := hm ▸ dF hbw j
          have hμe : eqv μ (daysS j ρ) := hm ▸ daysS_e hbe hbw j
          have enW : nW μ = nW ρ := by rw [hμe.nW]; exact (days_ok hwf j).2.2
          have enT : nT μ = nT ρ := by rw [hμe.nT]; exact (days_ok hwf j).2.1
          have hdw := (days_ok hwf j).2.2
          have hdt := (days_ok hwf j).2.1
          refine lv_iload_n X.x X.b d_X_arrives_42 rfl (lv_at hl 0 rfl) ?_
          refine lv_sipush (v := nI 200) X.x X.b d_X_arrives_43 (by decide) ?_
          refine lv_icmp_gt (tgt := 79) X.x X.b d_X_arrives_46 (by decide) (fun c46 => ?_) (fun c46 => ?_)
          · have c46 : 200 < j := (nI_ltI (by omega) (by omega)).mp c46
            refine lv_aload_n X.x X.b d_X_arrives_79 rfl (lv_at hl 1 rfl) ?_
            refine lv_ldc (v := (-1000004)) X.x X.b X.ow (X.ts _ mw_390) d_X_arrives_80 ?_
            refine q_cvi X (c_X_told_3 l E (qr S 2 μ) φ (by rw [qr_ne (by omega), hφ])) hW (q_recv X hW ds_X rfl) ok_X_told mw_213 ⟨by decide, by decide⟩ (As := [.int (-1000004)]) rfl rfl (Nat.le_of_ble_eq_true rfl) (lv := [(3, .int (nI j)), (0, .ref (eA E 0)), (1, .int (nI w)), (2, .int (nI v))]) hl ⟨Nat.le_refl 0, Nat.le_refl 0⟩ d_X_arrives_82 (fun H locs hW => ?_)
            have hW : qWH E (qr (qr S 2 μ) 14 (fnS φ 3)) s H locs := hW
            exact q_pzret X rfl hW ⟨rfl, ⟨_, hμ, qr_sw (by omega)⟩⟩ d_X_arrives_85
          · have c46 : ¬ 200 < j := fun z => c46 ((nI_ltI (by omega) (by omega)).mpr z)
            refine lv_aload_n X.x X.b d_X_arrives_49 rfl (lv_at hl 1 rfl) ?_
            refine q_getr X hW qj3 rfl _ ds_X 2 (by decide) mw_185 rfl (c1 := cB 2) rfl d_X_arrives_50 ?_
            refine q_getr X hW qj0 rfl _ (ds_cm (k := 2) (by decide)) 2 (by decide) mw_106 rfl (c1 := cB 2 + 3) rfl d_X_arrives_53 ?_
            refine lv_iload_n X.x X.b d_X_arrives_56 rfl (lv_at hl 2 rfl) ?_
            refine g_wk (show 2 < 3 by decide) X hW (show w < 6 by omega) d_X_arrives_57 ?_
            refine lv_iconst (v := nI 4) X.x X.b d_X_arrives_58 (by decide) ?_
            refine g_ald X hW (ds_w (w := w) (k := 2) (by decide) (by omega)) (q_in (by omega) (by decide)) (p0 := 44 + 6 * w + 4) (q_tn (by omega) (by omega)) (v := μ (44 + 6 * w + 4)) (by rw [qr_at]) d_X_arrives_59 ?_
            refine lv_iload_n X.x X.b d_X_arrives_60 rfl (lv_at hl 3 rfl) ?_
            refine lv_icmp_lt (tgt := 66) X.x X.b d_X_arrives_61 (by decide) (fun c61 => ?_) (fun c61 => ?_)
            · refine lv_aload_n X.x X.b d_X_arrives_66 rfl (lv_at hl 1 rfl) ?_
              refine q_getr X hW qj3 rfl _ ds_X 2 (by decide) mw_185 rfl (c1 := cB 2) rfl d_X_arrives_67 ?_
              refine q_cvv X (c_Cm_passDay l E 2 (by decide) (qr S 2 μ) μ (by rw [qr_at]) hμ) hW (q_recv X hW (ds_cm (k := 2) (by decide)) rfl) ok_Cm_passDay mw_305 ⟨by decide, by decide⟩ (As := []) rfl rfl (Nat.le_of_ble_eq_true rfl) (lv := [(3, .int (nI j)), (0, .ref (eA E 0)), (1, .int (nI w)), (2, .int (nI v))]) hl ⟨Nat.le_refl 0, Nat.le_refl 0⟩ d_X_arrives_70 (fun H locs hW => ?_)
              have hW : qWH E (qr S 2 (dayS μ)) s H locs := (by have h := hW; rw [qr_qr] at h; exact h)
              refine lv_iinc (v := nI (j + 1)) (lv' := [(3, .int (nI (j + 1))), (0, .ref (eA E 0)), (1, .int (nI w)), (2, .int (nI v))]) X.x X.b d_X_arrives_73 hl (k := 0) rfl (by rw [show Int32.ofInt 1 = nI 1 from by decide, nI_add]) (by decide) rfl (fun ls hl => ?_)
              refine lv_goto (tgt := 42) X.x X.b d_X_arrives_76 (by decide) ?_
              exact ih42 (j + 1) (dayS μ) (by omega) (by rw [hm]; rfl) (by rw [← hL, show 201 - j = (201 - (j + 1)) + 1 by omega, lst, if_neg (by rw [← hμe.wp (show w < nW μ by omega) 4 (by omega)]; exact Int32.not_le.mpr c61)]) (by omega) _ _ _ hW (lv_sub hl [0, 1, 2, 3] rfl)
            · refine lv_iload_n X.x X.b d_X_arrives_64 rfl (lv_at hl 0 rfl) ?_
              exact absurd (show (lst (fun d => nI v ≤ (daysS d ρ) (44 + 6 * w + 4)) 201 0) < 201 by rw [← hL, show 201 - j = (200 - j) + 1 by omega, lst, if_pos (by rw [← hμe.wp (show w < nW μ by omega) 4 (by omega)]; exact Int32.not_lt.mp c61)]; omega) hF
      exact loop42 (201 - 0 + 1) 0 (becS τ ρ) (by omega) rfl rfl (Nat.lt_succ_self _) _ _ _ hW (lv_sub hl [0, 1, 2, 3] rfl)
    · have c19 := b2i_e c19
      have c19 := mt (inR_i (by omega) (by decide)).mpr c19
      omega
set_option maxHeartbeats 1000000 in
set_option maxRecDepth 20000 in
theorem c_X_arrives_b (l : Launch) (E : QE) (S : QM) (ρ φ : Nat → Int32) (hρ : S 0 = ρ) (hφ : S 14 = φ) (hwf : WF ρ) (x y : Int32) (h : ¬ (isW ρ x ∧ inR 0 9999 y)) : qCI E l y_X_arrives prog_1_method_16_code 4 .int 3 [.ref (eA E 0), .int x, .int y] S (-1000001) (qr S 14 (fnS φ 0)) := by
  refine qCI_of (by decide) (Nat.le_of_ble_eq_true rfl) (fun p e s m below meth c ls X hW hl => ?_)
  have hl : lv_has ls 4 [(0, .ref (eA E 0)), (1, .int x), (2, .int y)] := hl
  have htl := hwf.tl
  have hwl := hwf.wl
  have hdl := hwf.dl
  refine lv_aload_n X.x X.b d_X_arrives_0 rfl (lv_at hl 0 rfl) ?_
  refine q_getr X hW qj3 rfl _ ds_X 0 (by decide) mw_183 rfl (c1 := cB 0) rfl d_X_arrives_1 ?_
  refine lv_iload_n X.x X.b d_X_arrives_4 rfl (lv_at hl 1 rfl) ?_
  refine q_cvi X (c_Cm_hasWalker l E 0 (by decide) S ρ (by rw [hρ]) hwf x) hW (q_recv X hW (ds_cm (k := 0) (by decide)) rfl) ok_Cm_hasWalker mw_265 ⟨by decide, by decide⟩ (As := [.int x]) rfl rfl (Nat.le_of_ble_eq_true rfl) (lv := [(0, .ref (eA E 0)), (1, .int x), (2, .int y)]) hl ⟨Nat.le_refl 0, Nat.le_refl 0⟩ d_X_arrives_5 (fun H locs hW => ?_)
  refine lv_if_eq (tgt := 22) X.x X.b d_X_arrives_8 (by decide) (fun c8 => ?_) (fun c8 => ?_)
  · have c8 := b2i_e c8
    refine lv_aload_n X.x X.b d_X_arrives_22 rfl (lv_at hl 0 rfl) ?_
    refine lv_ldc (v := (-1000001)) X.x X.b X.ow (X.ts _ mw_212) d_X_arrives_23 ?_
    refine q_cvi X (c_X_told_0 l E S φ (by rw [hφ])) hW (q_recv X hW ds_X rfl) ok_X_told mw_213 ⟨by decide, by decide⟩ (As := [.int (-1000001)]) rfl rfl (Nat.le_of_ble_eq_true rfl) (lv := [(0, .ref (eA E 0)), (1, .int x), (2, .int y)]) hl ⟨Nat.le_refl 0, Nat.le_refl 0⟩ d_X_arrives_25 (fun H locs hW => ?_)
    have hW : qWH E (qr S 14 (fnS φ 0)) s H locs := hW
    exact q_zret X rfl hW ⟨rfl, rfl⟩ d_X_arrives_28
  · have c8 := b2i_n c8
    refine lv_iload_n X.x X.b d_X_arrives_11 rfl (lv_at hl 2 rfl) ?_
    refine lv_iconst (v := nI 0) X.x X.b d_X_arrives_12 (by decide) ?_
    refine lv_sipush (v := nI 9999) X.x X.b d_X_arrives_13 (by decide) ?_
    refine q_csi X (c_X_within l E S y (nI 0) (nI 9999)) hW ok_X_within mw_209 ⟨by decide, by decide⟩ (As := [.int y, .int (nI 0), .int (nI 9999)]) rfl rfl (Nat.le_of_ble_eq_true rfl) (lv := [(0, .ref (eA E 0)), (1, .int x), (2, .int y)]) hl ⟨Nat.le_refl 0, Nat.le_refl 0⟩ d_X_arrives_16 (fun H locs hW => ?_)
    refine lv_if_ne (tgt := 29) X.x X.b d_X_arrives_19 (by decide) (fun c19 => ?_) (fun c19 => ?_)
    · have c19 := b2i_n c19
      exact absurd ⟨c8, c19⟩ h
    · have c19 := b2i_e c19
      refine lv_aload_n X.x X.b d_X_arrives_22 rfl (lv_at hl 0 rfl) ?_
      refine lv_ldc (v := (-1000001)) X.x X.b X.ow (X.ts _ mw_212) d_X_arrives_23 ?_
      refine q_cvi X (c_X_told_0 l E S φ (by rw [hφ])) hW (q_recv X hW ds_X rfl) ok_X_told mw_213 ⟨by decide, by decide⟩ (As := [.int (-1000001)]) rfl rfl (Nat.le_of_ble_eq_true rfl) (lv := [(0, .ref (eA E 0)), (1, .int x), (2, .int y)]) hl ⟨Nat.le_refl 0, Nat.le_refl 0⟩ d_X_arrives_25 (fun H locs hW => ?_)
      have hW : qWH E (qr S 14 (fnS φ 0)) s H locs := hW
      exact q_zret X rfl hW ⟨rfl, rfl⟩ d_X_arrives_28
set_option maxHeartbeats 1000000 in
set_option maxRecDepth 20000 in
theorem c_X_spies_g (l : Launch) (E : QE) (S : QM) (ρ φ τ : Nat → Int32) (hρ : S 0 = ρ) (hφ : S 14 = φ) (hτ : S 2 = τ) (hwf : WF ρ) (w t : Nat) (hw : w < nW ρ) (ht : t < nT ρ) (hF : (lst (fun d => see (daysS d ρ) w t) 201 0) < 201) : qCPi E l y_X_spies prog_1_method_17_code 4 .int 6 [.ref (eA E 0), .int (nI w), .int (nI t)] S (nI (lst (fun d => see (daysS d ρ) w t) 201 0)) (any S 2 WF) := by
  refine qCPi_of (by decide) (Nat.le_of_ble_eq_true rfl) (fun p e s m below meth c ls X hW hl => ?_)
  have hl : lv_has ls 4 [(0, .ref (eA E 0)), (1, .int (nI w)), (2, .int (nI t))] := hl
  have htl := hwf.tl
  have hwl := hwf.wl
  have hdl := hwf.dl
  have hbw : WF (becS τ ρ) := becS_wf hwf
  have hbe : eqv (becS τ ρ) ρ := becS_e hwf
  refine lv_aload_n X.x X.b d_X_spies_0 rfl (lv_at hl 0 rfl) ?_
  refine q_getr X hW qj3 rfl _ ds_X 0 (by decide) mw_183 rfl (c1 := cB 0) rfl d_X_spies_1 ?_
  refine lv_iload_n X.x X.b d_X_spies_4 rfl (lv_at hl 1 rfl) ?_
  refine q_cvi X (c_Cm_hasWalker l E 0 (by decide) S ρ (by rw [hρ]) hwf (nI w)) hW (q_recv X hW (ds_cm (k := 0) (by decide)) rfl) ok_Cm_hasWalker mw_265 ⟨by decide, by decide⟩ (As := [.int (nI w)]) rfl rfl (Nat.le_of_ble_eq_true rfl) (lv := [(0, .ref (eA E 0)), (1, .int (nI w)), (2, .int (nI t))]) hl ⟨Nat.le_refl 0, Nat.le_refl 0⟩ d_X_spies_5 (fun H locs hW => ?_)
  refine lv_if_eq (tgt := 22) X.x X.b d_X_spies_8 (by decide) (fun c8 => ?_) (fun c8 => ?_)
  · have c8 := b2i_e c8
    have c8 := mt (isW_i hwf (by omega)).mpr c8
    omega
  · have c8 := b2i_n c8
    have c8 := (isW_i hwf (by omega)).mp c8
    refine lv_aload_n X.x X.b d_X_spies_11 rfl (lv_at hl 0 rfl) ?_
    refine q_getr X hW qj3 rfl _ ds_X 0 (by decide) mw_183 rfl (c1 := cB 0) rfl d_X_spies_12 ?_
    refine lv_iload_n X.x X.b d_X_spies_15 rfl (lv_at hl 2 rfl) ?_
    refine q_cvi X (c_Cm_hasThing l E 0 (by decide) S ρ (by rw [hρ]) hwf (nI t)) hW (q_recv X hW (ds_cm (k := 0) (by decide)) rfl) ok_Cm_hasThing mw_244 ⟨by decide, by decide⟩ (As := [.int (nI t)]) rfl rfl (Nat.le_of_ble_eq_true rfl) (lv := [(0, .ref (eA E 0)), (1, .int (nI w)), (2, .int (nI t))]) hl ⟨Nat.le_refl 0, Nat.le_refl 0⟩ d_X_spies_16 (fun H locs hW => ?_)
    refine lv_if_ne (tgt := 29) X.x X.b d_X_spies_19 (by decide) (fun c19 => ?_) (fun c19 => ?_)
    · have c19 := b2i_n c19
      have c19 := (isT_i hwf (by omega)).mp c19
      refine lv_aload_n X.x X.b d_X_spies_29 rfl (lv_at hl 0 rfl) ?_
      refine q_getr X hW qj3 rfl _ ds_X 2 (by decide) mw_185 rfl (c1 := cB 2) rfl d_X_spies_30 ?_
      refine lv_aload_n X.x X.b d_X_spies_33 rfl (lv_at hl 0 rfl) ?_
      refine q_getr X hW qj3 rfl _ ds_X 0 (by decide) mw_183 rfl (c1 := cB 0) rfl d_X_spies_34 ?_
      refine q_cvv X (c_Cm_become l E 2 0 (by decide) (by decide) (by decide) S τ ρ (by rw [hτ]) (by rw [hρ]) hwf) hW (q_recv X hW (ds_cm (k := 2) (by decide)) rfl) ok_Cm_become mw_371 ⟨by decide, by decide⟩ (As := [.ref (eA E (cB 0))]) rfl rfl (Nat.le_of_ble_eq_true rfl) (lv := [(0, .ref (eA E 0)), (1, .int (nI w)), (2, .int (nI t))]) hl ⟨Nat.le_refl 0, Nat.le_refl 0⟩ d_X_spies_37 (fun H locs hW => ?_)
      have hW : qWH E (qr S 2 (becS τ ρ)) s H locs := hW
      refine lv_iconst (v := nI 0) X.x X.b d_X_spies_40 (by decide) ?_
      refine lv_istore_n (lv' := [(3, .int (nI 0)), (0, .ref (eA E 0)), (1, .int (nI w)), (2, .int (nI t))]) X.x X.b d_X_spies_41 rfl hl (by decide) rfl (fun ls hl => ?_)
      have loop42 : ∀ (fu42 : Nat) (j : Nat) (μ : Nat → Int32), j ≤ 201 → μ = daysS j (becS τ ρ) → lst (fun d => see (daysS d ρ) w t) (201 - j) j = (lst (fun d => see (daysS d ρ) w t) 201 0) → 201 - j < fu42 → ∀ (H : Heap) (locs : List Loc) (ls : Array Slot), qWH E (qr S 2 μ) s H locs → lv_has ls 4 [(3, .int (nI j)), (0, .ref (eA E 0)), (1, .int (nI w)), (2, .int (nI t))] → W p l e (qRm 6) s m ([.ref (eA E 0), .int (nI w), .int (nI t)] : List Value).toArray below meth c H locs 0 0 (MQ below (qQpi E (nI (lst (fun d => see (daysS d ρ) w t) 201 0)) (any S 2 WF) s.heap.size) ([.ref (eA E 0), .int (nI w), .int (nI t)] : List Value).toArray s 0 0 (qAA E s.heap.size)) (F0 m 42 ls []) := by
        intro fu42
        induction fu42 with
        | zero =>
          intro j μ hj hm hL hfu
          exact absurd hfu (Nat.not_lt_zero _)
        | succ fu42 ih42 =>
          intro j μ hj hm hL hfu H locs ls hW hl
          have hμ : WF μ := hm ▸ dF hbw j
          have hμe : eqv μ (daysS j ρ) := hm ▸ daysS_e hbe hbw j
          have enW : nW μ = nW ρ := by rw [hμe.nW]; exact (days_ok hwf j).2.2
          have enT : nT μ = nT ρ := by rw [hμe.nT]; exact (days_ok hwf j).2.1
          have hdw := (days_ok hwf j).2.2
          have hdt := (days_ok hwf j).2.1
          refine lv_iload_n X.x X.b d_X_spies_42 rfl (lv_at hl 0 rfl) ?_
          refine lv_sipush (v := nI 200) X.x X.b d_X_spies_43 (by decide) ?_
          refine lv_icmp_gt (tgt := 76) X.x X.b d_X_spies_46 (by decide) (fun c46 => ?_) (fun c46 => ?_)
          · have c46 : 200 < j := (nI_ltI (by omega) (by omega)).mp c46
            exfalso
            rw [show 201 - j = 0 by omega, lst] at hL
            omega
          · have c46 : ¬ 200 < j := fun z => c46 ((nI_ltI (by omega) (by omega)).mpr z)
            refine lv_aload_n X.x X.b d_X_spies_49 rfl (lv_at hl 1 rfl) ?_
            refine q_getr X hW qj3 rfl _ ds_X 2 (by decide) mw_185 rfl (c1 := cB 2) rfl d_X_spies_50 ?_
            refine lv_iload_n X.x X.b d_X_spies_53 rfl (lv_at hl 2 rfl) ?_
            refine lv_iload_n X.x X.b d_X_spies_54 rfl (lv_at hl 3 rfl) ?_
            refine q_cvi X (c_Cm_canSee l E 2 (by decide) (qr S 2 μ) μ (by rw [qr_at]) hμ w t (by omega) (by omega)) hW (q_recv X hW (ds_cm (k := 2) (by decide)) rfl) ok_Cm_canSee mw_281 ⟨by decide, by decide⟩ (As := [.int (nI w), .int (nI t)]) rfl rfl (Nat.le_of_ble_eq_true rfl) (lv := [(3, .int (nI j)), (0, .ref (eA E 0)), (1, .int (nI w)), (2, .int (nI t))]) hl ⟨Nat.le_refl 0, Nat.le_refl 0⟩ d_X_spies_55 (fun H locs hW => ?_)
            refine lv_if_eq (tgt := 63) X.x X.b d_X_spies_58 (by decide) (fun c58 => ?_) (fun c58 => ?_)
            · have c58 := b2i_e c58
              refine lv_aload_n X.x X.b d_X_spies_63 rfl (lv_at hl 1 rfl) ?_
              refine q_getr X hW qj3 rfl _ ds_X 2 (by decide) mw_185 rfl (c1 := cB 2) rfl d_X_spies_64 ?_
              refine q_cvv X (c_Cm_passDay l E 2 (by decide) (qr S 2 μ) μ (by rw [qr_at]) hμ) hW (q_recv X hW (ds_cm (k := 2) (by decide)) rfl) ok_Cm_passDay mw_305 ⟨by decide, by decide⟩ (As := []) rfl rfl (Nat.le_of_ble_eq_true rfl) (lv := [(3, .int (nI j)), (0, .ref (eA E 0)), (1, .int (nI w)), (2, .int (nI t))]) hl ⟨Nat.le_refl 0, Nat.le_refl 0⟩ d_X_spies_67 (fun H locs hW => ?_)
              have hW : qWH E (qr S 2 (dayS μ)) s H locs := (by have h := hW; rw [qr_qr] at h; exact h)
              refine lv_iinc (v := nI (j + 1)) (lv' := [(3, .int (nI (j + 1))), (0, .ref (eA E 0)), (1, .int (nI w)), (2, .int (nI t))]) X.x X.b d_X_spies_70 hl (k := 0) rfl (by rw [show Int32.ofInt 1 = nI 1 from by decide, nI_add]) (by decide) rfl (fun ls hl => ?_)
              refine lv_goto (tgt := 42) X.x X.b d_X_spies_73 (by decide) ?_
              exact ih42 (j + 1) (dayS μ) (by omega) (by rw [hm]; rfl) (by rw [← hL, show 201 - j = (201 - (j + 1)) + 1 by omega, lst, if_neg (fun z => c58 ((see_e hμe (by omega) (by omega)).mpr z))]) (by omega) _ _ _ hW (lv_sub hl [0, 1, 2, 3] rfl)
            · have c58 := b2i_n c58
              refine lv_iload_n X.x X.b d_X_spies_61 rfl (lv_at hl 0 rfl) ?_
              exact q_pzret X rfl hW ⟨by rw [← hL, show 201 - j = (200 - j) + 1 by omega, lst, if_pos ((see_e hμe (by omega) (by omega)).mp c58)], ⟨_, hμ, rfl⟩⟩ d_X_spies_62
      exact loop42 (201 - 0 + 1) 0 (becS τ ρ) (by omega) rfl rfl (Nat.lt_succ_self _) _ _ _ hW (lv_sub hl [0, 1, 2, 3] rfl)
    · have c19 := b2i_e c19
      have c19 := mt (isT_i hwf (by omega)).mpr c19
      omega
set_option maxHeartbeats 1000000 in
set_option maxRecDepth 20000 in
theorem c_X_spies_n (l : Launch) (E : QE) (S : QM) (ρ φ τ : Nat → Int32) (hρ : S 0 = ρ) (hφ : S 14 = φ) (hτ : S 2 = τ) (hwf : WF ρ) (w t : Nat) (hw : w < nW ρ) (ht : t < nT ρ) (hF : ¬ (lst (fun d => see (daysS d ρ) w t) 201 0) < 201) : qCPi E l y_X_spies prog_1_method_17_code 4 .int 6 [.ref (eA E 0), .int (nI w), .int (nI t)] S (-1000004) (any (qr S 14 (fnS φ 3)) 2 WF) := by
  refine qCPi_of (by decide) (Nat.le_of_ble_eq_true rfl) (fun p e s m below meth c ls X hW hl => ?_)
  have hl : lv_has ls 4 [(0, .ref (eA E 0)), (1, .int (nI w)), (2, .int (nI t))] := hl
  have htl := hwf.tl
  have hwl := hwf.wl
  have hdl := hwf.dl
  have hbw : WF (becS τ ρ) := becS_wf hwf
  have hbe : eqv (becS τ ρ) ρ := becS_e hwf
  refine lv_aload_n X.x X.b d_X_spies_0 rfl (lv_at hl 0 rfl) ?_
  refine q_getr X hW qj3 rfl _ ds_X 0 (by decide) mw_183 rfl (c1 := cB 0) rfl d_X_spies_1 ?_
  refine lv_iload_n X.x X.b d_X_spies_4 rfl (lv_at hl 1 rfl) ?_
  refine q_cvi X (c_Cm_hasWalker l E 0 (by decide) S ρ (by rw [hρ]) hwf (nI w)) hW (q_recv X hW (ds_cm (k := 0) (by decide)) rfl) ok_Cm_hasWalker mw_265 ⟨by decide, by decide⟩ (As := [.int (nI w)]) rfl rfl (Nat.le_of_ble_eq_true rfl) (lv := [(0, .ref (eA E 0)), (1, .int (nI w)), (2, .int (nI t))]) hl ⟨Nat.le_refl 0, Nat.le_refl 0⟩ d_X_spies_5 (fun H locs hW => ?_)
  refine lv_if_eq (tgt := 22) X.x X.b d_X_spies_8 (by decide) (fun c8 => ?_) (fun c8 => ?_)
  · have c8 := b2i_e c8
    have c8 := mt (isW_i hwf (by omega)).mpr c8
    omega
  · have c8 := b2i_n c8
    have c8 := (isW_i hwf (by omega)).mp c8
    refine lv_aload_n X.x X.b d_X_spies_11 rfl (lv_at hl 0 rfl) ?_
    refine q_getr X hW qj3 rfl _ ds_X 0 (by decide) mw_183 rfl (c1 := cB 0) rfl d_X_spies_12 ?_
    refine lv_iload_n X.x X.b d_X_spies_15 rfl (lv_at hl 2 rfl) ?_
    refine q_cvi X (c_Cm_hasThing l E 0 (by decide) S ρ (by rw [hρ]) hwf (nI t)) hW (q_recv X hW (ds_cm (k := 0) (by decide)) rfl) ok_Cm_hasThing mw_244 ⟨by decide, by decide⟩ (As := [.int (nI t)]) rfl rfl (Nat.le_of_ble_eq_true rfl) (lv := [(0, .ref (eA E 0)), (1, .int (nI w)), (2, .int (nI t))]) hl ⟨Nat.le_refl 0, Nat.le_refl 0⟩ d_X_spies_16 (fun H locs hW => ?_)
    refine lv_if_ne (tgt := 29) X.x X.b d_X_spies_19 (by decide) (fun c19 => ?_) (fun c19 => ?_)
    · have c19 := b2i_n c19
      have c19 := (isT_i hwf (by omega)).mp c19
      refine lv_aload_n X.x X.b d_X_spies_29 rfl (lv_at hl 0 rfl) ?_
      refine q_getr X hW qj3 rfl _ ds_X 2 (by decide) mw_185 rfl (c1 := cB 2) rfl d_X_spies_30 ?_
      refine lv_aload_n X.x X.b d_X_spies_33 rfl (lv_at hl 0 rfl) ?_
      refine q_getr X hW qj3 rfl _ ds_X 0 (by decide) mw_183 rfl (c1 := cB 0) rfl d_X_spies_34 ?_
      refine q_cvv X (c_Cm_become l E 2 0 (by decide) (by decide) (by decide) S τ ρ (by rw [hτ]) (by rw [hρ]) hwf) hW (q_recv X hW (ds_cm (k := 2) (by decide)) rfl) ok_Cm_become mw_371 ⟨by decide, by decide⟩ (As := [.ref (eA E (cB 0))]) rfl rfl (Nat.le_of_ble_eq_true rfl) (lv := [(0, .ref (eA E 0)), (1, .int (nI w)), (2, .int (nI t))]) hl ⟨Nat.le_refl 0, Nat.le_refl 0⟩ d_X_spies_37 (fun H locs hW => ?_)
      have hW : qWH E (qr S 2 (becS τ ρ)) s H locs := hW
      refine lv_iconst (v := nI 0) X.x X.b d_X_spies_40 (by decide) ?_
      refine lv_istore_n (lv' := [(3, .int (nI 0)), (0, .ref (eA E 0)), (1, .int (nI w)), (2, .int (nI t))]) X.x X.b d_X_spies_41 rfl hl (by decide) rfl (fun ls hl => ?_)
      have loop42 : ∀ (fu42 : Nat) (j : Nat) (μ : Nat → Int32), j ≤ 201 → μ = daysS j (becS τ ρ) → lst (fun d => see (daysS d ρ) w t) (201 - j) j = (lst (fun d => see (daysS d ρ) w t) 201 0) → 201 - j < fu42 → ∀ (H : Heap) (locs : List Loc) (ls : Array Slot), qWH E (qr S 2 μ) s H locs → lv_has ls 4 [(3, .int (nI j)), (0, .ref (eA E 0)), (1, .int (nI w)), (2, .int (nI t))] → W p l e (qRm 6) s m ([.ref (eA E 0), .int (nI w), .int (nI t)] : List Value).toArray below meth c H locs 0 0 (MQ below (qQpi E (-1000004) (any (qr S 14 (fnS φ 3)) 2 WF) s.heap.size) ([.ref (eA E 0), .int (nI w), .int (nI t)] : List Value).toArray s 0 0 (qAA E s.heap.size)) (F0 m 42 ls []) := by
        intro fu42
        induction fu42 with
        | zero =>
          intro j μ hj hm hL hfu
          exact absurd hfu (Nat.not_lt_zero _)
        | succ fu42 ih42 =>
          intro j μ hj hm hL hfu H locs ls hW hl
          have hμ : WF μ := hm ▸ dF hbw j
          have hμe : eqv μ (daysS j ρ) := hm ▸ daysS_e hbe hbw j
          have enW : nW μ = nW ρ := by rw [hμe.nW]; exact (days_ok hwf j).2.2
          have enT : nT μ = nT ρ := by rw [hμe.nT]; exact (days_ok hwf j).2.1
          have hdw := (days_ok hwf j).2.2
          have hdt := (days_ok hwf j).2.1
          refine lv_iload_n X.x X.b d_X_spies_42 rfl (lv_at hl 0 rfl) ?_
          refine lv_sipush (v := nI 200) X.x X.b d_X_spies_43 (by decide) ?_
          refine lv_icmp_gt (tgt := 76) X.x X.b d_X_spies_46 (by decide) (fun c46 => ?_) (fun c46 => ?_)
          · have c46 : 200 < j := (nI_ltI (by omega) (by omega)).mp c46
            refine lv_aload_n X.x X.b d_X_spies_76 rfl (lv_at hl 1 rfl) ?_
            refine lv_ldc (v := (-1000004)) X.x X.b X.ow (X.ts _ mw_390) d_X_spies_77 ?_
            refine q_cvi X (c_X_told_3 l E (qr S 2 μ) φ (by rw [qr_ne (by omega), hφ])) hW (q_recv X hW ds_X rfl) ok_X_told mw_213 ⟨by decide, by decide⟩ (As := [.int (-1000004)]) rfl rfl (Nat.le_of_ble_eq_true rfl) (lv := [(3, .int (nI j)), (0, .ref (eA E 0)), (1, .int (nI w)), (2, .int (nI t))]) hl ⟨Nat.le_refl 0, Nat.le_refl 0⟩ d_X_spies_79 (fun H locs hW => ?_)
            have hW : qWH E (qr (qr S 2 μ) 14 (fnS φ 3)) s H locs := hW
            exact q_pzret X rfl hW ⟨rfl, ⟨_, hμ, qr_sw (by omega)⟩⟩ d_X_spies_82
          · have c46 : ¬ 200 < j := fun z => c46 ((nI_ltI (by omega) (by omega)).mpr z)
            refine lv_aload_n X.x X.b d_X_spies_49 rfl (lv_at hl 1 rfl) ?_
            refine q_getr X hW qj3 rfl _ ds_X 2 (by decide) mw_185 rfl (c1 := cB 2) rfl d_X_spies_50 ?_
            refine lv_iload_n X.x X.b d_X_spies_53 rfl (lv_at hl 2 rfl) ?_
            refine lv_iload_n X.x X.b d_X_spies_54 rfl (lv_at hl 3 rfl) ?_
            refine q_cvi X (c_Cm_canSee l E 2 (by decide) (qr S 2 μ) μ (by rw [qr_at]) hμ w t (by omega) (by omega)) hW (q_recv X hW (ds_cm (k := 2) (by decide)) rfl) ok_Cm_canSee mw_281 ⟨by decide, by decide⟩ (As := [.int (nI w), .int (nI t)]) rfl rfl (Nat.le_of_ble_eq_true rfl) (lv := [(3, .int (nI j)), (0, .ref (eA E 0)), (1, .int (nI w)), (2, .int (nI t))]) hl ⟨Nat.le_refl 0, Nat.le_refl 0⟩ d_X_spies_55 (fun H locs hW => ?_)
            refine lv_if_eq (tgt := 63) X.x X.b d_X_spies_58 (by decide) (fun c58 => ?_) (fun c58 => ?_)
            · have c58 := b2i_e c58
              refine lv_aload_n X.x X.b d_X_spies_63 rfl (lv_at hl 1 rfl) ?_
              refine q_getr X hW qj3 rfl _ ds_X 2 (by decide) mw_185 rfl (c1 := cB 2) rfl d_X_spies_64 ?_
              refine q_cvv X (c_Cm_passDay l E 2 (by decide) (qr S 2 μ) μ (by rw [qr_at]) hμ) hW (q_recv X hW (ds_cm (k := 2) (by decide)) rfl) ok_Cm_passDay mw_305 ⟨by decide, by decide⟩ (As := []) rfl rfl (Nat.le_of_ble_eq_true rfl) (lv := [(3, .int (nI j)), (0, .ref (eA E 0)), (1, .int (nI w)), (2, .int (nI t))]) hl ⟨Nat.le_refl 0, Nat.le_refl 0⟩ d_X_spies_67 (fun H locs hW => ?_)
              have hW : qWH E (qr S 2 (dayS μ)) s H locs := (by have h := hW; rw [qr_qr] at h; exact h)
              refine lv_iinc (v := nI (j + 1)) (lv' := [(3, .int (nI (j + 1))), (0, .ref (eA E 0)), (1, .int (nI w)), (2, .int (nI t))]) X.x X.b d_X_spies_70 hl (k := 0) rfl (by rw [show Int32.ofInt 1 = nI 1 from by decide, nI_add]) (by decide) rfl (fun ls hl => ?_)
              refine lv_goto (tgt := 42) X.x X.b d_X_spies_73 (by decide) ?_
              exact ih42 (j + 1) (dayS μ) (by omega) (by rw [hm]; rfl) (by rw [← hL, show 201 - j = (201 - (j + 1)) + 1 by omega, lst, if_neg (fun z => c58 ((see_e hμe (by omega) (by omega)).mpr z))]) (by omega) _ _ _ hW (lv_sub hl [0, 1, 2, 3] rfl)
            · have c58 := b2i_n c58
              refine lv_iload_n X.x X.b d_X_spies_61 rfl (lv_at hl 0 rfl) ?_
              exact absurd (show (lst (fun d => see (daysS d ρ) w t) 201 0) < 201 by rw [← hL, show 201 - j = (200 - j) + 1 by omega, lst, if_pos ((see_e hμe (by omega) (by omega)).mp c58)]; omega) hF
      exact loop42 (201 - 0 + 1) 0 (becS τ ρ) (by omega) rfl rfl (Nat.lt_succ_self _) _ _ _ hW (lv_sub hl [0, 1, 2, 3] rfl)
    · have c19 := b2i_e c19
      have c19 := mt (isT_i hwf (by omega)).mpr c19
      omega
set_option maxHeartbeats 1000000 in
set_option maxRecDepth 20000 in
theorem c_X_spies_b (l : Launch) (E : QE) (S : QM) (ρ φ : Nat → Int32) (hρ : S 0 = ρ) (hφ : S 14 = φ) (hwf : WF ρ) (x y : Int32) (h : ¬ (isW ρ x ∧ isT ρ y)) : qCI E l y_X_spies prog_1_method_17_code 4 .int 3 [.ref (eA E 0), .int x, .int y] S (-1000001) (qr S 14 (fnS φ 0)) := by
  refine qCI_of (by decide) (Nat.le_of_ble_eq_true rfl) (fun p e s m below meth c ls X hW hl => ?_)
  have hl : lv_has ls 4 [(0, .ref (eA E 0)), (1, .int x), (2, .int y)] := hl
  have htl := hwf.tl
  have hwl := hwf.wl
  have hdl := hwf.dl
  refine lv_aload_n X.x X.b d_X_spies_0 rfl (lv_at hl 0 rfl) ?_
  refine q_getr X hW qj3 rfl _ ds_X 0 (by decide) mw_183 rfl (c1 := cB 0) rfl d_X_spies_1 ?_
  refine lv_iload_n X.x X.b d_X_spies_4 rfl (lv_at hl 1 rfl) ?_
  refine q_cvi X (c_Cm_hasWalker l E 0 (by decide) S ρ (by rw [hρ]) hwf x) hW (q_recv X hW (ds_cm (k := 0) (by decide)) rfl) ok_Cm_hasWalker mw_265 ⟨by decide, by decide⟩ (As := [.int x]) rfl rfl (Nat.le_of_ble_eq_true rfl) (lv := [(0, .ref (eA E 0)), (1, .int x), (2, .int y)]) hl ⟨Nat.le_refl 0, Nat.le_refl 0⟩ d_X_spies_5 (fun H locs hW => ?_)
  refine lv_if_eq (tgt := 22) X.x X.b d_X_spies_8 (by decide) (fun c8 => ?_) (fun c8 => ?_)
  · have c8 := b2i_e c8
    refine lv_aload_n X.x X.b d_X_spies_22 rfl (lv_at hl 0 rfl) ?_
    refine lv_ldc (v := (-1000001)) X.x X.b X.ow (X.ts _ mw_212) d_X_spies_23 ?_
    refine q_cvi X (c_X_told_0 l E S φ (by rw [hφ])) hW (q_recv X hW ds_X rfl) ok_X_told mw_213 ⟨by decide, by decide⟩ (As := [.int (-1000001)]) rfl rfl (Nat.le_of_ble_eq_true rfl) (lv := [(0, .ref (eA E 0)), (1, .int x), (2, .int y)]) hl ⟨Nat.le_refl 0, Nat.le_refl 0⟩ d_X_spies_25 (fun H locs hW => ?_)
    have hW : qWH E (qr S 14 (fnS φ 0)) s H locs := hW
    exact q_zret X rfl hW ⟨rfl, rfl⟩ d_X_spies_28
  · have c8 := b2i_n c8
    refine lv_aload_n X.x X.b d_X_spies_11 rfl (lv_at hl 0 rfl) ?_
    refine q_getr X hW qj3 rfl _ ds_X 0 (by decide) mw_183 rfl (c1 := cB 0) rfl d_X_spies_12 ?_
    refine lv_iload_n X.x X.b d_X_spies_15 rfl (lv_at hl 2 rfl) ?_
    refine q_cvi X (c_Cm_hasThing l E 0 (by decide) S ρ (by rw [hρ]) hwf y) hW (q_recv X hW (ds_cm (k := 0) (by decide)) rfl) ok_Cm_hasThing mw_244 ⟨by decide, by decide⟩ (As := [.int y]) rfl rfl (Nat.le_of_ble_eq_true rfl) (lv := [(0, .ref (eA E 0)), (1, .int x), (2, .int y)]) hl ⟨Nat.le_refl 0, Nat.le_refl 0⟩ d_X_spies_16 (fun H locs hW => ?_)
    refine lv_if_ne (tgt := 29) X.x X.b d_X_spies_19 (by decide) (fun c19 => ?_) (fun c19 => ?_)
    · have c19 := b2i_n c19
      exact absurd ⟨c8, c19⟩ h
    · have c19 := b2i_e c19
      refine lv_aload_n X.x X.b d_X_spies_22 rfl (lv_at hl 0 rfl) ?_
      refine lv_ldc (v := (-1000001)) X.x X.b X.ow (X.ts _ mw_212) d_X_spies_23 ?_
      refine q_cvi X (c_X_told_0 l E S φ (by rw [hφ])) hW (q_recv X hW ds_X rfl) ok_X_told mw_213 ⟨by decide, by decide⟩ (As := [.int (-1000001)]) rfl rfl (Nat.le_of_ble_eq_true rfl) (lv := [(0, .ref (eA E 0)), (1, .int x), (2, .int y)]) hl ⟨Nat.le_refl 0, Nat.le_refl 0⟩ d_X_spies_25 (fun H locs hW => ?_)
      have hW : qWH E (qr S 14 (fnS φ 0)) s H locs := hW
      exact q_zret X rfl hW ⟨rfl, rfl⟩ d_X_spies_28
set_option maxHeartbeats 1000000 in
set_option maxRecDepth 20000 in
theorem c_X_meet_g (l : Launch) (E : QE) (S : QM) (ρ φ τ : Nat → Int32) (hρ : S 0 = ρ) (hφ : S 14 = φ) (hτ : S 2 = τ) (hwf : WF ρ) (w t : Nat) (hw : w < nW ρ) (ht : t < nW ρ) (hne : ¬ w = t) (hF : (lst (fun d => (daysS d ρ) (44 + 6 * w) = (daysS d ρ) (44 + 6 * t)) 201 0) < 201) : qCPi E l y_X_meet prog_1_method_18_code 4 .int 6 [.ref (eA E 0), .int (nI w), .int (nI t)] S (nI (lst (fun d => (daysS d ρ) (44 + 6 * w) = (daysS d ρ) (44 + 6 * t)) 201 0)) (any S 2 WF) := by
  refine qCPi_of (by decide) (Nat.le_of_ble_eq_true rfl) (fun p e s m below meth c ls X hW hl => ?_)
  have hl : lv_has ls 4 [(0, .ref (eA E 0)), (1, .int (nI w)), (2, .int (nI t))] := hl
  have htl := hwf.tl
  have hwl := hwf.wl
  have hdl := hwf.dl
  have hbw : WF (becS τ ρ) := becS_wf hwf
  have hbe : eqv (becS τ ρ) ρ := becS_e hwf
  refine lv_aload_n X.x X.b d_X_meet_0 rfl (lv_at hl 0 rfl) ?_
  refine q_getr X hW qj3 rfl _ ds_X 0 (by decide) mw_183 rfl (c1 := cB 0) rfl d_X_meet_1 ?_
  refine lv_iload_n X.x X.b d_X_meet_4 rfl (lv_at hl 1 rfl) ?_
  refine q_cvi X (c_Cm_hasWalker l E 0 (by decide) S ρ (by rw [hρ]) hwf (nI w)) hW (q_recv X hW (ds_cm (k := 0) (by decide)) rfl) ok_Cm_hasWalker mw_265 ⟨by decide, by decide⟩ (As := [.int (nI w)]) rfl rfl (Nat.le_of_ble_eq_true rfl) (lv := [(0, .ref (eA E 0)), (1, .int (nI w)), (2, .int (nI t))]) hl ⟨Nat.le_refl 0, Nat.le_refl 0⟩ d_X_meet_5 (fun H locs hW => ?_)
  refine lv_if_eq (tgt := 27) X.x X.b d_X_meet_8 (by decide) (fun c8 => ?_) (fun c8 => ?_)
  · have c8 := b2i_e c8
    have c8 := mt (isW_i hwf (by omega)).mpr c8
    omega
  · have c8 := b2i_n c8
    have c8 := (isW_i hwf (by omega)).mp c8
    refine lv_aload_n X.x X.b d_X_meet_11 rfl (lv_at hl 0 rfl) ?_
    refine q_getr X hW qj3 rfl _ ds_X 0 (by decide) mw_183 rfl (c1 := cB 0) rfl d_X_meet_12 ?_
    refine lv_iload_n X.x X.b d_X_meet_15 rfl (lv_at hl 2 rfl) ?_
    refine q_cvi X (c_Cm_hasWalker l E 0 (by decide) S ρ (by rw [hρ]) hwf (nI t)) hW (q_recv X hW (ds_cm (k := 0) (by decide)) rfl) ok_Cm_hasWalker mw_265 ⟨by decide, by decide⟩ (As := [.int (nI t)]) rfl rfl (Nat.le_of_ble_eq_true rfl) (lv := [(0, .ref (eA E 0)), (1, .int (nI w)), (2, .int (nI t))]) hl ⟨Nat.le_refl 0, Nat.le_refl 0⟩ d_X_meet_16 (fun H locs hW => ?_)
    refine lv_if_eq (tgt := 27) X.x X.b d_X_meet_19 (by decide) (fun c19 => ?_) (fun c19 => ?_)
    · have c19 := b2i_e c19
      have c19 := mt (isW_i hwf (by omega)).mpr c19
      omega
    · have c19 := b2i_n c19
      have c19 := (isW_i hwf (by omega)).mp c19
      refine lv_iload_n X.x X.b d_X_meet_22 rfl (lv_at hl 1 rfl) ?_
      refine lv_iload_n X.x X.b d_X_meet_23 rfl (lv_at hl 2 rfl) ?_
      refine lv_icmp_ne (tgt := 34) X.x X.b d_X_meet_24 (by decide) (fun c24 => ?_) (fun c24 => ?_)
      · have c24 : ¬ w = t := fun z => c24 ((nI_eq (by omega) (by omega)).mpr z)
        refine lv_aload_n X.x X.b d_X_meet_34 rfl (lv_at hl 0 rfl) ?_
        refine q_getr X hW qj3 rfl _ ds_X 2 (by decide) mw_185 rfl (c1 := cB 2) rfl d_X_meet_35 ?_
        refine lv_aload_n X.x X.b d_X_meet_38 rfl (lv_at hl 0 rfl) ?_
        refine q_getr X hW qj3 rfl _ ds_X 0 (by decide) mw_183 rfl (c1 := cB 0) rfl d_X_meet_39 ?_
        refine q_cvv X (c_Cm_become l E 2 0 (by decide) (by decide) (by decide) S τ ρ (by rw [hτ]) (by rw [hρ]) hwf) hW (q_recv X hW (ds_cm (k := 2) (by decide)) rfl) ok_Cm_become mw_371 ⟨by decide, by decide⟩ (As := [.ref (eA E (cB 0))]) rfl rfl (Nat.le_of_ble_eq_true rfl) (lv := [(0, .ref (eA E 0)), (1, .int (nI w)), (2, .int (nI t))]) hl ⟨Nat.le_refl 0, Nat.le_refl 0⟩ d_X_meet_42 (fun H locs hW => ?_)
        have hW : qWH E (qr S 2 (becS τ ρ)) s H locs := hW
        refine lv_iconst (v := nI 0) X.x X.b d_X_meet_45 (by decide) ?_
        refine lv_istore_n (lv' := [(3, .int (nI 0)), (0, .ref (eA E 0)), (1, .int (nI w)), (2, .int (nI t))]) X.x X.b d_X_meet_46 rfl hl (by decide) rfl (fun ls hl => ?_)
        have loop47 : ∀ (fu47 : Nat) (j : Nat) (μ : Nat → Int32), j ≤ 201 → μ = daysS j (becS τ ρ) → lst (fun d => (daysS d ρ) (44 + 6 * w) = (daysS d ρ) (44 + 6 * t)) (201 - j) j = (lst (fun d => (daysS d ρ) (44 + 6 * w) = (daysS d ρ) (44 + 6 * t)) 201 0) → 201 - j < fu47 → ∀ (H : Heap) (locs : List Loc) (ls : Array Slot), qWH E (qr S 2 μ) s H locs → lv_has ls 4 [(3, .int (nI j)), (0, .ref (eA E 0)), (1, .int (nI w)), (2, .int (nI t))] → W p l e (qRm 6) s m ([.ref (eA E 0), .int (nI w), .int (nI t)] : List Value).toArray below meth c H locs 0 0 (MQ below (qQpi E (nI (lst (fun d => (daysS d ρ) (44 + 6 * w) = (daysS d ρ) (44 + 6 * t)) 201 0)) (any S 2 WF) s.heap.size) ([.ref (eA E 0), .int (nI w), .int (nI t)] : List Value).toArray s 0 0 (qAA E s.heap.size)) (F0 m 47 ls []) := by
          intro fu47
          induction fu47 with
          | zero =>
            intro j μ hj hm hL hfu
            exact absurd hfu (Nat.not_lt_zero _)
          | succ fu47 ih47 =>
            intro j μ hj hm hL hfu H locs ls hW hl
            have hμ : WF μ := hm ▸ dF hbw j
            have hμe : eqv μ (daysS j ρ) := hm ▸ daysS_e hbe hbw j
            have enW : nW μ = nW ρ := by rw [hμe.nW]; exact (days_ok hwf j).2.2
            have enT : nT μ = nT ρ := by rw [hμe.nT]; exact (days_ok hwf j).2.1
            have hdw := (days_ok hwf j).2.2
            have hdt := (days_ok hwf j).2.1
            refine lv_iload_n X.x X.b d_X_meet_47 rfl (lv_at hl 0 rfl) ?_
            refine lv_sipush (v := nI 200) X.x X.b d_X_meet_48 (by decide) ?_
            refine lv_icmp_gt (tgt := 94) X.x X.b d_X_meet_51 (by decide) (fun c51 => ?_) (fun c51 => ?_)
            · have c51 : 200 < j := (nI_ltI (by omega) (by omega)).mp c51
              exfalso
              rw [show 201 - j = 0 by omega, lst] at hL
              omega
            · have c51 : ¬ 200 < j := fun z => c51 ((nI_ltI (by omega) (by omega)).mpr z)
              refine lv_aload_n X.x X.b d_X_meet_54 rfl (lv_at hl 1 rfl) ?_
              refine q_getr X hW qj3 rfl _ ds_X 2 (by decide) mw_185 rfl (c1 := cB 2) rfl d_X_meet_55 ?_
              refine q_getr X hW qj0 rfl _ (ds_cm (k := 2) (by decide)) 2 (by decide) mw_106 rfl (c1 := cB 2 + 3) rfl d_X_meet_58 ?_
              refine lv_iload_n X.x X.b d_X_meet_61 rfl (lv_at hl 2 rfl) ?_
              refine g_wk (show 2 < 3 by decide) X hW (show w < 6 by omega) d_X_meet_62 ?_
              refine lv_iconst (v := nI 0) X.x X.b d_X_meet_63 (by decide) ?_
              refine g_ald X hW (ds_w (w := w) (k := 2) (by decide) (by omega)) (q_in (by omega) (by decide)) (p0 := 44 + 6 * w) (q_tn (by omega) (by omega)) (v := μ (44 + 6 * w)) (by rw [qr_at]) d_X_meet_64 ?_
              refine lv_aload_n X.x X.b d_X_meet_65 rfl (lv_at hl 1 rfl) ?_
              refine q_getr X hW qj3 rfl _ ds_X 2 (by decide) mw_185 rfl (c1 := cB 2) rfl d_X_meet_66 ?_
              refine q_getr X hW qj0 rfl _ (ds_cm (k := 2) (by decide)) 2 (by decide) mw_106 rfl (c1 := cB 2 + 3) rfl d_X_meet_69 ?_
              refine lv_iload_n X.x X.b d_X_meet_72 rfl (lv_at hl 3 rfl) ?_
              refine g_wk (show 2 < 3 by decide) X hW (show t < 6 by omega) d_X_meet_73 ?_
              refine lv_iconst (v := nI 0) X.x X.b d_X_meet_74 (by decide) ?_
              refine g_ald X hW (ds_w (w := t) (k := 2) (by decide) (by omega)) (q_in (by omega) (by decide)) (p0 := 44 + 6 * t) (q_tn (by omega) (by omega)) (v := μ (44 + 6 * t)) (by rw [qr_at]) d_X_meet_75 ?_
              refine lv_icmp_ne (tgt := 81) X.x X.b d_X_meet_76 (by decide) (fun c76 => ?_) (fun c76 => ?_)
              · refine lv_aload_n X.x X.b d_X_meet_81 rfl (lv_at hl 1 rfl) ?_
                refine q_getr X hW qj3 rfl _ ds_X 2 (by decide) mw_185 rfl (c1 := cB 2) rfl d_X_meet_82 ?_
                refine q_cvv X (c_Cm_passDay l E 2 (by decide) (qr S 2 μ) μ (by rw [qr_at]) hμ) hW (q_recv X hW (ds_cm (k := 2) (by decide)) rfl) ok_Cm_passDay mw_305 ⟨by decide, by decide⟩ (As := []) rfl rfl (Nat.le_of_ble_eq_true rfl) (lv := [(3, .int (nI j)), (0, .ref (eA E 0)), (1, .int (nI w)), (2, .int (nI t))]) hl ⟨Nat.le_refl 0, Nat.le_refl 0⟩ d_X_meet_85 (fun H locs hW => ?_)
                have hW : qWH E (qr S 2 (dayS μ)) s H locs := (by have h := hW; rw [qr_qr] at h; exact h)
                refine lv_iinc (v := nI (j + 1)) (lv' := [(3, .int (nI (j + 1))), (0, .ref (eA E 0)), (1, .int (nI w)), (2, .int (nI t))]) X.x X.b d_X_meet_88 hl (k := 0) rfl (by rw [show Int32.ofInt 1 = nI 1 from by decide, nI_add]) (by decide) rfl (fun ls hl => ?_)
                refine lv_goto (tgt := 47) X.x X.b d_X_meet_91 (by decide) ?_
                exact ih47 (j + 1) (dayS μ) (by omega) (by rw [hm]; rfl) (by rw [← hL, show 201 - j = (201 - (j + 1)) + 1 by omega, lst, if_neg (by have a1 := hμe.wp (show w < nW μ by omega) 0 (by omega); have a2 := hμe.wp (show t < nW μ by omega) 0 (by omega); rw [Nat.add_zero] at a1 a2; rw [← a1, ← a2]; exact c76)]) (by omega) _ _ _ hW (lv_sub hl [0, 1, 2, 3] rfl)
              · refine lv_iload_n X.x X.b d_X_meet_79 rfl (lv_at hl 0 rfl) ?_
                exact q_pzret X rfl hW ⟨by rw [← hL, show 201 - j = (200 - j) + 1 by omega, lst, if_pos (by have a1 := hμe.wp (show w < nW μ by omega) 0 (by omega); have a2 := hμe.wp (show t < nW μ by omega) 0 (by omega); rw [Nat.add_zero] at a1 a2; rw [← a1, ← a2]; exact c76)], ⟨_, hμ, rfl⟩⟩ d_X_meet_80
        exact loop47 (201 - 0 + 1) 0 (becS τ ρ) (by omega) rfl rfl (Nat.lt_succ_self _) _ _ _ hW (lv_sub hl [0, 1, 2, 3] rfl)
      · have c24 : w = t := (nI_eq (by omega) (by omega)).mp c24
        omega
set_option maxHeartbeats 1000000 in
set_option maxRecDepth 20000 in
theorem c_X_meet_n (l : Launch) (E : QE) (S : QM) (ρ φ τ : Nat → Int32) (hρ : S 0 = ρ) (hφ : S 14 = φ) (hτ : S 2 = τ) (hwf : WF ρ) (w t : Nat) (hw : w < nW ρ) (ht : t < nW ρ) (hne : ¬ w = t) (hF : ¬ (lst (fun d => (daysS d ρ) (44 + 6 * w) = (daysS d ρ) (44 + 6 * t)) 201 0) < 201) : qCPi E l y_X_meet prog_1_method_18_code 4 .int 6 [.ref (eA E 0), .int (nI w), .int (nI t)] S (-1000004) (any (qr S 14 (fnS φ 3)) 2 WF) := by
  refine qCPi_of (by decide) (Nat.le_of_ble_eq_true rfl) (fun p e s m below meth c ls X hW hl => ?_)
  have hl : lv_has ls 4 [(0, .ref (eA E 0)), (1, .int (nI w)), (2, .int (nI t))] := hl
  have htl := hwf.tl
  have hwl := hwf.wl
  have hdl := hwf.dl
  have hbw : WF (becS τ ρ) := becS_wf hwf
  have hbe : eqv (becS τ ρ) ρ := becS_e hwf
  refine lv_aload_n X.x X.b d_X_meet_0 rfl (lv_at hl 0 rfl) ?_
  refine q_getr X hW qj3 rfl _ ds_X 0 (by decide) mw_183 rfl (c1 := cB 0) rfl d_X_meet_1 ?_
  refine lv_iload_n X.x X.b d_X_meet_4 rfl (lv_at hl 1 rfl) ?_
  refine q_cvi X (c_Cm_hasWalker l E 0 (by decide) S ρ (by rw [hρ]) hwf (nI w)) hW (q_recv X hW (ds_cm (k := 0) (by decide)) rfl) ok_Cm_hasWalker mw_265 ⟨by decide, by decide⟩ (As := [.int (nI w)]) rfl rfl (Nat.le_of_ble_eq_true rfl) (lv := [(0, .ref (eA E 0)), (1, .int (nI w)), (2, .int (nI t))]) hl ⟨Nat.le_refl 0, Nat.le_refl 0⟩ d_X_meet_5 (fun H locs hW => ?_)
  refine lv_if_eq (tgt := 27) X.x X.b d_X_meet_8 (by decide) (fun c8 => ?_) (fun c8 => ?_)
  · have c8 := b2i_e c8
    have c8 := mt (isW_i hwf (by omega)).mpr c8
    omega
  · have c8 := b2i_n c8
    have c8 := (isW_i hwf (by omega)).mp c8
    refine lv_aload_n X.x X.b d_X_meet_11 rfl (lv_at hl 0 rfl) ?_
    refine q_getr X hW qj3 rfl _ ds_X 0 (by decide) mw_183 rfl (c1 := cB 0) rfl d_X_meet_12 ?_
    refine lv_iload_n X.x X.b d_X_meet_15 rfl (lv_at hl 2 rfl) ?_
    refine q_cvi X (c_Cm_hasWalker l E 0 (by decide) S ρ (by rw [hρ]) hwf (nI t)) hW (q_recv X hW (ds_cm (k := 0) (by decide)) rfl) ok_Cm_hasWalker mw_265 ⟨by decide, by decide⟩ (As := [.int (nI t)]) rfl rfl (Nat.le_of_ble_eq_true rfl) (lv := [(0, .ref (eA E 0)), (1, .int (nI w)), (2, .int (nI t))]) hl ⟨Nat.le_refl 0, Nat.le_refl 0⟩ d_X_meet_16 (fun H locs hW => ?_)
    refine lv_if_eq (tgt := 27) X.x X.b d_X_meet_19 (by decide) (fun c19 => ?_) (fun c19 => ?_)
    · have c19 := b2i_e c19
      have c19 := mt (isW_i hwf (by omega)).mpr c19
      omega
    · have c19 := b2i_n c19
      have c19 := (isW_i hwf (by omega)).mp c19
      refine lv_iload_n X.x X.b d_X_meet_22 rfl (lv_at hl 1 rfl) ?_
      refine lv_iload_n X.x X.b d_X_meet_23 rfl (lv_at hl 2 rfl) ?_
      refine lv_icmp_ne (tgt := 34) X.x X.b d_X_meet_24 (by decide) (fun c24 => ?_) (fun c24 => ?_)
      · have c24 : ¬ w = t := fun z => c24 ((nI_eq (by omega) (by omega)).mpr z)
        refine lv_aload_n X.x X.b d_X_meet_34 rfl (lv_at hl 0 rfl) ?_
        refine q_getr X hW qj3 rfl _ ds_X 2 (by decide) mw_185 rfl (c1 := cB 2) rfl d_X_meet_35 ?_
        refine lv_aload_n X.x X.b d_X_meet_38 rfl (lv_at hl 0 rfl) ?_
        refine q_getr X hW qj3 rfl _ ds_X 0 (by decide) mw_183 rfl (c1 := cB 0) rfl d_X_meet_39 ?_
        refine q_cvv X (c_Cm_become l E 2 0 (by decide) (by decide) (by decide) S τ ρ (by rw [hτ]) (by rw [hρ]) hwf) hW (q_recv X hW (ds_cm (k := 2) (by decide)) rfl) ok_Cm_become mw_371 ⟨by decide, by decide⟩ (As := [.ref (eA E (cB 0))]) rfl rfl (Nat.le_of_ble_eq_true rfl) (lv := [(0, .ref (eA E 0)), (1, .int (nI w)), (2, .int (nI t))]) hl ⟨Nat.le_refl 0, Nat.le_refl 0⟩ d_X_meet_42 (fun H locs hW => ?_)
        have hW : qWH E (qr S 2 (becS τ ρ)) s H locs := hW
        refine lv_iconst (v := nI 0) X.x X.b d_X_meet_45 (by decide) ?_
        refine lv_istore_n (lv' := [(3, .int (nI 0)), (0, .ref (eA E 0)), (1, .int (nI w)), (2, .int (nI t))]) X.x X.b d_X_meet_46 rfl hl (by decide) rfl (fun ls hl => ?_)
        have loop47 : ∀ (fu47 : Nat) (j : Nat) (μ : Nat → Int32), j ≤ 201 → μ = daysS j (becS τ ρ) → lst (fun d => (daysS d ρ) (44 + 6 * w) = (daysS d ρ) (44 + 6 * t)) (201 - j) j = (lst (fun d => (daysS d ρ) (44 + 6 * w) = (daysS d ρ) (44 + 6 * t)) 201 0) → 201 - j < fu47 → ∀ (H : Heap) (locs : List Loc) (ls : Array Slot), qWH E (qr S 2 μ) s H locs → lv_has ls 4 [(3, .int (nI j)), (0, .ref (eA E 0)), (1, .int (nI w)), (2, .int (nI t))] → W p l e (qRm 6) s m ([.ref (eA E 0), .int (nI w), .int (nI t)] : List Value).toArray below meth c H locs 0 0 (MQ below (qQpi E (-1000004) (any (qr S 14 (fnS φ 3)) 2 WF) s.heap.size) ([.ref (eA E 0), .int (nI w), .int (nI t)] : List Value).toArray s 0 0 (qAA E s.heap.size)) (F0 m 47 ls []) := by
          intro fu47
          induction fu47 with
          | zero =>
            intro j μ hj hm hL hfu
            exact absurd hfu (Nat.not_lt_zero _)
          | succ fu47 ih47 =>
            intro j μ hj hm hL hfu H locs ls hW hl
            have hμ : WF μ := hm ▸ dF hbw j
            have hμe : eqv μ (daysS j ρ) := hm ▸ daysS_e hbe hbw j
            have enW : nW μ = nW ρ := by rw [hμe.nW]; exact (days_ok hwf j).2.2
            have enT : nT μ = nT ρ := by rw [hμe.nT]; exact (days_ok hwf j).2.1
            have hdw := (days_ok hwf j).2.2
            have hdt := (days_ok hwf j).2.1
            refine lv_iload_n X.x X.b d_X_meet_47 rfl (lv_at hl 0 rfl) ?_
            refine lv_sipush (v := nI 200) X.x X.b d_X_meet_48 (by decide) ?_
            refine lv_icmp_gt (tgt := 94) X.x X.b d_X_meet_51 (by decide) (fun c51 => ?_) (fun c51 => ?_)
            · have c51 : 200 < j := (nI_ltI (by omega) (by omega)).mp c51
              refine lv_aload_n X.x X.b d_X_meet_94 rfl (lv_at hl 1 rfl) ?_
              refine lv_ldc (v := (-1000004)) X.x X.b X.ow (X.ts _ mw_390) d_X_meet_95 ?_
              refine q_cvi X (c_X_told_3 l E (qr S 2 μ) φ (by rw [qr_ne (by omega), hφ])) hW (q_recv X hW ds_X rfl) ok_X_told mw_213 ⟨by decide, by decide⟩ (As := [.int (-1000004)]) rfl rfl (Nat.le_of_ble_eq_true rfl) (lv := [(3, .int (nI j)), (0, .ref (eA E 0)), (1, .int (nI w)), (2, .int (nI t))]) hl ⟨Nat.le_refl 0, Nat.le_refl 0⟩ d_X_meet_97 (fun H locs hW => ?_)
              have hW : qWH E (qr (qr S 2 μ) 14 (fnS φ 3)) s H locs := hW
              exact q_pzret X rfl hW ⟨rfl, ⟨_, hμ, qr_sw (by omega)⟩⟩ d_X_meet_100
            · have c51 : ¬ 200 < j := fun z => c51 ((nI_ltI (by omega) (by omega)).mpr z)
              refine lv_aload_n X.x X.b d_X_meet_54 rfl (lv_at hl 1 rfl) ?_
              refine q_getr X hW qj3 rfl _ ds_X 2 (by decide) mw_185 rfl (c1 := cB 2) rfl d_X_meet_55 ?_
              refine q_getr X hW qj0 rfl _ (ds_cm (k := 2) (by decide)) 2 (by decide) mw_106 rfl (c1 := cB 2 + 3) rfl d_X_meet_58 ?_
              refine lv_iload_n X.x X.b d_X_meet_61 rfl (lv_at hl 2 rfl) ?_
              refine g_wk (show 2 < 3 by decide) X hW (show w < 6 by omega) d_X_meet_62 ?_
              refine lv_iconst (v := nI 0) X.x X.b d_X_meet_63 (by decide) ?_
              refine g_ald X hW (ds_w (w := w) (k := 2) (by decide) (by omega)) (q_in (by omega) (by decide)) (p0 := 44 + 6 * w) (q_tn (by omega) (by omega)) (v := μ (44 + 6 * w)) (by rw [qr_at]) d_X_meet_64 ?_
              refine lv_aload_n X.x X.b d_X_meet_65 rfl (lv_at hl 1 rfl) ?_
              refine q_getr X hW qj3 rfl _ ds_X 2 (by decide) mw_185 rfl (c1 := cB 2) rfl d_X_meet_66 ?_
              refine q_getr X hW qj0 rfl _ (ds_cm (k := 2) (by decide)) 2 (by decide) mw_106 rfl (c1 := cB 2 + 3) rfl d_X_meet_69 ?_
              refine lv_iload_n X.x X.b d_X_meet_72 rfl (lv_at hl 3 rfl) ?_
              refine g_wk (show 2 < 3 by decide) X hW (show t < 6 by omega) d_X_meet_73 ?_
              refine lv_iconst (v := nI 0) X.x X.b d_X_meet_74 (by decide) ?_
              refine g_ald X hW (ds_w (w := t) (k := 2) (by decide) (by omega)) (q_in (by omega) (by decide)) (p0 := 44 + 6 * t) (q_tn (by omega) (by omega)) (v := μ (44 + 6 * t)) (by rw [qr_at]) d_X_meet_75 ?_
              refine lv_icmp_ne (tgt := 81) X.x X.b d_X_meet_76 (by decide) (fun c76 => ?_) (fun c76 => ?_)
              · refine lv_aload_n X.x X.b d_X_meet_81 rfl (lv_at hl 1 rfl) ?_
                refine q_getr X hW qj3 rfl _ ds_X 2 (by decide) mw_185 rfl (c1 := cB 2) rfl d_X_meet_82 ?_
                refine q_cvv X (c_Cm_passDay l E 2 (by decide) (qr S 2 μ) μ (by rw [qr_at]) hμ) hW (q_recv X hW (ds_cm (k := 2) (by decide)) rfl) ok_Cm_passDay mw_305 ⟨by decide, by decide⟩ (As := []) rfl rfl (Nat.le_of_ble_eq_true rfl) (lv := [(3, .int (nI j)), (0, .ref (eA E 0)), (1, .int (nI w)), (2, .int (nI t))]) hl ⟨Nat.le_refl 0, Nat.le_refl 0⟩ d_X_meet_85 (fun H locs hW => ?_)
                have hW : qWH E (qr S 2 (dayS μ)) s H locs := (by have h := hW; rw [qr_qr] at h; exact h)
                refine lv_iinc (v := nI (j + 1)) (lv' := [(3, .int (nI (j + 1))), (0, .ref (eA E 0)), (1, .int (nI w)), (2, .int (nI t))]) X.x X.b d_X_meet_88 hl (k := 0) rfl (by rw [show Int32.ofInt 1 = nI 1 from by decide, nI_add]) (by decide) rfl (fun ls hl => ?_)
                refine lv_goto (tgt := 47) X.x X.b d_X_meet_91 (by decide) ?_
                exact ih47 (j + 1) (dayS μ) (by omega) (by rw [hm]; rfl) (by rw [← hL, show 201 - j = (201 - (j + 1)) + 1 by omega, lst, if_neg (by have a1 := hμe.wp (show w < nW μ by omega) 0 (by omega); have a2 := hμe.wp (show t < nW μ by omega) 0 (by omega); rw [Nat.add_zero] at a1 a2; rw [← a1, ← a2]; exact c76)]) (by omega) _ _ _ hW (lv_sub hl [0, 1, 2, 3] rfl)
              · refine lv_iload_n X.x X.b d_X_meet_79 rfl (lv_at hl 0 rfl) ?_
                exact absurd (show (lst (fun d => (daysS d ρ) (44 + 6 * w) = (daysS d ρ) (44 + 6 * t)) 201 0) < 201 by rw [← hL, show 201 - j = (200 - j) + 1 by omega, lst, if_pos (by have a1 := hμe.wp (show w < nW μ by omega) 0 (by omega); have a2 := hμe.wp (show t < nW μ by omega) 0 (by omega); rw [Nat.add_zero] at a1 a2; rw [← a1, ← a2]; exact c76)]; omega) hF
        exact loop47 (201 - 0 + 1) 0 (becS τ ρ) (by omega) rfl rfl (Nat.lt_succ_self _) _ _ _ hW (lv_sub hl [0, 1, 2, 3] rfl)
      · have c24 : w = t := (nI_eq (by omega) (by omega)).mp c24
        omega
set_option maxHeartbeats 1000000 in
set_option maxRecDepth 20000 in
theorem c_X_meet_b (l : Launch) (E : QE) (S : QM) (ρ φ : Nat → Int32) (hρ : S 0 = ρ) (hφ : S 14 = φ) (hwf : WF ρ) (x y : Int32) (h : ¬ (isW ρ x ∧ isW ρ y ∧ ¬ x = y)) : qCI E l y_X_meet prog_1_method_18_code 4 .int 3 [.ref (eA E 0), .int x, .int y] S (-1000001) (qr S 14 (fnS φ 0)) := by
  refine qCI_of (by decide) (Nat.le_of_ble_eq_true rfl) (fun p e s m below meth c ls X hW hl => ?_)
  have hl : lv_has ls 4 [(0, .ref (eA E 0)), (1, .int x), (2, .int y)] := hl
  have htl := hwf.tl
  have hwl := hwf.wl
  have hdl := hwf.dl
  refine lv_aload_n X.x X.b d_X_meet_0 rfl (lv_at hl 0 rfl) ?_
  refine q_getr X hW qj3 rfl _ ds_X 0 (by decide) mw_183 rfl (c1 := cB 0) rfl d_X_meet_1 ?_
  refine lv_iload_n X.x X.b d_X_meet_4 rfl (lv_at hl 1 rfl) ?_
  refine q_cvi X (c_Cm_hasWalker l E 0 (by decide) S ρ (by rw [hρ]) hwf x) hW (q_recv X hW (ds_cm (k := 0) (by decide)) rfl) ok_Cm_hasWalker mw_265 ⟨by decide, by decide⟩ (As := [.int x]) rfl rfl (Nat.le_of_ble_eq_true rfl) (lv := [(0, .ref (eA E 0)), (1, .int x), (2, .int y)]) hl ⟨Nat.le_refl 0, Nat.le_refl 0⟩ d_X_meet_5 (fun H locs hW => ?_)
  refine lv_if_eq (tgt := 27) X.x X.b d_X_meet_8 (by decide) (fun c8 => ?_) (fun c8 => ?_)
  · have c8 := b2i_e c8
    refine lv_aload_n X.x X.b d_X_meet_27 rfl (lv_at hl 0 rfl) ?_
    refine lv_ldc (v := (-1000001)) X.x X.b X.ow (X.ts _ mw_212) d_X_meet_28 ?_
    refine q_cvi X (c_X_told_0 l E S φ (by rw [hφ])) hW (q_recv X hW ds_X rfl) ok_X_told mw_213 ⟨by decide, by decide⟩ (As := [.int (-1000001)]) rfl rfl (Nat.le_of_ble_eq_true rfl) (lv := [(0, .ref (eA E 0)), (1, .int x), (2, .int y)]) hl ⟨Nat.le_refl 0, Nat.le_refl 0⟩ d_X_meet_30 (fun H locs hW => ?_)
    have hW : qWH E (qr S 14 (fnS φ 0)) s H locs := hW
    exact q_zret X rfl hW ⟨rfl, rfl⟩ d_X_meet_33
  · have c8 := b2i_n c8
    refine lv_aload_n X.x X.b d_X_meet_11 rfl (lv_at hl 0 rfl) ?_
    refine q_getr X hW qj3 rfl _ ds_X 0 (by decide) mw_183 rfl (c1 := cB 0) rfl d_X_meet_12 ?_
    refine lv_iload_n X.x X.b d_X_meet_15 rfl (lv_at hl 2 rfl) ?_
    refine q_cvi X (c_Cm_hasWalker l E 0 (by decide) S ρ (by rw [hρ]) hwf y) hW (q_recv X hW (ds_cm (k := 0) (by decide)) rfl) ok_Cm_hasWalker mw_265 ⟨by decide, by decide⟩ (As := [.int y]) rfl rfl (Nat.le_of_ble_eq_true rfl) (lv := [(0, .ref (eA E 0)), (1, .int x), (2, .int y)]) hl ⟨Nat.le_refl 0, Nat.le_refl 0⟩ d_X_meet_16 (fun H locs hW => ?_)
    refine lv_if_eq (tgt := 27) X.x X.b d_X_meet_19 (by decide) (fun c19 => ?_) (fun c19 => ?_)
    · have c19 := b2i_e c19
      refine lv_aload_n X.x X.b d_X_meet_27 rfl (lv_at hl 0 rfl) ?_
      refine lv_ldc (v := (-1000001)) X.x X.b X.ow (X.ts _ mw_212) d_X_meet_28 ?_
      refine q_cvi X (c_X_told_0 l E S φ (by rw [hφ])) hW (q_recv X hW ds_X rfl) ok_X_told mw_213 ⟨by decide, by decide⟩ (As := [.int (-1000001)]) rfl rfl (Nat.le_of_ble_eq_true rfl) (lv := [(0, .ref (eA E 0)), (1, .int x), (2, .int y)]) hl ⟨Nat.le_refl 0, Nat.le_refl 0⟩ d_X_meet_30 (fun H locs hW => ?_)
      have hW : qWH E (qr S 14 (fnS φ 0)) s H locs := hW
      exact q_zret X rfl hW ⟨rfl, rfl⟩ d_X_meet_33
    · have c19 := b2i_n c19
      refine lv_iload_n X.x X.b d_X_meet_22 rfl (lv_at hl 1 rfl) ?_
      refine lv_iload_n X.x X.b d_X_meet_23 rfl (lv_at hl 2 rfl) ?_
      refine lv_icmp_ne (tgt := 34) X.x X.b d_X_meet_24 (by decide) (fun c24 => ?_) (fun c24 => ?_)
      · exact absurd ⟨c8, c19, c24⟩ h
      · refine lv_aload_n X.x X.b d_X_meet_27 rfl (lv_at hl 0 rfl) ?_
        refine lv_ldc (v := (-1000001)) X.x X.b X.ow (X.ts _ mw_212) d_X_meet_28 ?_
        refine q_cvi X (c_X_told_0 l E S φ (by rw [hφ])) hW (q_recv X hW ds_X rfl) ok_X_told mw_213 ⟨by decide, by decide⟩ (As := [.int (-1000001)]) rfl rfl (Nat.le_of_ble_eq_true rfl) (lv := [(0, .ref (eA E 0)), (1, .int x), (2, .int y)]) hl ⟨Nat.le_refl 0, Nat.le_refl 0⟩ d_X_meet_30 (fun H locs hW => ?_)
        have hW : qWH E (qr S 14 (fnS φ 0)) s H locs := hW
        exact q_zret X rfl hW ⟨rfl, rfl⟩ d_X_meet_33
set_option maxHeartbeats 1000000 in
set_option maxRecDepth 20000 in
theorem c_X_startFor_g (l : Launch) (E : QE) (S : QM) (ρ φ τ : Nat → Int32) (hρ : S 0 = ρ) (hφ : S 14 = φ) (hτ : S 2 = τ) (hwf : WF ρ) (w n : Nat) (hw : w < nW ρ) (hn : n ≤ 40) (hτw : WF τ) : qCPi E l y_X_startFor prog_1_method_19_code 3 .int 7 [.ref (eA E 0), .int (nI w), .int (nI n)] S (nI (bst (fun i => gotS ρ w 0 (nI i) n) 16).1) (any S 2 WF) := by
  refine qCPi_of (by decide) (Nat.le_of_ble_eq_true rfl) (fun p e s m below meth c ls X hW hl => ?_)
  have hl : lv_has ls 3 [(0, .ref (eA E 0)), (1, .int (nI w)), (2, .int (nI n))] := hl
  have htl := hwf.tl
  have hwl := hwf.wl
  have hdl := hwf.dl
  have hbw : WF (becS τ ρ) := becS_wf hwf
  have hbe : eqv (becS τ ρ) ρ := becS_e hwf
  refine lv_aload_n X.x X.b d_X_startFor_0 rfl (lv_at hl 0 rfl) ?_
  refine q_getr X hW qj3 rfl _ ds_X 0 (by decide) mw_183 rfl (c1 := cB 0) rfl d_X_startFor_1 ?_
  refine lv_iload_n X.x X.b d_X_startFor_4 rfl (lv_at hl 1 rfl) ?_
  refine q_cvi X (c_Cm_hasWalker l E 0 (by decide) S ρ (by rw [hρ]) hwf (nI w)) hW (q_recv X hW (ds_cm (k := 0) (by decide)) rfl) ok_Cm_hasWalker mw_265 ⟨by decide, by decide⟩ (As := [.int (nI w)]) rfl rfl (Nat.le_of_ble_eq_true rfl) (lv := [(0, .ref (eA E 0)), (1, .int (nI w)), (2, .int (nI n))]) hl ⟨Nat.le_refl 0, Nat.le_refl 0⟩ d_X_startFor_5 (fun H locs hW => ?_)
  refine lv_if_eq (tgt := 21) X.x X.b d_X_startFor_8 (by decide) (fun c8 => ?_) (fun c8 => ?_)
  · have c8 := b2i_e c8
    have c8 := mt (isW_i hwf (by omega)).mpr c8
    omega
  · have c8 := b2i_n c8
    have c8 := (isW_i hwf (by omega)).mp c8
    refine lv_iload_n X.x X.b d_X_startFor_11 rfl (lv_at hl 2 rfl) ?_
    refine lv_iconst (v := nI 0) X.x X.b d_X_startFor_12 (by decide) ?_
    refine lv_bipush (v := nI 40) X.x X.b d_X_startFor_13 (by decide) ?_
    refine q_csi X (c_X_within l E S (nI n) (nI 0) (nI 40)) hW ok_X_within mw_209 ⟨by decide, by decide⟩ (As := [.int (nI n), .int (nI 0), .int (nI 40)]) rfl rfl (Nat.le_of_ble_eq_true rfl) (lv := [(0, .ref (eA E 0)), (1, .int (nI w)), (2, .int (nI n))]) hl ⟨Nat.le_refl 0, Nat.le_refl 0⟩ d_X_startFor_15 (fun H locs hW => ?_)
    refine lv_if_ne (tgt := 28) X.x X.b d_X_startFor_18 (by decide) (fun c18 => ?_) (fun c18 => ?_)
    · have c18 := b2i_n c18
      have c18 := (inR_i (by omega) (by decide)).mp c18
      refine lv_aload_n X.x X.b d_X_startFor_28 rfl (lv_at hl 0 rfl) ?_
      refine lv_iload_n X.x X.b d_X_startFor_29 rfl (lv_at hl 1 rfl) ?_
      refine lv_iconst (v := nI 0) X.x X.b d_X_startFor_30 (by decide) ?_
      refine lv_iload_n X.x X.b d_X_startFor_31 rfl (lv_at hl 2 rfl) ?_
      refine q_cvip X (c_X_bestForGot_0 l E S ρ φ τ (by rw [hρ]) (by rw [hφ]) (by rw [hτ]) hwf w n (by omega) (by omega) hτw) hW (q_recv X hW ds_X rfl) ok_X_bestForGot mw_403 ⟨by decide, by decide⟩ (As := [.int (nI w), .int (nI 0), .int (nI n)]) rfl rfl (Nat.le_of_ble_eq_true rfl) (lv := [(0, .ref (eA E 0)), (1, .int (nI w)), (2, .int (nI n))]) hl ⟨Nat.le_refl 0, Nat.le_refl 0⟩ d_X_startFor_32 (fun H locs Sq32 hP32 hW => ?_)
      obtain ⟨τ32, hτ32, rfl⟩ := hP32
      exact q_pzret X rfl hW ⟨rfl, ⟨_, hτ32, rfl⟩⟩ d_X_startFor_35
    · have c18 := b2i_e c18
      have c18 := mt (inR_i (by omega) (by decide)).mpr c18
      omega
set_option maxHeartbeats 1000000 in
set_option maxRecDepth 20000 in
theorem c_X_startFor_b (l : Launch) (E : QE) (S : QM) (ρ φ : Nat → Int32) (hρ : S 0 = ρ) (hφ : S 14 = φ) (hwf : WF ρ) (x y : Int32) (h : ¬ (isW ρ x ∧ inR 0 40 y)) : qCI E l y_X_startFor prog_1_method_19_code 3 .int 3 [.ref (eA E 0), .int x, .int y] S (-1000001) (qr S 14 (fnS φ 0)) := by
  refine qCI_of (by decide) (Nat.le_of_ble_eq_true rfl) (fun p e s m below meth c ls X hW hl => ?_)
  have hl : lv_has ls 3 [(0, .ref (eA E 0)), (1, .int x), (2, .int y)] := hl
  have htl := hwf.tl
  have hwl := hwf.wl
  have hdl := hwf.dl
  refine lv_aload_n X.x X.b d_X_startFor_0 rfl (lv_at hl 0 rfl) ?_
  refine q_getr X hW qj3 rfl _ ds_X 0 (by decide) mw_183 rfl (c1 := cB 0) rfl d_X_startFor_1 ?_
  refine lv_iload_n X.x X.b d_X_startFor_4 rfl (lv_at hl 1 rfl) ?_
  refine q_cvi X (c_Cm_hasWalker l E 0 (by decide) S ρ (by rw [hρ]) hwf x) hW (q_recv X hW (ds_cm (k := 0) (by decide)) rfl) ok_Cm_hasWalker mw_265 ⟨by decide, by decide⟩ (As := [.int x]) rfl rfl (Nat.le_of_ble_eq_true rfl) (lv := [(0, .ref (eA E 0)), (1, .int x), (2, .int y)]) hl ⟨Nat.le_refl 0, Nat.le_refl 0⟩ d_X_startFor_5 (fun H locs hW => ?_)
  refine lv_if_eq (tgt := 21) X.x X.b d_X_startFor_8 (by decide) (fun c8 => ?_) (fun c8 => ?_)
  · have c8 := b2i_e c8
    refine lv_aload_n X.x X.b d_X_startFor_21 rfl (lv_at hl 0 rfl) ?_
    refine lv_ldc (v := (-1000001)) X.x X.b X.ow (X.ts _ mw_212) d_X_startFor_22 ?_
    refine q_cvi X (c_X_told_0 l E S φ (by rw [hφ])) hW (q_recv X hW ds_X rfl) ok_X_told mw_213 ⟨by decide, by decide⟩ (As := [.int (-1000001)]) rfl rfl (Nat.le_of_ble_eq_true rfl) (lv := [(0, .ref (eA E 0)), (1, .int x), (2, .int y)]) hl ⟨Nat.le_refl 0, Nat.le_refl 0⟩ d_X_startFor_24 (fun H locs hW => ?_)
    have hW : qWH E (qr S 14 (fnS φ 0)) s H locs := hW
    exact q_zret X rfl hW ⟨rfl, rfl⟩ d_X_startFor_27
  · have c8 := b2i_n c8
    refine lv_iload_n X.x X.b d_X_startFor_11 rfl (lv_at hl 2 rfl) ?_
    refine lv_iconst (v := nI 0) X.x X.b d_X_startFor_12 (by decide) ?_
    refine lv_bipush (v := nI 40) X.x X.b d_X_startFor_13 (by decide) ?_
    refine q_csi X (c_X_within l E S y (nI 0) (nI 40)) hW ok_X_within mw_209 ⟨by decide, by decide⟩ (As := [.int y, .int (nI 0), .int (nI 40)]) rfl rfl (Nat.le_of_ble_eq_true rfl) (lv := [(0, .ref (eA E 0)), (1, .int x), (2, .int y)]) hl ⟨Nat.le_refl 0, Nat.le_refl 0⟩ d_X_startFor_15 (fun H locs hW => ?_)
    refine lv_if_ne (tgt := 28) X.x X.b d_X_startFor_18 (by decide) (fun c18 => ?_) (fun c18 => ?_)
    · have c18 := b2i_n c18
      exact absurd ⟨c8, c18⟩ h
    · have c18 := b2i_e c18
      refine lv_aload_n X.x X.b d_X_startFor_21 rfl (lv_at hl 0 rfl) ?_
      refine lv_ldc (v := (-1000001)) X.x X.b X.ow (X.ts _ mw_212) d_X_startFor_22 ?_
      refine q_cvi X (c_X_told_0 l E S φ (by rw [hφ])) hW (q_recv X hW ds_X rfl) ok_X_told mw_213 ⟨by decide, by decide⟩ (As := [.int (-1000001)]) rfl rfl (Nat.le_of_ble_eq_true rfl) (lv := [(0, .ref (eA E 0)), (1, .int x), (2, .int y)]) hl ⟨Nat.le_refl 0, Nat.le_refl 0⟩ d_X_startFor_24 (fun H locs hW => ?_)
      have hW : qWH E (qr S 14 (fnS φ 0)) s H locs := hW
      exact q_zret X rfl hW ⟨rfl, rfl⟩ d_X_startFor_27
set_option maxHeartbeats 1000000 in
set_option maxRecDepth 20000 in
theorem c_X_aimFor_g (l : Launch) (E : QE) (S : QM) (ρ φ τ : Nat → Int32) (hρ : S 0 = ρ) (hφ : S 14 = φ) (hτ : S 2 = τ) (hwf : WF ρ) (w n : Nat) (hw : w < nW ρ) (hn : n ≤ 40) (hτw : WF τ) : qCPi E l y_X_aimFor prog_1_method_20_code 3 .int 7 [.ref (eA E 0), .int (nI w), .int (nI n)] S (nI (bst (fun i => gotS ρ w 1 (nI i) n) 8).1) (any S 2 WF) := by
  refine qCPi_of (by decide) (Nat.le_of_ble_eq_true rfl) (fun p e s m below meth c ls X hW hl => ?_)
  have hl : lv_has ls 3 [(0, .ref (eA E 0)), (1, .int (nI w)), (2, .int (nI n))] := hl
  have htl := hwf.tl
  have hwl := hwf.wl
  have hdl := hwf.dl
  have hbw : WF (becS τ ρ) := becS_wf hwf
  have hbe : eqv (becS τ ρ) ρ := becS_e hwf
  refine lv_aload_n X.x X.b d_X_aimFor_0 rfl (lv_at hl 0 rfl) ?_
  refine q_getr X hW qj3 rfl _ ds_X 0 (by decide) mw_183 rfl (c1 := cB 0) rfl d_X_aimFor_1 ?_
  refine lv_iload_n X.x X.b d_X_aimFor_4 rfl (lv_at hl 1 rfl) ?_
  refine q_cvi X (c_Cm_hasWalker l E 0 (by decide) S ρ (by rw [hρ]) hwf (nI w)) hW (q_recv X hW (ds_cm (k := 0) (by decide)) rfl) ok_Cm_hasWalker mw_265 ⟨by decide, by decide⟩ (As := [.int (nI w)]) rfl rfl (Nat.le_of_ble_eq_true rfl) (lv := [(0, .ref (eA E 0)), (1, .int (nI w)), (2, .int (nI n))]) hl ⟨Nat.le_refl 0, Nat.le_refl 0⟩ d_X_aimFor_5 (fun H locs hW => ?_)
  refine lv_if_eq (tgt := 21) X.x X.b d_X_aimFor_8 (by decide) (fun c8 => ?_) (fun c8 => ?_)
  · have c8 := b2i_e c8
    have c8 := mt (isW_i hwf (by omega)).mpr c8
    omega
  · have c8 := b2i_n c8
    have c8 := (isW_i hwf (by omega)).mp c8
    refine lv_iload_n X.x X.b d_X_aimFor_11 rfl (lv_at hl 2 rfl) ?_
    refine lv_iconst (v := nI 0) X.x X.b d_X_aimFor_12 (by decide) ?_
    refine lv_bipush (v := nI 40) X.x X.b d_X_aimFor_13 (by decide) ?_
    refine q_csi X (c_X_within l E S (nI n) (nI 0) (nI 40)) hW ok_X_within mw_209 ⟨by decide, by decide⟩ (As := [.int (nI n), .int (nI 0), .int (nI 40)]) rfl rfl (Nat.le_of_ble_eq_true rfl) (lv := [(0, .ref (eA E 0)), (1, .int (nI w)), (2, .int (nI n))]) hl ⟨Nat.le_refl 0, Nat.le_refl 0⟩ d_X_aimFor_15 (fun H locs hW => ?_)
    refine lv_if_ne (tgt := 28) X.x X.b d_X_aimFor_18 (by decide) (fun c18 => ?_) (fun c18 => ?_)
    · have c18 := b2i_n c18
      have c18 := (inR_i (by omega) (by decide)).mp c18
      refine lv_aload_n X.x X.b d_X_aimFor_28 rfl (lv_at hl 0 rfl) ?_
      refine lv_iload_n X.x X.b d_X_aimFor_29 rfl (lv_at hl 1 rfl) ?_
      refine lv_iconst (v := nI 1) X.x X.b d_X_aimFor_30 (by decide) ?_
      refine lv_iload_n X.x X.b d_X_aimFor_31 rfl (lv_at hl 2 rfl) ?_
      refine q_cvip X (c_X_bestForGot_1 l E S ρ φ τ (by rw [hρ]) (by rw [hφ]) (by rw [hτ]) hwf w n (by omega) (by omega) hτw) hW (q_recv X hW ds_X rfl) ok_X_bestForGot mw_403 ⟨by decide, by decide⟩ (As := [.int (nI w), .int (nI 1), .int (nI n)]) rfl rfl (Nat.le_of_ble_eq_true rfl) (lv := [(0, .ref (eA E 0)), (1, .int (nI w)), (2, .int (nI n))]) hl ⟨Nat.le_refl 0, Nat.le_refl 0⟩ d_X_aimFor_32 (fun H locs Sq32 hP32 hW => ?_)
      obtain ⟨τ32, hτ32, rfl⟩ := hP32
      exact q_pzret X rfl hW ⟨rfl, ⟨_, hτ32, rfl⟩⟩ d_X_aimFor_35
    · have c18 := b2i_e c18
      have c18 := mt (inR_i (by omega) (by decide)).mpr c18
      omega
set_option maxHeartbeats 1000000 in
set_option maxRecDepth 20000 in
theorem c_X_aimFor_b (l : Launch) (E : QE) (S : QM) (ρ φ : Nat → Int32) (hρ : S 0 = ρ) (hφ : S 14 = φ) (hwf : WF ρ) (x y : Int32) (h : ¬ (isW ρ x ∧ inR 0 40 y)) : qCI E l y_X_aimFor prog_1_method_20_code 3 .int 3 [.ref (eA E 0), .int x, .int y] S (-1000001) (qr S 14 (fnS φ 0)) := by
  refine qCI_of (by decide) (Nat.le_of_ble_eq_true rfl) (fun p e s m below meth c ls X hW hl => ?_)
  have hl : lv_has ls 3 [(0, .ref (eA E 0)), (1, .int x), (2, .int y)] := hl
  have htl := hwf.tl
  have hwl := hwf.wl
  have hdl := hwf.dl
  refine lv_aload_n X.x X.b d_X_aimFor_0 rfl (lv_at hl 0 rfl) ?_
  refine q_getr X hW qj3 rfl _ ds_X 0 (by decide) mw_183 rfl (c1 := cB 0) rfl d_X_aimFor_1 ?_
  refine lv_iload_n X.x X.b d_X_aimFor_4 rfl (lv_at hl 1 rfl) ?_
  refine q_cvi X (c_Cm_hasWalker l E 0 (by decide) S ρ (by rw [hρ]) hwf x) hW (q_recv X hW (ds_cm (k := 0) (by decide)) rfl) ok_Cm_hasWalker mw_265 ⟨by decide, by decide⟩ (As := [.int x]) rfl rfl (Nat.le_of_ble_eq_true rfl) (lv := [(0, .ref (eA E 0)), (1, .int x), (2, .int y)]) hl ⟨Nat.le_refl 0, Nat.le_refl 0⟩ d_X_aimFor_5 (fun H locs hW => ?_)
  refine lv_if_eq (tgt := 21) X.x X.b d_X_aimFor_8 (by decide) (fun c8 => ?_) (fun c8 => ?_)
  · have c8 := b2i_e c8
    refine lv_aload_n X.x X.b d_X_aimFor_21 rfl (lv_at hl 0 rfl) ?_
    refine lv_ldc (v := (-1000001)) X.x X.b X.ow (X.ts _ mw_212) d_X_aimFor_22 ?_
    refine q_cvi X (c_X_told_0 l E S φ (by rw [hφ])) hW (q_recv X hW ds_X rfl) ok_X_told mw_213 ⟨by decide, by decide⟩ (As := [.int (-1000001)]) rfl rfl (Nat.le_of_ble_eq_true rfl) (lv := [(0, .ref (eA E 0)), (1, .int x), (2, .int y)]) hl ⟨Nat.le_refl 0, Nat.le_refl 0⟩ d_X_aimFor_24 (fun H locs hW => ?_)
    have hW : qWH E (qr S 14 (fnS φ 0)) s H locs := hW
    exact q_zret X rfl hW ⟨rfl, rfl⟩ d_X_aimFor_27
  · have c8 := b2i_n c8
    refine lv_iload_n X.x X.b d_X_aimFor_11 rfl (lv_at hl 2 rfl) ?_
    refine lv_iconst (v := nI 0) X.x X.b d_X_aimFor_12 (by decide) ?_
    refine lv_bipush (v := nI 40) X.x X.b d_X_aimFor_13 (by decide) ?_
    refine q_csi X (c_X_within l E S y (nI 0) (nI 40)) hW ok_X_within mw_209 ⟨by decide, by decide⟩ (As := [.int y, .int (nI 0), .int (nI 40)]) rfl rfl (Nat.le_of_ble_eq_true rfl) (lv := [(0, .ref (eA E 0)), (1, .int x), (2, .int y)]) hl ⟨Nat.le_refl 0, Nat.le_refl 0⟩ d_X_aimFor_15 (fun H locs hW => ?_)
    refine lv_if_ne (tgt := 28) X.x X.b d_X_aimFor_18 (by decide) (fun c18 => ?_) (fun c18 => ?_)
    · have c18 := b2i_n c18
      exact absurd ⟨c8, c18⟩ h
    · have c18 := b2i_e c18
      refine lv_aload_n X.x X.b d_X_aimFor_21 rfl (lv_at hl 0 rfl) ?_
      refine lv_ldc (v := (-1000001)) X.x X.b X.ow (X.ts _ mw_212) d_X_aimFor_22 ?_
      refine q_cvi X (c_X_told_0 l E S φ (by rw [hφ])) hW (q_recv X hW ds_X rfl) ok_X_told mw_213 ⟨by decide, by decide⟩ (As := [.int (-1000001)]) rfl rfl (Nat.le_of_ble_eq_true rfl) (lv := [(0, .ref (eA E 0)), (1, .int x), (2, .int y)]) hl ⟨Nat.le_refl 0, Nat.le_refl 0⟩ d_X_aimFor_24 (fun H locs hW => ?_)
      have hW : qWH E (qr S 14 (fnS φ 0)) s H locs := hW
      exact q_zret X rfl hW ⟨rfl, rfl⟩ d_X_aimFor_27
