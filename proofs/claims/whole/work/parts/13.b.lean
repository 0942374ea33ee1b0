theorem d_Ji_bitCount_0 : decode prog_8_method_49_code 0 = .ok (.iload_n 0, 1) := by decide +kernel
theorem d_Ji_bitCount_1 : decode prog_8_method_49_code 1 = .ok (.iload_n 0, 1) := by decide +kernel
theorem d_Ji_bitCount_2 : decode prog_8_method_49_code 2 = .ok (.iconst 1, 1) := by decide +kernel
theorem d_Ji_bitCount_3 : decode prog_8_method_49_code 3 = .ok (.iushr, 1) := by decide +kernel
theorem d_Ji_bitCount_4 : decode prog_8_method_49_code 4 = .ok (.ldc_w 265, 3) := by decide +kernel
theorem d_Ji_bitCount_7 : decode prog_8_method_49_code 7 = .ok (.iand, 1) := by decide +kernel
theorem d_Ji_bitCount_8 : decode prog_8_method_49_code 8 = .ok (.isub, 1) := by decide +kernel
theorem d_Ji_bitCount_9 : decode prog_8_method_49_code 9 = .ok (.istore_n 0, 1) := by decide +kernel
theorem d_Ji_bitCount_10 : decode prog_8_method_49_code 10 = .ok (.iload_n 0, 1) := by decide +kernel
theorem d_Ji_bitCount_11 : decode prog_8_method_49_code 11 = .ok (.ldc_w 266, 3) := by decide +kernel
theorem d_Ji_bitCount_14 : decode prog_8_method_49_code 14 = .ok (.iand, 1) := by decide +kernel
theorem d_Ji_bitCount_15 : decode prog_8_method_49_code 15 = .ok (.iload_n 0, 1) := by decide +kernel
theorem d_Ji_bitCount_16 : decode prog_8_method_49_code 16 = .ok (.iconst 2, 1) := by decide +kernel
theorem d_Ji_bitCount_17 : decode prog_8_method_49_code 17 = .ok (.iushr, 1) := by decide +kernel
theorem d_Ji_bitCount_18 : decode prog_8_method_49_code 18 = .ok (.ldc_w 266, 3) := by decide +kernel
theorem d_Ji_bitCount_21 : decode prog_8_method_49_code 21 = .ok (.iand, 1) := by decide +kernel
theorem d_Ji_bitCount_22 : decode prog_8_method_49_code 22 = .ok (.iadd, 1) := by decide +kernel
theorem d_Ji_bitCount_23 : decode prog_8_method_49_code 23 = .ok (.istore_n 0, 1) := by decide +kernel
theorem d_Ji_bitCount_24 : decode prog_8_method_49_code 24 = .ok (.iload_n 0, 1) := by decide +kernel
theorem d_Ji_bitCount_25 : decode prog_8_method_49_code 25 = .ok (.iload_n 0, 1) := by decide +kernel
theorem d_Ji_bitCount_26 : decode prog_8_method_49_code 26 = .ok (.iconst 4, 1) := by decide +kernel
theorem d_Ji_bitCount_27 : decode prog_8_method_49_code 27 = .ok (.iushr, 1) := by decide +kernel
theorem d_Ji_bitCount_28 : decode prog_8_method_49_code 28 = .ok (.iadd, 1) := by decide +kernel
theorem d_Ji_bitCount_29 : decode prog_8_method_49_code 29 = .ok (.ldc_w 267, 3) := by decide +kernel
theorem d_Ji_bitCount_32 : decode prog_8_method_49_code 32 = .ok (.iand, 1) := by decide +kernel
theorem d_Ji_bitCount_33 : decode prog_8_method_49_code 33 = .ok (.istore_n 0, 1) := by decide +kernel
theorem d_Ji_bitCount_34 : decode prog_8_method_49_code 34 = .ok (.iload_n 0, 1) := by decide +kernel
theorem d_Ji_bitCount_35 : decode prog_8_method_49_code 35 = .ok (.iload_n 0, 1) := by decide +kernel
theorem d_Ji_bitCount_36 : decode prog_8_method_49_code 36 = .ok (.bipush 8, 2) := by decide +kernel
theorem d_Ji_bitCount_38 : decode prog_8_method_49_code 38 = .ok (.iushr, 1) := by decide +kernel
theorem d_Ji_bitCount_39 : decode prog_8_method_49_code 39 = .ok (.iadd, 1) := by decide +kernel
theorem d_Ji_bitCount_40 : decode prog_8_method_49_code 40 = .ok (.istore_n 0, 1) := by decide +kernel
theorem d_Ji_bitCount_41 : decode prog_8_method_49_code 41 = .ok (.iload_n 0, 1) := by decide +kernel
theorem d_Ji_bitCount_42 : decode prog_8_method_49_code 42 = .ok (.iload_n 0, 1) := by decide +kernel
theorem d_Ji_bitCount_43 : decode prog_8_method_49_code 43 = .ok (.bipush 16, 2) := by decide +kernel
theorem d_Ji_bitCount_45 : decode prog_8_method_49_code 45 = .ok (.iushr, 1) := by decide +kernel
theorem d_Ji_bitCount_46 : decode prog_8_method_49_code 46 = .ok (.iadd, 1) := by decide +kernel
theorem d_Ji_bitCount_47 : decode prog_8_method_49_code 47 = .ok (.istore_n 0, 1) := by decide +kernel
theorem d_Ji_bitCount_48 : decode prog_8_method_49_code 48 = .ok (.iload_n 0, 1) := by decide +kernel
theorem d_Ji_bitCount_49 : decode prog_8_method_49_code 49 = .ok (.bipush 63, 2) := by decide +kernel
theorem d_Ji_bitCount_51 : decode prog_8_method_49_code 51 = .ok (.iand, 1) := by decide +kernel
theorem d_Ji_bitCount_52 : decode prog_8_method_49_code 52 = .ok (.ireturn, 1) := by decide +kernel
theorem d_X_power_0 : decode prog_1_method_45_code 0 = .ok (.lconst 1, 1) := by decide +kernel
theorem d_X_power_1 : decode prog_1_method_45_code 1 = .ok (.lstore_n 3, 1) := by decide +kernel
theorem d_X_power_2 : decode prog_1_method_45_code 2 = .ok (.iconst 0, 1) := by decide +kernel
theorem d_X_power_3 : decode prog_1_method_45_code 3 = .ok (.istore 5, 2) := by decide +kernel
theorem d_X_power_5 : decode prog_1_method_45_code 5 = .ok (.iload 5, 2) := by decide +kernel
theorem d_X_power_7 : decode prog_1_method_45_code 7 = .ok (.iload_n 2, 1) := by decide +kernel
theorem d_X_power_8 : decode prog_1_method_45_code 8 = .ok (.if_icmp .ge 13, 3) := by decide +kernel
theorem d_X_power_11 : decode prog_1_method_45_code 11 = .ok (.lload_n 3, 1) := by decide +kernel
theorem d_X_power_12 : decode prog_1_method_45_code 12 = .ok (.lload_n 0, 1) := by decide +kernel
theorem d_X_power_13 : decode prog_1_method_45_code 13 = .ok (.lmul, 1) := by decide +kernel
theorem d_X_power_14 : decode prog_1_method_45_code 14 = .ok (.lstore_n 3, 1) := by decide +kernel
theorem d_X_power_15 : decode prog_1_method_45_code 15 = .ok (.iinc 5 1, 3) := by decide +kernel
theorem d_X_power_18 : decode prog_1_method_45_code 18 = .ok (.goto (-13), 3) := by decide +kernel
theorem d_X_power_21 : decode prog_1_method_45_code 21 = .ok (.lload_n 3, 1) := by decide +kernel
theorem d_X_power_22 : decode prog_1_method_45_code 22 = .ok (.lreturn, 1) := by decide +kernel
theorem d_X_kindFor_0 : decode prog_1_method_21_code 0 = .ok (.aload_n 0, 1) := by decide +kernel
theorem d_X_kindFor_1 : decode prog_1_method_21_code 1 = .ok (.getfield 12, 3) := by decide +kernel
theorem d_X_kindFor_4 : decode prog_1_method_21_code 4 = .ok (.iload_n 1, 1) := by decide +kernel
theorem d_X_kindFor_5 : decode prog_1_method_21_code 5 = .ok (.invokevirtual 74, 3) := by decide +kernel
theorem d_X_kindFor_8 : decode prog_1_method_21_code 8 = .ok (.ifCond .eq 13, 3) := by decide +kernel
theorem d_X_kindFor_11 : decode prog_1_method_21_code 11 = .ok (.iload_n 2, 1) := by decide +kernel
theorem d_X_kindFor_12 : decode prog_1_method_21_code 12 = .ok (.iconst 0, 1) := by decide +kernel
theorem d_X_kindFor_13 : decode prog_1_method_21_code 13 = .ok (.bipush 40, 2) := by decide +kernel
theorem d_X_kindFor_15 : decode prog_1_method_21_code 15 = .ok (.invokestatic 44, 3) := by decide +kernel
theorem d_X_kindFor_18 : decode prog_1_method_21_code 18 = .ok (.ifCond .ne 10, 3) := by decide +kernel
theorem d_X_kindFor_28 : decode prog_1_method_21_code 28 = .ok (.iconst 0, 1) := by decide +kernel
theorem d_X_kindFor_29 : decode prog_1_method_21_code 29 = .ok (.istore_n 3, 1) := by decide +kernel
theorem d_X_kindFor_30 : decode prog_1_method_21_code 30 = .ok (.iconst (-1), 1) := by decide +kernel
theorem d_X_kindFor_31 : decode prog_1_method_21_code 31 = .ok (.istore 4, 2) := by decide +kernel
theorem d_X_kindFor_33 : decode prog_1_method_21_code 33 = .ok (.iconst 0, 1) := by decide +kernel
theorem d_X_kindFor_34 : decode prog_1_method_21_code 34 = .ok (.istore 5, 2) := by decide +kernel
theorem d_X_kindFor_36 : decode prog_1_method_21_code 36 = .ok (.iload 5, 2) := by decide +kernel
theorem d_X_kindFor_38 : decode prog_1_method_21_code 38 = .ok (.getstatic 56, 3) := by decide +kernel
theorem d_X_kindFor_41 : decode prog_1_method_21_code 41 = .ok (.iconst 0, 1) := by decide +kernel
theorem d_X_kindFor_42 : decode prog_1_method_21_code 42 = .ok (.iaload, 1) := by decide +kernel
theorem d_X_kindFor_43 : decode prog_1_method_21_code 43 = .ok (.if_icmp .gt 65, 3) := by decide +kernel
theorem d_X_kindFor_46 : decode prog_1_method_21_code 46 = .ok (.aload_n 0, 1) := by decide +kernel
theorem d_X_kindFor_47 : decode prog_1_method_21_code 47 = .ok (.getfield 19, 3) := by decide +kernel
theorem d_X_kindFor_50 : decode prog_1_method_21_code 50 = .ok (.aload_n 0, 1) := by decide +kernel
theorem d_X_kindFor_51 : decode prog_1_method_21_code 51 = .ok (.getfield 12, 3) := by decide +kernel
theorem d_X_kindFor_54 : decode prog_1_method_21_code 54 = .ok (.invokevirtual 140, 3) := by decide +kernel
theorem d_X_kindFor_57 : decode prog_1_method_21_code 57 = .ok (.aload_n 0, 1) := by decide +kernel
theorem d_X_kindFor_58 : decode prog_1_method_21_code 58 = .ok (.getfield 19, 3) := by decide +kernel
theorem d_X_kindFor_61 : decode prog_1_method_21_code 61 = .ok (.getfield 78, 3) := by decide +kernel
theorem d_X_kindFor_64 : decode prog_1_method_21_code 64 = .ok (.iload_n 1, 1) := by decide +kernel
theorem d_X_kindFor_65 : decode prog_1_method_21_code 65 = .ok (.aaload, 1) := by decide +kernel
theorem d_X_kindFor_66 : decode prog_1_method_21_code 66 = .ok (.iconst 0, 1) := by decide +kernel
theorem d_X_kindFor_67 : decode prog_1_method_21_code 67 = .ok (.iload 5, 2) := by decide +kernel
theorem d_X_kindFor_69 : decode prog_1_method_21_code 69 = .ok (.iastore, 1) := by decide +kernel
theorem d_X_kindFor_70 : decode prog_1_method_21_code 70 = .ok (.aload_n 0, 1) := by decide +kernel
theorem d_X_kindFor_71 : decode prog_1_method_21_code 71 = .ok (.iload_n 2, 1) := by decide +kernel
theorem d_X_kindFor_72 : decode prog_1_method_21_code 72 = .ok (.invokevirtual 144, 3) := by decide +kernel
theorem d_X_kindFor_75 : decode prog_1_method_21_code 75 = .ok (.aload_n 0, 1) := by decide +kernel
theorem d_X_kindFor_76 : decode prog_1_method_21_code 76 = .ok (.getfield 19, 3) := by decide +kernel
theorem d_X_kindFor_79 : decode prog_1_method_21_code 79 = .ok (.getfield 78, 3) := by decide +kernel
theorem d_X_kindFor_82 : decode prog_1_method_21_code 82 = .ok (.iload_n 1, 1) := by decide +kernel
theorem d_X_kindFor_83 : decode prog_1_method_21_code 83 = .ok (.aaload, 1) := by decide +kernel
theorem d_X_kindFor_84 : decode prog_1_method_21_code 84 = .ok (.iconst 2, 1) := by decide +kernel
theorem d_X_kindFor_85 : decode prog_1_method_21_code 85 = .ok (.iaload, 1) := by decide +kernel
theorem d_X_kindFor_86 : decode prog_1_method_21_code 86 = .ok (.istore 6, 2) := by decide +kernel
theorem d_X_kindFor_88 : decode prog_1_method_21_code 88 = .ok (.iload 6, 2) := by decide +kernel
theorem d_X_kindFor_90 : decode prog_1_method_21_code 90 = .ok (.iload 4, 2) := by decide +kernel
theorem d_X_kindFor_92 : decode prog_1_method_21_code 92 = .ok (.if_icmp .le 10, 3) := by decide +kernel
theorem d_X_kindFor_95 : decode prog_1_method_21_code 95 = .ok (.iload 5, 2) := by decide +kernel
theorem d_X_kindFor_97 : decode prog_1_method_21_code 97 = .ok (.istore_n 3, 1) := by decide +kernel
theorem d_X_kindFor_98 : decode prog_1_method_21_code 98 = .ok (.iload 6, 2) := by decide +kernel
theorem d_X_kindFor_100 : decode prog_1_method_21_code 100 = .ok (.istore 4, 2) := by decide +kernel
theorem d_X_kindFor_102 : decode prog_1_method_21_code 102 = .ok (.iinc 5 1, 3) := by decide +kernel
theorem d_X_kindFor_105 : decode prog_1_method_21_code 105 = .ok (.goto (-69), 3) := by decide +kernel
theorem d_X_kindFor_108 : decode prog_1_method_21_code 108 = .ok (.iload_n 3, 1) := by decide +kernel
theorem d_X_kindFor_109 : decode prog_1_method_21_code 109 = .ok (.ireturn, 1) := by decide +kernel
theorem d_X_kindFor_21 : decode prog_1_method_21_code 21 = .ok (.aload_n 0, 1) := by decide +kernel
theorem d_X_kindFor_22 : decode prog_1_method_21_code 22 = .ok (.ldc 48, 2) := by decide +kernel
theorem d_X_kindFor_24 : decode prog_1_method_21_code 24 = .ok (.invokevirtual 49, 3) := by decide +kernel
theorem d_X_kindFor_27 : decode prog_1_method_21_code 27 = .ok (.ireturn, 1) := by decide +kernel
theorem d_X_paceFor_0 : decode prog_1_method_22_code 0 = .ok (.aload_n 0, 1) := by decide +kernel
theorem d_X_paceFor_1 : decode prog_1_method_22_code 1 = .ok (.getfield 12, 3) := by decide +kernel
theorem d_X_paceFor_4 : decode prog_1_method_22_code 4 = .ok (.iload_n 1, 1) := by decide +kernel
theorem d_X_paceFor_5 : decode prog_1_method_22_code 5 = .ok (.invokevirtual 97, 3) := by decide +kernel
theorem d_X_paceFor_8 : decode prog_1_method_22_code 8 = .ok (.ifCond .eq 13, 3) := by decide +kernel
theorem d_X_paceFor_11 : decode prog_1_method_22_code 11 = .ok (.iload_n 2, 1) := by decide +kernel
theorem d_X_paceFor_12 : decode prog_1_method_22_code 12 = .ok (.iconst 0, 1) := by decide +kernel
theorem d_X_paceFor_13 : decode prog_1_method_22_code 13 = .ok (.bipush 40, 2) := by decide +kernel
theorem d_X_paceFor_15 : decode prog_1_method_22_code 15 = .ok (.invokestatic 44, 3) := by decide +kernel
theorem d_X_paceFor_18 : decode prog_1_method_22_code 18 = .ok (.ifCond .ne 10, 3) := by decide +kernel
theorem d_X_paceFor_28 : decode prog_1_method_22_code 28 = .ok (.aload_n 0, 1) := by decide +kernel
theorem d_X_paceFor_29 : decode prog_1_method_22_code 29 = .ok (.getfield 12, 3) := by decide +kernel
theorem d_X_paceFor_32 : decode prog_1_method_22_code 32 = .ok (.getfield 100, 3) := by decide +kernel
theorem d_X_paceFor_35 : decode prog_1_method_22_code 35 = .ok (.iload_n 1, 1) := by decide +kernel
theorem d_X_paceFor_36 : decode prog_1_method_22_code 36 = .ok (.aaload, 1) := by decide +kernel
theorem d_X_paceFor_37 : decode prog_1_method_22_code 37 = .ok (.iconst 4, 1) := by decide +kernel
theorem d_X_paceFor_38 : decode prog_1_method_22_code 38 = .ok (.iaload, 1) := by decide +kernel
theorem d_X_paceFor_39 : decode prog_1_method_22_code 39 = .ok (.istore_n 3, 1) := by decide +kernel
theorem d_X_paceFor_40 : decode prog_1_method_22_code 40 = .ok (.getstatic 103, 3) := by decide +kernel
theorem d_X_paceFor_43 : decode prog_1_method_22_code 43 = .ok (.iconst 2, 1) := by decide +kernel
theorem d_X_paceFor_44 : decode prog_1_method_22_code 44 = .ok (.iaload, 1) := by decide +kernel
theorem d_X_paceFor_45 : decode prog_1_method_22_code 45 = .ok (.istore 4, 2) := by decide +kernel
theorem d_X_paceFor_47 : decode prog_1_method_22_code 47 = .ok (.iload 4, 2) := by decide +kernel
theorem d_X_paceFor_49 : decode prog_1_method_22_code 49 = .ok (.getstatic 106, 3) := by decide +kernel
theorem d_X_paceFor_52 : decode prog_1_method_22_code 52 = .ok (.iconst 2, 1) := by decide +kernel
theorem d_X_paceFor_53 : decode prog_1_method_22_code 53 = .ok (.iaload, 1) := by decide +kernel
theorem d_X_paceFor_54 : decode prog_1_method_22_code 54 = .ok (.if_icmp .gt 25, 3) := by decide +kernel
theorem d_X_paceFor_57 : decode prog_1_method_22_code 57 = .ok (.aload_n 0, 1) := by decide +kernel
theorem d_X_paceFor_58 : decode prog_1_method_22_code 58 = .ok (.iload_n 1, 1) := by decide +kernel
theorem d_X_paceFor_59 : decode prog_1_method_22_code 59 = .ok (.iconst 2, 1) := by decide +kernel
theorem d_X_paceFor_60 : decode prog_1_method_22_code 60 = .ok (.iload 4, 2) := by decide +kernel
theorem d_X_paceFor_62 : decode prog_1_method_22_code 62 = .ok (.iload_n 2, 1) := by decide +kernel
theorem d_X_paceFor_63 : decode prog_1_method_22_code 63 = .ok (.invokevirtual 152, 3) := by decide +kernel
theorem d_X_paceFor_66 : decode prog_1_method_22_code 66 = .ok (.iload_n 3, 1) := by decide +kernel
theorem d_X_paceFor_67 : decode prog_1_method_22_code 67 = .ok (.if_icmp .le 6, 3) := by decide +kernel
theorem d_X_paceFor_70 : decode prog_1_method_22_code 70 = .ok (.iload 4, 2) := by decide +kernel
theorem d_X_paceFor_72 : decode prog_1_method_22_code 72 = .ok (.ireturn, 1) := by decide +kernel
theorem d_X_paceFor_73 : decode prog_1_method_22_code 73 = .ok (.iinc 4 1, 3) := by decide +kernel
theorem d_X_paceFor_76 : decode prog_1_method_22_code 76 = .ok (.goto (-29), 3) := by decide +kernel
theorem d_X_paceFor_79 : decode prog_1_method_22_code 79 = .ok (.aload_n 0, 1) := by decide +kernel
theorem d_X_paceFor_80 : decode prog_1_method_22_code 80 = .ok (.ldc 148, 2) := by decide +kernel
theorem d_X_paceFor_82 : decode prog_1_method_22_code 82 = .ok (.invokevirtual 49, 3) := by decide +kernel
theorem d_X_paceFor_85 : decode prog_1_method_22_code 85 = .ok (.ireturn, 1) := by decide +kernel
theorem d_X_paceFor_21 : decode prog_1_method_22_code 21 = .ok (.aload_n 0, 1) := by decide +kernel
theorem d_X_paceFor_22 : decode prog_1_method_22_code 22 = .ok (.ldc 48, 2) := by decide +kernel
theorem d_X_paceFor_24 : decode prog_1_method_22_code 24 = .ok (.invokevirtual 49, 3) := by decide +kernel
theorem d_X_paceFor_27 : decode prog_1_method_22_code 27 = .ok (.ireturn, 1) := by decide +kernel
theorem d_X_giveUp_0 : decode prog_1_method_23_code 0 = .ok (.aload_n 0, 1) := by decide +kernel
theorem d_X_giveUp_1 : decode prog_1_method_23_code 1 = .ok (.getfield 12, 3) := by decide +kernel
theorem d_X_giveUp_4 : decode prog_1_method_23_code 4 = .ok (.iload_n 1, 1) := by decide +kernel
theorem d_X_giveUp_5 : decode prog_1_method_23_code 5 = .ok (.invokevirtual 97, 3) := by decide +kernel
theorem d_X_giveUp_8 : decode prog_1_method_23_code 8 = .ok (.ifCond .eq 13, 3) := by decide +kernel
theorem d_X_giveUp_11 : decode prog_1_method_23_code 11 = .ok (.iload_n 2, 1) := by decide +kernel
theorem d_X_giveUp_12 : decode prog_1_method_23_code 12 = .ok (.iconst 0, 1) := by decide +kernel
theorem d_X_giveUp_13 : decode prog_1_method_23_code 13 = .ok (.bipush 20, 2) := by decide +kernel
theorem d_X_giveUp_15 : decode prog_1_method_23_code 15 = .ok (.invokestatic 44, 3) := by decide +kernel
theorem d_X_giveUp_18 : decode prog_1_method_23_code 18 = .ok (.ifCond .ne 10, 3) := by decide +kernel
theorem d_X_giveUp_28 : decode prog_1_method_23_code 28 = .ok (.aload_n 0, 1) := by decide +kernel
theorem d_X_giveUp_29 : decode prog_1_method_23_code 29 = .ok (.getfield 12, 3) := by decide +kernel
theorem d_X_giveUp_32 : decode prog_1_method_23_code 32 = .ok (.getfield 100, 3) := by decide +kernel
theorem d_X_giveUp_35 : decode prog_1_method_23_code 35 = .ok (.iload_n 1, 1) := by decide +kernel
theorem d_X_giveUp_36 : decode prog_1_method_23_code 36 = .ok (.aaload, 1) := by decide +kernel
theorem d_X_giveUp_37 : decode prog_1_method_23_code 37 = .ok (.iconst 4, 1) := by decide +kernel
theorem d_X_giveUp_38 : decode prog_1_method_23_code 38 = .ok (.iaload, 1) := by decide +kernel
theorem d_X_giveUp_39 : decode prog_1_method_23_code 39 = .ok (.istore_n 3, 1) := by decide +kernel
theorem d_X_giveUp_40 : decode prog_1_method_23_code 40 = .ok (.aload_n 0, 1) := by decide +kernel
theorem d_X_giveUp_41 : decode prog_1_method_23_code 41 = .ok (.getfield 12, 3) := by decide +kernel
theorem d_X_giveUp_44 : decode prog_1_method_23_code 44 = .ok (.getfield 100, 3) := by decide +kernel
theorem d_X_giveUp_47 : decode prog_1_method_23_code 47 = .ok (.iload_n 1, 1) := by decide +kernel
theorem d_X_giveUp_48 : decode prog_1_method_23_code 48 = .ok (.aaload, 1) := by decide +kernel
theorem d_X_giveUp_49 : decode prog_1_method_23_code 49 = .ok (.iconst 3, 1) := by decide +kernel
theorem d_X_giveUp_50 : decode prog_1_method_23_code 50 = .ok (.iaload, 1) := by decide +kernel
theorem d_X_giveUp_51 : decode prog_1_method_23_code 51 = .ok (.istore 4, 2) := by decide +kernel
theorem d_X_giveUp_53 : decode prog_1_method_23_code 53 = .ok (.iconst (-1), 1) := by decide +kernel
theorem d_X_giveUp_54 : decode prog_1_method_23_code 54 = .ok (.istore 5, 2) := by decide +kernel
theorem d_X_giveUp_56 : decode prog_1_method_23_code 56 = .ok (.iconst 0, 1) := by decide +kernel
theorem d_X_giveUp_57 : decode prog_1_method_23_code 57 = .ok (.istore 6, 2) := by decide +kernel
theorem d_X_giveUp_59 : decode prog_1_method_23_code 59 = .ok (.iload 6, 2) := by decide +kernel
theorem d_X_giveUp_61 : decode prog_1_method_23_code 61 = .ok (.sipush 255, 3) := by decide +kernel
theorem d_X_giveUp_64 : decode prog_1_method_23_code 64 = .ok (.if_icmp .gt 83, 3) := by decide +kernel
theorem d_X_giveUp_67 : decode prog_1_method_23_code 67 = .ok (.iload 6, 2) := by decide +kernel
theorem d_X_giveUp_69 : decode prog_1_method_23_code 69 = .ok (.iload 4, 2) := by decide +kernel
theorem d_X_giveUp_71 : decode prog_1_method_23_code 71 = .ok (.iconst (-1), 1) := by decide +kernel
theorem d_X_giveUp_72 : decode prog_1_method_23_code 72 = .ok (.ixor, 1) := by decide +kernel
theorem d_X_giveUp_73 : decode prog_1_method_23_code 73 = .ok (.iand, 1) := by decide +kernel
theorem d_X_giveUp_74 : decode prog_1_method_23_code 74 = .ok (.ifCond .ne 7, 3) := by decide +kernel
theorem d_X_giveUp_77 : decode prog_1_method_23_code 77 = .ok (.iconst 1, 1) := by decide +kernel
theorem d_X_giveUp_78 : decode prog_1_method_23_code 78 = .ok (.goto 4, 3) := by decide +kernel
theorem d_X_giveUp_81 : decode prog_1_method_23_code 81 = .ok (.iconst 0, 1) := by decide +kernel
theorem d_X_giveUp_82 : decode prog_1_method_23_code 82 = .ok (.istore 7, 2) := by decide +kernel
theorem d_X_giveUp_84 : decode prog_1_method_23_code 84 = .ok (.iload 5, 2) := by decide +kernel
theorem d_X_giveUp_86 : decode prog_1_method_23_code 86 = .ok (.ifCond .lt 16, 3) := by decide +kernel
theorem d_X_giveUp_89 : decode prog_1_method_23_code 89 = .ok (.iload 6, 2) := by decide +kernel
theorem d_X_giveUp_91 : decode prog_1_method_23_code 91 = .ok (.invokestatic 156, 3) := by decide +kernel
theorem d_X_giveUp_94 : decode prog_1_method_23_code 94 = .ok (.iload 5, 2) := by decide +kernel
theorem d_X_giveUp_96 : decode prog_1_method_23_code 96 = .ok (.invokestatic 156, 3) := by decide +kernel
theorem d_X_giveUp_99 : decode prog_1_method_23_code 99 = .ok (.if_icmp .ge 7, 3) := by decide +kernel
theorem d_X_giveUp_102 : decode prog_1_method_23_code 102 = .ok (.iconst 1, 1) := by decide +kernel
theorem d_X_giveUp_103 : decode prog_1_method_23_code 103 = .ok (.goto 4, 3) := by decide +kernel
theorem d_X_giveUp_106 : decode prog_1_method_23_code 106 = .ok (.iconst 0, 1) := by decide +kernel
theorem d_X_giveUp_107 : decode prog_1_method_23_code 107 = .ok (.istore 8, 2) := by decide +kernel
theorem d_X_giveUp_109 : decode prog_1_method_23_code 109 = .ok (.iload 7, 2) := by decide +kernel
theorem d_X_giveUp_111 : decode prog_1_method_23_code 111 = .ok (.ifCond .eq 30, 3) := by decide +kernel
theorem d_X_giveUp_114 : decode prog_1_method_23_code 114 = .ok (.iload 8, 2) := by decide +kernel
theorem d_X_giveUp_116 : decode prog_1_method_23_code 116 = .ok (.ifCond .eq 25, 3) := by decide +kernel
theorem d_X_giveUp_119 : decode prog_1_method_23_code 119 = .ok (.aload_n 0, 1) := by decide +kernel
theorem d_X_giveUp_120 : decode prog_1_method_23_code 120 = .ok (.iload_n 1, 1) := by decide +kernel
theorem d_X_giveUp_121 : decode prog_1_method_23_code 121 = .ok (.iconst 3, 1) := by decide +kernel
theorem d_X_giveUp_122 : decode prog_1_method_23_code 122 = .ok (.iload 4, 2) := by decide +kernel
theorem d_X_giveUp_124 : decode prog_1_method_23_code 124 = .ok (.iload 6, 2) := by decide +kernel
theorem d_X_giveUp_126 : decode prog_1_method_23_code 126 = .ok (.iconst (-1), 1) := by decide +kernel
theorem d_X_giveUp_127 : decode prog_1_method_23_code 127 = .ok (.ixor, 1) := by decide +kernel
theorem d_X_giveUp_128 : decode prog_1_method_23_code 128 = .ok (.iand, 1) := by decide +kernel
theorem d_X_giveUp_129 : decode prog_1_method_23_code 129 = .ok (.iload_n 2, 1) := by decide +kernel
theorem d_X_giveUp_130 : decode prog_1_method_23_code 130 = .ok (.invokevirtual 152, 3) := by decide +kernel
theorem d_X_giveUp_133 : decode prog_1_method_23_code 133 = .ok (.iload_n 3, 1) := by decide +kernel
theorem d_X_giveUp_134 : decode prog_1_method_23_code 134 = .ok (.if_icmp .le 7, 3) := by decide +kernel
theorem d_X_giveUp_137 : decode prog_1_method_23_code 137 = .ok (.iload 6, 2) := by decide +kernel
theorem d_X_giveUp_139 : decode prog_1_method_23_code 139 = .ok (.istore 5, 2) := by decide +kernel
theorem d_X_giveUp_141 : decode prog_1_method_23_code 141 = .ok (.iinc 6 1, 3) := by decide +kernel
theorem d_X_giveUp_144 : decode prog_1_method_23_code 144 = .ok (.goto (-85), 3) := by decide +kernel
theorem d_X_giveUp_147 : decode prog_1_method_23_code 147 = .ok (.iload 5, 2) := by decide +kernel
theorem d_X_giveUp_149 : decode prog_1_method_23_code 149 = .ok (.ifCond .ge 12, 3) := by decide +kernel
theorem d_X_giveUp_161 : decode prog_1_method_23_code 161 = .ok (.iload 5, 2) := by decide +kernel
theorem d_X_giveUp_163 : decode prog_1_method_23_code 163 = .ok (.ireturn, 1) := by decide +kernel
theorem d_X_giveUp_152 : decode prog_1_method_23_code 152 = .ok (.aload_n 0, 1) := by decide +kernel
theorem d_X_giveUp_153 : decode prog_1_method_23_code 153 = .ok (.ldc 148, 2) := by decide +kernel
theorem d_X_giveUp_155 : decode prog_1_method_23_code 155 = .ok (.invokevirtual 49, 3) := by decide +kernel
theorem d_X_giveUp_158 : decode prog_1_method_23_code 158 = .ok (.goto 5, 3) := by decide +kernel
theorem d_X_giveUp_21 : decode prog_1_method_23_code 21 = .ok (.aload_n 0, 1) := by decide +kernel
theorem d_X_giveUp_22 : decode prog_1_method_23_code 22 = .ok (.ldc 48, 2) := by decide +kernel
theorem d_X_giveUp_24 : decode prog_1_method_23_code 24 = .ok (.invokevirtual 49, 3) := by decide +kernel
theorem d_X_giveUp_27 : decode prog_1_method_23_code 27 = .ok (.ireturn, 1) := by decide +kernel
theorem d_X_odds_0 : decode prog_1_method_27_code 0 = .ok (.aload_n 0, 1) := by decide +kernel
theorem d_X_odds_1 : decode prog_1_method_27_code 1 = .ok (.getfield 12, 3) := by decide +kernel
theorem d_X_odds_4 : decode prog_1_method_27_code 4 = .ok (.iload_n 1, 1) := by decide +kernel
theorem d_X_odds_5 : decode prog_1_method_27_code 5 = .ok (.invokevirtual 97, 3) := by decide +kernel
theorem d_X_odds_8 : decode prog_1_method_27_code 8 = .ok (.ifCond .eq 34, 3) := by decide +kernel
theorem d_X_odds_11 : decode prog_1_method_27_code 11 = .ok (.aload_n 0, 1) := by decide +kernel
theorem d_X_odds_12 : decode prog_1_method_27_code 12 = .ok (.getfield 12, 3) := by decide +kernel
theorem d_X_odds_15 : decode prog_1_method_27_code 15 = .ok (.iload_n 2, 1) := by decide +kernel
theorem d_X_odds_16 : decode prog_1_method_27_code 16 = .ok (.invokevirtual 74, 3) := by decide +kernel
theorem d_X_odds_19 : decode prog_1_method_27_code 19 = .ok (.ifCond .eq 23, 3) := by decide +kernel
theorem d_X_odds_22 : decode prog_1_method_27_code 22 = .ok (.iload_n 3, 1) := by decide +kernel
theorem d_X_odds_23 : decode prog_1_method_27_code 23 = .ok (.iconst 0, 1) := by decide +kernel
theorem d_X_odds_24 : decode prog_1_method_27_code 24 = .ok (.bipush 15, 2) := by decide +kernel
theorem d_X_odds_26 : decode prog_1_method_27_code 26 = .ok (.invokestatic 44, 3) := by decide +kernel
theorem d_X_odds_29 : decode prog_1_method_27_code 29 = .ok (.ifCond .eq 13, 3) := by decide +kernel
theorem d_X_odds_32 : decode prog_1_method_27_code 32 = .ok (.iload 4, 2) := by decide +kernel
theorem d_X_odds_34 : decode prog_1_method_27_code 34 = .ok (.iconst 0, 1) := by decide +kernel
theorem d_X_odds_35 : decode prog_1_method_27_code 35 = .ok (.iconst 1, 1) := by decide +kernel
theorem d_X_odds_36 : decode prog_1_method_27_code 36 = .ok (.invokestatic 44, 3) := by decide +kernel
theorem d_X_odds_39 : decode prog_1_method_27_code 39 = .ok (.ifCond .ne 11, 3) := by decide +kernel
theorem d_X_odds_50 : decode prog_1_method_27_code 50 = .ok (.aload_n 0, 1) := by decide +kernel
theorem d_X_odds_51 : decode prog_1_method_27_code 51 = .ok (.getfield 19, 3) := by decide +kernel
theorem d_X_odds_54 : decode prog_1_method_27_code 54 = .ok (.aload_n 0, 1) := by decide +kernel
theorem d_X_odds_55 : decode prog_1_method_27_code 55 = .ok (.getfield 12, 3) := by decide +kernel
theorem d_X_odds_58 : decode prog_1_method_27_code 58 = .ok (.invokevirtual 140, 3) := by decide +kernel
theorem d_X_odds_61 : decode prog_1_method_27_code 61 = .ok (.iconst 0, 1) := by decide +kernel
theorem d_X_odds_62 : decode prog_1_method_27_code 62 = .ok (.istore 5, 2) := by decide +kernel
theorem d_X_odds_64 : decode prog_1_method_27_code 64 = .ok (.iconst 0, 1) := by decide +kernel
theorem d_X_odds_65 : decode prog_1_method_27_code 65 = .ok (.istore 6, 2) := by decide +kernel
theorem d_X_odds_67 : decode prog_1_method_27_code 67 = .ok (.iload 6, 2) := by decide +kernel
theorem d_X_odds_69 : decode prog_1_method_27_code 69 = .ok (.bipush 16, 2) := by decide +kernel
theorem d_X_odds_71 : decode prog_1_method_27_code 71 = .ok (.if_icmp .ge 44, 3) := by decide +kernel
theorem d_X_odds_74 : decode prog_1_method_27_code 74 = .ok (.aload_n 0, 1) := by decide +kernel
theorem d_X_odds_75 : decode prog_1_method_27_code 75 = .ok (.getfield 19, 3) := by decide +kernel
theorem d_X_odds_78 : decode prog_1_method_27_code 78 = .ok (.getfield 100, 3) := by decide +kernel
theorem d_X_odds_81 : decode prog_1_method_27_code 81 = .ok (.iload_n 1, 1) := by decide +kernel
theorem d_X_odds_82 : decode prog_1_method_27_code 82 = .ok (.aaload, 1) := by decide +kernel
theorem d_X_odds_83 : decode prog_1_method_27_code 83 = .ok (.iconst 0, 1) := by decide +kernel
theorem d_X_odds_84 : decode prog_1_method_27_code 84 = .ok (.iload 6, 2) := by decide +kernel
theorem d_X_odds_86 : decode prog_1_method_27_code 86 = .ok (.iastore, 1) := by decide +kernel
theorem d_X_odds_87 : decode prog_1_method_27_code 87 = .ok (.iload 5, 2) := by decide +kernel
theorem d_X_odds_89 : decode prog_1_method_27_code 89 = .ok (.aload_n 0, 1) := by decide +kernel
theorem d_X_odds_90 : decode prog_1_method_27_code 90 = .ok (.getfield 19, 3) := by decide +kernel
theorem d_X_odds_93 : decode prog_1_method_27_code 93 = .ok (.iload_n 1, 1) := by decide +kernel
theorem d_X_odds_94 : decode prog_1_method_27_code 94 = .ok (.iload_n 2, 1) := by decide +kernel
theorem d_X_odds_95 : decode prog_1_method_27_code 95 = .ok (.invokevirtual 109, 3) := by decide +kernel
theorem d_X_odds_98 : decode prog_1_method_27_code 98 = .ok (.ifCond .eq 7, 3) := by decide +kernel
theorem d_X_odds_101 : decode prog_1_method_27_code 101 = .ok (.iconst 1, 1) := by decide +kernel
theorem d_X_odds_102 : decode prog_1_method_27_code 102 = .ok (.goto 4, 3) := by decide +kernel
theorem d_X_odds_105 : decode prog_1_method_27_code 105 = .ok (.iconst 0, 1) := by decide +kernel
theorem d_X_odds_106 : decode prog_1_method_27_code 106 = .ok (.iadd, 1) := by decide +kernel
theorem d_X_odds_107 : decode prog_1_method_27_code 107 = .ok (.istore 5, 2) := by decide +kernel
theorem d_X_odds_109 : decode prog_1_method_27_code 109 = .ok (.iinc 6 1, 3) := by decide +kernel
theorem d_X_odds_112 : decode prog_1_method_27_code 112 = .ok (.goto (-45), 3) := by decide +kernel
theorem d_X_odds_115 : decode prog_1_method_27_code 115 = .ok (.bipush 16, 2) := by decide +kernel
theorem d_X_odds_117 : decode prog_1_method_27_code 117 = .ok (.istore 6, 2) := by decide +kernel
theorem d_X_odds_119 : decode prog_1_method_27_code 119 = .ok (.iload 6, 2) := by decide +kernel
theorem d_X_odds_121 : decode prog_1_method_27_code 121 = .ok (.iconst 1, 1) := by decide +kernel
theorem d_X_odds_122 : decode prog_1_method_27_code 122 = .ok (.if_icmp .le 25, 3) := by decide +kernel
theorem d_X_odds_125 : decode prog_1_method_27_code 125 = .ok (.iload 5, 2) := by decide +kernel
theorem d_X_odds_127 : decode prog_1_method_27_code 127 = .ok (.iconst 2, 1) := by decide +kernel
theorem d_X_odds_128 : decode prog_1_method_27_code 128 = .ok (.irem, 1) := by decide +kernel
theorem d_X_odds_129 : decode prog_1_method_27_code 129 = .ok (.ifCond .ne 18, 3) := by decide +kernel
theorem d_X_odds_132 : decode prog_1_method_27_code 132 = .ok (.iload 5, 2) := by decide +kernel
theorem d_X_odds_134 : decode prog_1_method_27_code 134 = .ok (.iconst 2, 1) := by decide +kernel
theorem d_X_odds_135 : decode prog_1_method_27_code 135 = .ok (.idiv, 1) := by decide +kernel
theorem d_X_odds_136 : decode prog_1_method_27_code 136 = .ok (.istore 5, 2) := by decide +kernel
theorem d_X_odds_138 : decode prog_1_method_27_code 138 = .ok (.iload 6, 2) := by decide +kernel
theorem d_X_odds_140 : decode prog_1_method_27_code 140 = .ok (.iconst 2, 1) := by decide +kernel
theorem d_X_odds_141 : decode prog_1_method_27_code 141 = .ok (.idiv, 1) := by decide +kernel
theorem d_X_odds_142 : decode prog_1_method_27_code 142 = .ok (.istore 6, 2) := by decide +kernel
theorem d_X_odds_144 : decode prog_1_method_27_code 144 = .ok (.goto (-25), 3) := by decide +kernel
theorem d_X_odds_147 : decode prog_1_method_27_code 147 = .ok (.iload 4, 2) := by decide +kernel
theorem d_X_odds_149 : decode prog_1_method_27_code 149 = .ok (.ifCond .ne 9, 3) := by decide +kernel
theorem d_X_odds_152 : decode prog_1_method_27_code 152 = .ok (.iload 5, 2) := by decide +kernel
theorem d_X_odds_154 : decode prog_1_method_27_code 154 = .ok (.i2l, 1) := by decide +kernel
theorem d_X_odds_155 : decode prog_1_method_27_code 155 = .ok (.goto 6, 3) := by decide +kernel
theorem d_X_odds_161 : decode prog_1_method_27_code 161 = .ok (.iload_n 3, 1) := by decide +kernel
theorem d_X_odds_162 : decode prog_1_method_27_code 162 = .ok (.invokestatic 171, 3) := by decide +kernel
theorem d_X_odds_165 : decode prog_1_method_27_code 165 = .ok (.lreturn, 1) := by decide +kernel
theorem d_X_odds_158 : decode prog_1_method_27_code 158 = .ok (.iload 6, 2) := by decide +kernel
theorem d_X_odds_160 : decode prog_1_method_27_code 160 = .ok (.i2l, 1) := by decide +kernel
theorem d_X_odds_42 : decode prog_1_method_27_code 42 = .ok (.aload_n 0, 1) := by decide +kernel
theorem d_X_odds_43 : decode prog_1_method_27_code 43 = .ok (.ldc 48, 2) := by decide +kernel
theorem d_X_odds_45 : decode prog_1_method_27_code 45 = .ok (.invokevirtual 49, 3) := by decide +kernel
theorem d_X_odds_48 : decode prog_1_method_27_code 48 = .ok (.i2l, 1) := by decide +kernel
theorem d_X_odds_49 : decode prog_1_method_27_code 49 = .ok (.lreturn, 1) := by decide +kernel
theorem d_X_morning_0 : decode prog_1_method_26_code 0 = .ok (.iload_n 1, 1) := by decide +kernel
theorem d_X_morning_1 : decode prog_1_method_26_code 1 = .ok (.iconst 1, 1) := by decide +kernel
theorem d_X_morning_2 : decode prog_1_method_26_code 2 = .ok (.bipush 20, 2) := by decide +kernel
theorem d_X_morning_4 : decode prog_1_method_26_code 4 = .ok (.invokestatic 44, 3) := by decide +kernel
theorem d_X_morning_7 : decode prog_1_method_26_code 7 = .ok (.ifCond .ne 10, 3) := by decide +kernel
theorem d_X_morning_17 : decode prog_1_method_26_code 17 = .ok (.aload_n 0, 1) := by decide +kernel
theorem d_X_morning_18 : decode prog_1_method_26_code 18 = .ok (.getfield 12, 3) := by decide +kernel
theorem d_X_morning_21 : decode prog_1_method_26_code 21 = .ok (.getfield 87, 3) := by decide +kernel
theorem d_X_morning_24 : decode prog_1_method_26_code 24 = .ok (.ldc 116, 2) := by decide +kernel
theorem d_X_morning_26 : decode prog_1_method_26_code 26 = .ok (.iload_n 1, 1) := by decide +kernel
theorem d_X_morning_27 : decode prog_1_method_26_code 27 = .ok (.isub, 1) := by decide +kernel
theorem d_X_morning_28 : decode prog_1_method_26_code 28 = .ok (.if_icmp .le 10, 3) := by decide +kernel
theorem d_X_morning_31 : decode prog_1_method_26_code 31 = .ok (.aload_n 0, 1) := by decide +kernel
theorem d_X_morning_32 : decode prog_1_method_26_code 32 = .ok (.ldc 117, 2) := by decide +kernel
theorem d_X_morning_34 : decode prog_1_method_26_code 34 = .ok (.invokevirtual 49, 3) := by decide +kernel
theorem d_X_morning_37 : decode prog_1_method_26_code 37 = .ok (.ireturn, 1) := by decide +kernel
theorem d_X_morning_38 : decode prog_1_method_26_code 38 = .ok (.iconst 0, 1) := by decide +kernel
theorem d_X_morning_39 : decode prog_1_method_26_code 39 = .ok (.istore_n 2, 1) := by decide +kernel
theorem d_X_morning_40 : decode prog_1_method_26_code 40 = .ok (.iload_n 2, 1) := by decide +kernel
theorem d_X_morning_41 : decode prog_1_method_26_code 41 = .ok (.iload_n 1, 1) := by decide +kernel
theorem d_X_morning_42 : decode prog_1_method_26_code 42 = .ok (.if_icmp .ge 64, 3) := by decide +kernel
theorem d_X_morning_45 : decode prog_1_method_26_code 45 = .ok (.aload_n 0, 1) := by decide +kernel
theorem d_X_morning_46 : decode prog_1_method_26_code 46 = .ok (.getfield 12, 3) := by decide +kernel
theorem d_X_morning_49 : decode prog_1_method_26_code 49 = .ok (.invokevirtual 168, 3) := by decide +kernel
theorem d_X_morning_52 : decode prog_1_method_26_code 52 = .ok (.bipush 6, 2) := by decide +kernel
theorem d_X_morning_54 : decode prog_1_method_26_code 54 = .ok (.irem, 1) := by decide +kernel
theorem d_X_morning_55 : decode prog_1_method_26_code 55 = .ok (.istore_n 3, 1) := by decide +kernel
theorem d_X_morning_56 : decode prog_1_method_26_code 56 = .ok (.aload_n 0, 1) := by decide +kernel
theorem d_X_morning_57 : decode prog_1_method_26_code 57 = .ok (.getfield 12, 3) := by decide +kernel
theorem d_X_morning_60 : decode prog_1_method_26_code 60 = .ok (.invokevirtual 168, 3) := by decide +kernel
theorem d_X_morning_63 : decode prog_1_method_26_code 63 = .ok (.bipush 8, 2) := by decide +kernel
theorem d_X_morning_65 : decode prog_1_method_26_code 65 = .ok (.irem, 1) := by decide +kernel
theorem d_X_morning_66 : decode prog_1_method_26_code 66 = .ok (.istore 4, 2) := by decide +kernel
theorem d_X_morning_68 : decode prog_1_method_26_code 68 = .ok (.aload_n 0, 1) := by decide +kernel
theorem d_X_morning_69 : decode prog_1_method_26_code 69 = .ok (.getfield 12, 3) := by decide +kernel
theorem d_X_morning_72 : decode prog_1_method_26_code 72 = .ok (.getfield 53, 3) := by decide +kernel
theorem d_X_morning_75 : decode prog_1_method_26_code 75 = .ok (.aload_n 0, 1) := by decide +kernel
theorem d_X_morning_76 : decode prog_1_method_26_code 76 = .ok (.getfield 12, 3) := by decide +kernel
theorem d_X_morning_79 : decode prog_1_method_26_code 79 = .ok (.getfield 87, 3) := by decide +kernel
theorem d_X_morning_82 : decode prog_1_method_26_code 82 = .ok (.bipush 6, 2) := by decide +kernel
theorem d_X_morning_84 : decode prog_1_method_26_code 84 = .ok (.irem, 1) := by decide +kernel
theorem d_X_morning_85 : decode prog_1_method_26_code 85 = .ok (.bipush 10, 2) := by decide +kernel
theorem d_X_morning_87 : decode prog_1_method_26_code 87 = .ok (.iload_n 3, 1) := by decide +kernel
theorem d_X_morning_88 : decode prog_1_method_26_code 88 = .ok (.imul, 1) := by decide +kernel
theorem d_X_morning_89 : decode prog_1_method_26_code 89 = .ok (.iload 4, 2) := by decide +kernel
theorem d_X_morning_91 : decode prog_1_method_26_code 91 = .ok (.iadd, 1) := by decide +kernel
theorem d_X_morning_92 : decode prog_1_method_26_code 92 = .ok (.iastore, 1) := by decide +kernel
theorem d_X_morning_93 : decode prog_1_method_26_code 93 = .ok (.aload_n 0, 1) := by decide +kernel
theorem d_X_morning_94 : decode prog_1_method_26_code 94 = .ok (.getfield 12, 3) := by decide +kernel
theorem d_X_morning_97 : decode prog_1_method_26_code 97 = .ok (.invokevirtual 118, 3) := by decide +kernel
theorem d_X_morning_100 : decode prog_1_method_26_code 100 = .ok (.iinc 2 1, 3) := by decide +kernel
theorem d_X_morning_103 : decode prog_1_method_26_code 103 = .ok (.goto (-63), 3) := by decide +kernel
theorem d_X_morning_106 : decode prog_1_method_26_code 106 = .ok (.aload_n 0, 1) := by decide +kernel
theorem d_X_morning_107 : decode prog_1_method_26_code 107 = .ok (.getfield 12, 3) := by decide +kernel
theorem d_X_morning_110 : decode prog_1_method_26_code 110 = .ok (.iconst 4, 1) := by decide +kernel
theorem d_X_morning_111 : decode prog_1_method_26_code 111 = .ok (.invokevirtual 121, 3) := by decide +kernel
theorem d_X_morning_114 : decode prog_1_method_26_code 114 = .ok (.ireturn, 1) := by decide +kernel
theorem d_X_morning_10 : decode prog_1_method_26_code 10 = .ok (.aload_n 0, 1) := by decide +kernel
theorem d_X_morning_11 : decode prog_1_method_26_code 11 = .ok (.ldc 48, 2) := by decide +kernel
theorem d_X_morning_13 : decode prog_1_method_26_code 13 = .ok (.invokevirtual 49, 3) := by decide +kernel
theorem d_X_morning_16 : decode prog_1_method_26_code 16 = .ok (.ireturn, 1) := by decide +kernel
theorem d_X_seed_0 : decode prog_1_method_28_code 0 = .ok (.aload_n 0, 1) := by decide +kernel
theorem d_X_seed_1 : decode prog_1_method_28_code 1 = .ok (.getfield 12, 3) := by decide +kernel
theorem d_X_seed_4 : decode prog_1_method_28_code 4 = .ok (.getfield 175, 3) := by decide +kernel
theorem d_X_seed_7 : decode prog_1_method_28_code 7 = .ok (.istore_n 2, 1) := by decide +kernel
theorem d_X_seed_8 : decode prog_1_method_28_code 8 = .ok (.aload_n 0, 1) := by decide +kernel
theorem d_X_seed_9 : decode prog_1_method_28_code 9 = .ok (.getfield 12, 3) := by decide +kernel
theorem d_X_seed_12 : decode prog_1_method_28_code 12 = .ok (.iload_n 1, 1) := by decide +kernel
theorem d_X_seed_13 : decode prog_1_method_28_code 13 = .ok (.putfield 175, 3) := by decide +kernel
theorem d_X_seed_16 : decode prog_1_method_28_code 16 = .ok (.iload_n 2, 1) := by decide +kernel
theorem d_X_seed_17 : decode prog_1_method_28_code 17 = .ok (.ireturn, 1) := by decide +kernel
theorem d_X_hold_0 : decode prog_1_method_32_code 0 = .ok (.iload_n 1, 1) := by decide +kernel
theorem d_X_hold_1 : decode prog_1_method_32_code 1 = .ok (.iconst 0, 1) := by decide +kernel
theorem d_X_hold_2 : decode prog_1_method_32_code 2 = .ok (.bipush 9, 2) := by decide +kernel
theorem d_X_hold_4 : decode prog_1_method_32_code 4 = .ok (.invokestatic 44, 3) := by decide +kernel
theorem d_X_hold_7 : decode prog_1_method_32_code 7 = .ok (.ifCond .eq 19, 3) := by decide +kernel
theorem d_X_hold_10 : decode prog_1_method_32_code 10 = .ok (.iload_n 2, 1) := by decide +kernel
theorem d_X_hold_11 : decode prog_1_method_32_code 11 = .ok (.iconst (-1), 1) := by decide +kernel
theorem d_X_hold_12 : decode prog_1_method_32_code 12 = .ok (.if_icmp .eq 21, 3) := by decide +kernel
theorem d_X_hold_15 : decode prog_1_method_32_code 15 = .ok (.aload_n 0, 1) := by decide +kernel
theorem d_X_hold_16 : decode prog_1_method_32_code 16 = .ok (.getfield 12, 3) := by decide +kernel
theorem d_X_hold_19 : decode prog_1_method_32_code 19 = .ok (.iload_n 2, 1) := by decide +kernel
theorem d_X_hold_20 : decode prog_1_method_32_code 20 = .ok (.invokevirtual 74, 3) := by decide +kernel
theorem d_X_hold_23 : decode prog_1_method_32_code 23 = .ok (.ifCond .ne 10, 3) := by decide +kernel
theorem d_X_hold_33 : decode prog_1_method_32_code 33 = .ok (.aload_n 0, 1) := by decide +kernel
theorem d_X_hold_34 : decode prog_1_method_32_code 34 = .ok (.getfield 12, 3) := by decide +kernel
theorem d_X_hold_37 : decode prog_1_method_32_code 37 = .ok (.getfield 189, 3) := by decide +kernel
theorem d_X_hold_40 : decode prog_1_method_32_code 40 = .ok (.iload_n 1, 1) := by decide +kernel
theorem d_X_hold_41 : decode prog_1_method_32_code 41 = .ok (.iload_n 2, 1) := by decide +kernel
theorem d_X_hold_42 : decode prog_1_method_32_code 42 = .ok (.iastore, 1) := by decide +kernel
theorem d_X_hold_43 : decode prog_1_method_32_code 43 = .ok (.iconst 1, 1) := by decide +kernel
theorem d_X_hold_44 : decode prog_1_method_32_code 44 = .ok (.ireturn, 1) := by decide +kernel
theorem d_X_hold_26 : decode prog_1_method_32_code 26 = .ok (.aload_n 0, 1) := by decide +kernel
theorem d_X_hold_27 : decode prog_1_method_32_code 27 = .ok (.ldc 48, 2) := by decide +kernel
theorem d_X_hold_29 : decode prog_1_method_32_code 29 = .ok (.invokevirtual 49, 3) := by decide +kernel
theorem d_X_hold_32 : decode prog_1_method_32_code 32 = .ok (.ireturn, 1) := by decide +kernel
theorem d_X_as_0 : decode prog_1_method_33_code 0 = .ok (.iload_n 1, 1) := by decide +kernel
theorem d_X_as_1 : decode prog_1_method_33_code 1 = .ok (.iconst 0, 1) := by decide +kernel
theorem d_X_as_2 : decode prog_1_method_33_code 2 = .ok (.bipush 9, 2) := by decide +kernel
theorem d_X_as_4 : decode prog_1_method_33_code 4 = .ok (.invokestatic 44, 3) := by decide +kernel
theorem d_X_as_7 : decode prog_1_method_33_code 7 = .ok (.ifCond .eq 16, 3) := by decide +kernel
theorem d_X_as_10 : decode prog_1_method_33_code 10 = .ok (.iload_n 2, 1) := by decide +kernel
theorem d_X_as_11 : decode prog_1_method_33_code 11 = .ok (.iconst 0, 1) := by decide +kernel
theorem d_X_as_12 : decode prog_1_method_33_code 12 = .ok (.getstatic 56, 3) := by decide +kernel
theorem d_X_as_15 : decode prog_1_method_33_code 15 = .ok (.iconst 0, 1) := by decide +kernel
theorem d_X_as_16 : decode prog_1_method_33_code 16 = .ok (.iaload, 1) := by decide +kernel
theorem d_X_as_17 : decode prog_1_method_33_code 17 = .ok (.invokestatic 44, 3) := by decide +kernel
theorem d_X_as_20 : decode prog_1_method_33_code 20 = .ok (.ifCond .ne 10, 3) := by decide +kernel
theorem d_X_as_30 : decode prog_1_method_33_code 30 = .ok (.aload_n 0, 1) := by decide +kernel
theorem d_X_as_31 : decode prog_1_method_33_code 31 = .ok (.getfield 12, 3) := by decide +kernel
theorem d_X_as_34 : decode prog_1_method_33_code 34 = .ok (.getfield 189, 3) := by decide +kernel
theorem d_X_as_37 : decode prog_1_method_33_code 37 = .ok (.iload_n 1, 1) := by decide +kernel
theorem d_X_as_38 : decode prog_1_method_33_code 38 = .ok (.iaload, 1) := by decide +kernel
theorem d_X_as_39 : decode prog_1_method_33_code 39 = .ok (.istore_n 3, 1) := by decide +kernel
theorem d_X_as_40 : decode prog_1_method_33_code 40 = .ok (.aload_n 0, 1) := by decide +kernel
theorem d_X_as_41 : decode prog_1_method_33_code 41 = .ok (.getfield 12, 3) := by decide +kernel
theorem d_X_as_44 : decode prog_1_method_33_code 44 = .ok (.iload_n 3, 1) := by decide +kernel
theorem d_X_as_45 : decode prog_1_method_33_code 45 = .ok (.invokevirtual 74, 3) := by decide +kernel
theorem d_X_as_48 : decode prog_1_method_33_code 48 = .ok (.ifCond .ne 10, 3) := by decide +kernel
theorem d_X_as_58 : decode prog_1_method_33_code 58 = .ok (.aload_n 0, 1) := by decide +kernel
theorem d_X_as_59 : decode prog_1_method_33_code 59 = .ok (.getfield 12, 3) := by decide +kernel
theorem d_X_as_62 : decode prog_1_method_33_code 62 = .ok (.getfield 78, 3) := by decide +kernel
theorem d_X_as_65 : decode prog_1_method_33_code 65 = .ok (.iload_n 3, 1) := by decide +kernel
theorem d_X_as_66 : decode prog_1_method_33_code 66 = .ok (.aaload, 1) := by decide +kernel
theorem d_X_as_67 : decode prog_1_method_33_code 67 = .ok (.iconst 0, 1) := by decide +kernel
theorem d_X_as_68 : decode prog_1_method_33_code 68 = .ok (.iaload, 1) := by decide +kernel
theorem d_X_as_69 : decode prog_1_method_33_code 69 = .ok (.iload_n 2, 1) := by decide +kernel
theorem d_X_as_70 : decode prog_1_method_33_code 70 = .ok (.invokestatic 193, 3) := by decide +kernel
theorem d_X_as_73 : decode prog_1_method_33_code 73 = .ok (.ifCond .eq 7, 3) := by decide +kernel
theorem d_X_as_76 : decode prog_1_method_33_code 76 = .ok (.iload_n 3, 1) := by decide +kernel
theorem d_X_as_77 : decode prog_1_method_33_code 77 = .ok (.goto 9, 3) := by decide +kernel
theorem d_X_as_86 : decode prog_1_method_33_code 86 = .ok (.ireturn, 1) := by decide +kernel
theorem d_X_as_80 : decode prog_1_method_33_code 80 = .ok (.aload_n 0, 1) := by decide +kernel
theorem d_X_as_81 : decode prog_1_method_33_code 81 = .ok (.ldc 196, 2) := by decide +kernel
theorem d_X_as_83 : decode prog_1_method_33_code 83 = .ok (.invokevirtual 49, 3) := by decide +kernel
theorem d_X_as_51 : decode prog_1_method_33_code 51 = .ok (.aload_n 0, 1) := by decide +kernel
theorem d_X_as_52 : decode prog_1_method_33_code 52 = .ok (.ldc 192, 2) := by decide +kernel
theorem d_X_as_54 : decode prog_1_method_33_code 54 = .ok (.invokevirtual 49, 3) := by decide +kernel
theorem d_X_as_57 : decode prog_1_method_33_code 57 = .ok (.ireturn, 1) := by decide +kernel
theorem d_X_as_23 : decode prog_1_method_33_code 23 = .ok (.aload_n 0, 1) := by decide +kernel
theorem d_X_as_24 : decode prog_1_method_33_code 24 = .ok (.ldc 48, 2) := by decide +kernel
theorem d_X_as_26 : decode prog_1_method_33_code 26 = .ok (.invokevirtual 49, 3) := by decide +kernel
theorem d_X_as_29 : decode prog_1_method_33_code 29 = .ok (.ireturn, 1) := by decide +kernel
set_option maxHeartbeats 1000000 in
set_option maxRecDepth 20000 in
theorem c_Ji_bitCount (l : Launch) (E : QE) (S : QM) (v : Int32) : qCI E l y_Ji_bitCount prog_8_method_49_code 1 .int 1 [.int v] S (bcS v) S := by
  refine qCI_of (by decide) (Nat.le_of_ble_eq_true rfl) (fun p e s m below meth c ls X hW hl => ?_)
  have hl : lv_has ls 1 [(0, .int v)] := hl
  refine lv_iload_n X.x X.b d_Ji_bitCount_0 rfl (lv_at hl 0 rfl) ?_
  refine lv_iload_n X.x X.b d_Ji_bitCount_1 rfl (lv_at hl 0 rfl) ?_
  refine lv_iconst (v := nI 1) X.x X.b d_Ji_bitCount_2 (by decide) ?_
  refine lv_iushr (v := (v.toUInt32 >>> ((nI 1).toUInt32 &&& Int32.toUInt32 31)).toInt32) X.x X.b d_Ji_bitCount_3 rfl ?_
  refine lv_ldcw (v := nI 1431655765) X.x X.b X.ow (X.ts _ mw_430) d_Ji_bitCount_4 ?_
  refine lv_iand X.x X.b d_Ji_bitCount_7 ?_
  refine lv_isub X.x X.b d_Ji_bitCount_8 ?_
  refine lv_topi (fun x9 ex9 => ?_)
  refine lv_istore_n (lv' := [(0, .int x9)]) X.x X.b d_Ji_bitCount_9 rfl hl (by decide) rfl (fun ls hl => ?_)
  refine lv_iload_n X.x X.b d_Ji_bitCount_10 rfl (lv_at hl 0 rfl) ?_
  refine lv_ldcw (v := nI 858993459) X.x X.b X.ow (X.ts _ mw_431) d_Ji_bitCount_11 ?_
  refine lv_iand X.x X.b d_Ji_bitCount_14 ?_
  refine lv_iload_n X.x X.b d_Ji_bitCount_15 rfl (lv_at hl 0 rfl) ?_
  refine lv_iconst (v := nI 2) X.x X.b d_Ji_bitCount_16 (by decide) ?_
  refine lv_iushr (v := (x9.toUInt32 >>> ((nI 2).toUInt32 &&& Int32.toUInt32 31)).toInt32) X.x X.b d_Ji_bitCount_17 rfl ?_
  refine lv_ldcw (v := nI 858993459) X.x X.b X.ow (X.ts _ mw_431) d_Ji_bitCount_18 ?_
  refine lv_iand X.x X.b d_Ji_bitCount_21 ?_
  refine lv_iadd X.x X.b d_Ji_bitCount_22 ?_
  refine lv_topi (fun x23 ex23 => ?_)
  refine lv_istore_n (lv' := [(0, .int x23)]) X.x X.b d_Ji_bitCount_23 rfl hl (by decide) rfl (fun ls hl => ?_)
  refine lv_iload_n X.x X.b d_Ji_bitCount_24 rfl (lv_at hl 0 rfl) ?_
  refine lv_iload_n X.x X.b d_Ji_bitCount_25 rfl (lv_at hl 0 rfl) ?_
  refine lv_iconst (v := nI 4) X.x X.b d_Ji_bitCount_26 (by decide) ?_
  refine lv_iushr (v := (x23.toUInt32 >>> ((nI 4).toUInt32 &&& Int32.toUInt32 31)).toInt32) X.x X.b d_Ji_bitCount_27 rfl ?_
  refine lv_iadd X.x X.b d_Ji_bitCount_28 ?_
  refine lv_ldcw (v := nI 252645135) X.x X.b X.ow (X.ts _ mw_432) d_Ji_bitCount_29 ?_
  refine lv_iand X.x X.b d_Ji_bitCount_32 ?_
  refine lv_topi (fun x33 ex33 => ?_)
  refine lv_istore_n (lv' := [(0, .int x33)]) X.x X.b d_Ji_bitCount_33 rfl hl (by decide) rfl (fun ls hl => ?_)
  refine lv_iload_n X.x X.b d_Ji_bitCount_34 rfl (lv_at hl 0 rfl) ?_
  refine lv_iload_n X.x X.b d_Ji_bitCount_35 rfl (lv_at hl 0 rfl) ?_
  refine lv_bipush (v := nI 8) X.x X.b d_Ji_bitCount_36 (by decide) ?_
  refine lv_iushr (v := (x33.toUInt32 >>> ((nI 8).toUInt32 &&& Int32.toUInt32 31)).toInt32) X.x X.b d_Ji_bitCount_38 rfl ?_
  refine lv_iadd X.x X.b d_Ji_bitCount_39 ?_
  refine lv_topi (fun x40 ex40 => ?_)
  refine lv_istore_n (lv' := [(0, .int x40)]) X.x X.b d_Ji_bitCount_40 rfl hl (by decide) rfl (fun ls hl => ?_)
  refine lv_iload_n X.x X.b d_Ji_bitCount_41 rfl (lv_at hl 0 rfl) ?_
  refine lv_iload_n X.x X.b d_Ji_bitCount_42 rfl (lv_at hl 0 rfl) ?_
  refine lv_bipush (v := nI 16) X.x X.b d_Ji_bitCount_43 (by decide) ?_
  refine lv_iushr (v := (x40.toUInt32 >>> ((nI 16).toUInt32 &&& Int32.toUInt32 31)).toInt32) X.x X.b d_Ji_bitCount_45 rfl ?_
  refine lv_iadd X.x X.b d_Ji_bitCount_46 ?_
  refine lv_topi (fun x47 ex47 => ?_)
  refine lv_istore_n (lv' := [(0, .int x47)]) X.x X.b d_Ji_bitCount_47 rfl hl (by decide) rfl (fun ls hl => ?_)
  refine lv_iload_n X.x X.b d_Ji_bitCount_48 rfl (lv_at hl 0 rfl) ?_
  refine lv_bipush (v := nI 63) X.x X.b d_Ji_bitCount_49 (by decide) ?_
  refine lv_iand X.x X.b d_Ji_bitCount_51 ?_
  exact q_zret X rfl hW ⟨by subst ex47 ex40 ex33 ex23 ex9; rfl, rfl⟩ d_Ji_bitCount_52
set_option maxHeartbeats 1000000 in
set_option maxRecDepth 20000 in
theorem c_X_power (l : Launch) (E : QE) (S : QM) (bs : Int64) (n : Nat) (hn : n ≤ 15) : qCL E l y_X_power prog_1_method_45_code 6 1 [.long bs, .int (nI n)] S (pwS bs n) S := by
  refine qCL_of (by decide) (Nat.le_of_ble_eq_true rfl) (fun p e s m below meth c ls X hW hl => ?_)
  have hl : lv_has ls 6 [(0, .long bs), (2, .int (nI n))] := hl
  refine lv_lconst (v := 1) X.x X.b d_X_power_0 (by decide) ?_
  refine lv_lstore_n (lv' := [(3, .long 1), (0, .long bs), (2, .int (nI n))]) X.x X.b d_X_power_1 rfl hl (by decide) rfl (fun ls hl => ?_)
  refine lv_iconst (v := nI 0) X.x X.b d_X_power_2 (by decide) ?_
  refine lv_istore (lv' := [(5, .int (nI 0)), (3, .long 1), (0, .long bs), (2, .int (nI n))]) X.x X.b d_X_power_3 hl (by decide) rfl (fun ls hl => ?_)
  have loop5 : ∀ (fu5 : Nat) (j : Nat) (a : Int64), j ≤ n → a = fo (fun _ x => x * bs) j 1 → n - j < fu5 → ∀ (H : Heap) (locs : List Loc) (ls : Array Slot), qWH E S s H locs → lv_has ls 6 [(5, .int (nI j)), (3, .long a), (0, .long bs), (2, .int (nI n))] → W p l e (qRm 1) s m ([.long bs, .int (nI n)] : List Value).toArray below meth c H locs 0 0 (MQ below (qQl E (pwS bs n) S s.heap.size) ([.long bs, .int (nI n)] : List Value).toArray s 0 0 (qAA E s.heap.size)) (F0 m 5 ls []) := by
    intro fu5
    induction fu5 with
    | zero =>
      intro j a hj ha hfu
      exact absurd hfu (Nat.not_lt_zero _)
    | succ fu5 ih5 =>
      intro j a hj ha hfu H locs ls hW hl
      refine lv_iload X.x X.b d_X_power_5 (lv_at hl 0 rfl) ?_
      refine lv_iload_n X.x X.b d_X_power_7 rfl (lv_at hl 3 rfl) ?_
      refine lv_icmp_ge (tgt := 21) X.x X.b d_X_power_8 (by decide) (fun c8 => ?_) (fun c8 => ?_)
      · have c8 : n ≤ j := (nI_leI (a := n) (b := j) (by omega) (by omega)).mp c8
        refine lv_lload_n X.x X.b d_X_power_21 rfl (lv_at hl 1 rfl) ?_
        exact q_lret X hW ⟨by rw [ha, show j = n by omega]; rfl, rfl⟩ d_X_power_22
      · have c8 : ¬ n ≤ j := fun z => c8 ((nI_leI (a := n) (b := j) (by omega) (by omega)).mpr z)
        refine lv_lload_n X.x X.b d_X_power_11 rfl (lv_at hl 1 rfl) ?_
        refine lv_lload_n X.x X.b d_X_power_12 rfl (lv_at hl 2 rfl) ?_
        refine lv_lmul X.x X.b d_X_power_13 ?_
        refine lv_lstore_n (lv' := [(3, .long (a * bs)), (5, .int (nI j)), (0, .long bs), (2, .int (nI n))]) X.x X.b d_X_power_14 rfl hl (by decide) rfl (fun ls hl => ?_)
        refine lv_iinc (v := nI (j + 1)) (lv' := [(5, .int (nI (j + 1))), (3, .long (a * bs)), (0, .long bs), (2, .int (nI n))]) X.x X.b d_X_power_15 hl (k := 1) rfl (by rw [show Int32.ofInt 1 = nI 1 from by decide, nI_add]) (by decide) rfl (fun ls hl => ?_)
        refine lv_goto (tgt := 5) X.x X.b d_X_power_18 (by decide) ?_
        exact ih5 (j + 1) (a * bs) (by omega) (by rw [fo_succ, ← ha]) (by omega) _ _ _ hW (lv_sub hl [0, 1, 2, 3] rfl)
  exact loop5 (n - 0 + 1) 0 1 (by omega) rfl (Nat.lt_succ_self _) _ _ _ hW (lv_sub hl [0, 1, 2, 3] rfl)
set_option maxHeartbeats 1000000 in
set_option maxRecDepth 20000 in
theorem c_X_kindFor_g (l : Launch) (E : QE) (S : QM) (ρ φ τ : Nat → Int32) (hρ : S 0 = ρ) (hφ : S 14 = φ) (hτ : S 2 = τ) (hwf : WF ρ) (t n : Nat) (ht : t < nT ρ) (hn : n ≤ 40) (hτw : WF τ) : qCPi E l y_X_kindFor prog_1_method_21_code 7 .int 6 [.ref (eA E 0), .int (nI t), .int (nI n)] S (nI (bst (fun i => (metS ρ t (nI i) n)) 7).1) (any S 2 WF) := by
  refine qCPi_of (by decide) (Nat.le_of_ble_eq_true rfl) (fun p e s m below meth c ls X hW hl => ?_)
  have hl : lv_has ls 7 [(0, .ref (eA E 0)), (1, .int (nI t)), (2, .int (nI n))] := hl
  have htl := hwf.tl
  have hwl := hwf.wl
  have hdl := hwf.dl
  have hbw : WF (becS τ ρ) := becS_wf hwf
  have hbe : eqv (becS τ ρ) ρ := becS_e hwf
  refine lv_aload_n X.x X.b d_X_kindFor_0 rfl (lv_at hl 0 rfl) ?_
  refine q_getr X hW qj3 rfl _ ds_X 0 (by decide) mw_183 rfl (c1 := cB 0) rfl d_X_kindFor_1 ?_
  refine lv_iload_n X.x X.b d_X_kindFor_4 rfl (lv_at hl 1 rfl) ?_
  refine q_cvi X (c_Cm_hasThing l E 0 (by decide) S ρ (by rw [hρ]) hwf (nI t)) hW (q_recv X hW (ds_cm (k := 0) (by decide)) rfl) ok_Cm_hasThing mw_244 ⟨by decide, by decide⟩ (As := [.int (nI t)]) rfl rfl (Nat.le_of_ble_eq_true rfl) (lv := [(0, .ref (eA E 0)), (1, .int (nI t)), (2, .int (nI n))]) hl ⟨Nat.le_refl 0, Nat.le_refl 0⟩ d_X_kindFor_5 (fun H locs hW => ?_)
  refine lv_if_eq (tgt := 21) X.x X.b d_X_kindFor_8 (by decide) (fun c8 => ?_) (fun c8 => ?_)
  · have c8 := b2i_e c8
    have c8 := mt (isT_i hwf (by omega)).mpr c8
    omega
  · have c8 := b2i_n c8
    have c8 := (isT_i hwf (by omega)).mp c8
    refine lv_iload_n X.x X.b d_X_kindFor_11 rfl (lv_at hl 2 rfl) ?_
    refine lv_iconst (v := nI 0) X.x X.b d_X_kindFor_12 (by decide) ?_
    refine lv_bipush (v := nI 40) X.x X.b d_X_kindFor_13 (by decide) ?_
    refine q_csi X (c_X_within l E S (nI n) (nI 0) (nI 40)) hW ok_X_within mw_209 ⟨by decide, by decide⟩ (As := [.int (nI n), .int (nI 0), .int (nI 40)]) rfl rfl (Nat.le_of_ble_eq_true rfl) (lv := [(0, .ref (eA E 0)), (1, .int (nI t)), (2, .int (nI n))]) hl ⟨Nat.le_refl 0, Nat.le_refl 0⟩ d_X_kindFor_15 (fun H locs hW => ?_)
    refine lv_if_ne (tgt := 28) X.x X.b d_X_kindFor_18 (by decide) (fun c18 => ?_) (fun c18 => ?_)
    · have c18 := b2i_n c18
      have c18 := (inR_i (by omega) (by decide)).mp c18
      refine lv_iconst (v := nI 0) X.x X.b d_X_kindFor_28 (by decide) ?_
      refine lv_istore_n (lv' := [(3, .int (nI 0)), (0, .ref (eA E 0)), (1, .int (nI t)), (2, .int (nI n))]) X.x X.b d_X_kindFor_29 rfl hl (by decide) rfl (fun ls hl => ?_)
      refine lv_iconst (v := (-1)) X.x X.b d_X_kindFor_30 (by decide) ?_
      refine lv_istore (lv' := [(4, .int (-1)), (3, .int (nI 0)), (0, .ref (eA E 0)), (1, .int (nI t)), (2, .int (nI n))]) X.x X.b d_X_kindFor_31 hl (by decide) rfl (fun ls hl => ?_)
      refine lv_iconst (v := nI 0) X.x X.b d_X_kindFor_33 (by decide) ?_
      refine lv_istore (lv' := [(5, .int (nI 0)), (4, .int (-1)), (3, .int (nI 0)), (0, .ref (eA E 0)), (1, .int (nI t)), (2, .int (nI n))]) X.x X.b d_X_kindFor_34 hl (by decide) rfl (fun ls hl => ?_)
      have hW : qWH E (qr S 2 τ) s H locs := by rw [← hτ, qr_self]; exact hW
      have loop36 : ∀ (fu36 : Nat) (j : Nat) (b : Nat) (a : Int32) (ν : Nat → Int32), j ≤ 7 → (b, a) = bst (fun i => (metS ρ t (nI i) n)) j → WF ν → 7 - j < fu36 → ∀ (H : Heap) (locs : List Loc) (ls : Array Slot), qWH E (qr S 2 ν) s H locs → lv_has ls 7 [(5, .int (nI j)), (4, .int a), (3, .int (nI b)), (0, .ref (eA E 0)), (1, .int (nI t)), (2, .int (nI n))] → W p l e (qRm 6) s m ([.ref (eA E 0), .int (nI t), .int (nI n)] : List Value).toArray below meth c H locs 0 0 (MQ below (qQpi E (nI (bst (fun i => (metS ρ t (nI i) n)) 7).1) (any S 2 WF) s.heap.size) ([.ref (eA E 0), .int (nI t), .int (nI n)] : List Value).toArray s 0 0 (qAA E s.heap.size)) (F0 m 36 ls []) := by
        intro fu36
        induction fu36 with
        | zero =>
          intro j b a ν hj hb hν hfu
          exact absurd hfu (Nat.not_lt_zero _)
        | succ fu36 ih36 =>
          intro j b a ν hj hb hν hfu H locs ls hW hl
          refine lv_iload X.x X.b d_X_kindFor_36 (lv_at hl 0 rfl) ?_
          refine q_gets X hW X.Z.1 mw_225 d_X_kindFor_38 ?_
          refine lv_iconst (v := nI 0) X.x X.b d_X_kindFor_41 (by decide) ?_
          refine g_zald X hW X.Z.1 (q_in (show 0 < 3 by omega) (by decide)) (q_tn (by omega) (Nat.zero_add _)) d_X_kindFor_42 ?_
          rw [show zt0.getD 0 0 = nI 6 from by decide]
          refine lv_icmp_gt (tgt := 108) X.x X.b d_X_kindFor_43 (by decide) (fun c43 => ?_) (fun c43 => ?_)
          · have c43 : 6 < j := (nI_ltI (a := 6) (b := j) (by omega) (by omega)).mp c43
            refine lv_iload_n X.x X.b d_X_kindFor_108 rfl (lv_at hl 2 rfl) ?_
            exact q_pzret X rfl hW ⟨by rw [show bst (fun i => (metS ρ t (nI i) n)) 7 = (b, a) by rw [hb, show j = 7 by omega]], ⟨_, hν, rfl⟩⟩ d_X_kindFor_109
          · have c43 : ¬ 6 < j := fun z => c43 ((nI_ltI (a := 6) (b := j) (by omega) (by omega)).mpr z)
            refine lv_aload_n X.x X.b d_X_kindFor_46 rfl (lv_at hl 3 rfl) ?_
            refine q_getr X hW qj3 rfl _ ds_X 2 (by decide) mw_185 rfl (c1 := cB 2) rfl d_X_kindFor_47 ?_
            refine lv_aload_n X.x X.b d_X_kindFor_50 rfl (lv_at hl 3 rfl) ?_
            refine q_getr X hW qj3 rfl _ ds_X 0 (by decide) mw_183 rfl (c1 := cB 0) rfl d_X_kindFor_51 ?_
            refine q_cvv X (c_Cm_become l E 2 0 (by decide) (by decide) (by decide) (qr S 2 ν) ν ρ (by rw [qr_at]) (by rw [qr_ne (by omega), hρ]) hwf) hW (q_recv X hW (ds_cm (k := 2) (by decide)) rfl) ok_Cm_become mw_371 ⟨by decide, by decide⟩ (As := [.ref (eA E (cB 0))]) rfl rfl (Nat.le_of_ble_eq_true rfl) (lv := [(5, .int (nI j)), (4, .int a), (3, .int (nI b)), (0, .ref (eA E 0)), (1, .int (nI t)), (2, .int (nI n))]) hl ⟨Nat.le_refl 0, Nat.le_refl 0⟩ d_X_kindFor_54 (fun H locs hW => ?_)
            have hW : qWH E (qr S 2 (becS ν ρ)) s H locs := (by have h := hW; rw [qr_qr] at h; exact h)
            refine lv_aload_n X.x X.b d_X_kindFor_57 rfl (lv_at hl 3 rfl) ?_
            refine q_getr X hW qj3 rfl _ ds_X 2 (by decide) mw_185 rfl (c1 := cB 2) rfl d_X_kindFor_58 ?_
            refine q_getr X hW qj0 rfl _ (ds_cm (k := 2) (by decide)) 1 (by decide) mw_103 rfl (c1 := cB 2 + 2) rfl d_X_kindFor_61 ?_
            refine lv_iload_n X.x X.b d_X_kindFor_64 rfl (lv_at hl 4 rfl) ?_
            refine g_th (show 2 < 3 by decide) X hW (show t < 8 by omega) d_X_kindFor_65 ?_
            refine lv_iconst (v := nI 0) X.x X.b d_X_kindFor_66 (by decide) ?_
            refine lv_iload X.x X.b d_X_kindFor_67 (lv_at hl 0 rfl) ?_
            refine g_ast X hW (ds_t (t := t) (k := 2) (by decide) (by omega)) (q_in (by omega) (by decide)) (p0 := 20 + 3 * t) (q_tn (by omega) (by omega)) (ρ := becS ν ρ) (by rw [qr_at]) d_X_kindFor_69 (fun H locs hW => ?_)
            obtain ⟨r69, er69⟩ : ∃ z, z = upd (becS ν ρ) (20 + 3 * t) (nI j) := ⟨_, rfl⟩
            rw [← er69] at hW
            rw [qr_qr] at hW
            have hw69 : WF r69 := by rw [er69]; exact WF_tk (becS_wf hwf) (by omega) (by omega)
            refine lv_aload_n X.x X.b d_X_kindFor_70 rfl (lv_at hl 3 rfl) ?_
            refine lv_iload_n X.x X.b d_X_kindFor_71 rfl (lv_at hl 5 rfl) ?_
            refine q_cvv X (c_X_tryDays l E (qr S 2 r69) r69 (by rw [qr_at]) hw69 n (by omega)) hW (q_recv X hW ds_X rfl) ok_X_tryDays mw_378 ⟨by decide, by decide⟩ (As := [.int (nI n)]) rfl rfl (Nat.le_of_ble_eq_true rfl) (lv := [(5, .int (nI j)), (4, .int a), (3, .int (nI b)), (0, .ref (eA E 0)), (1, .int (nI t)), (2, .int (nI n))]) hl ⟨Nat.le_refl 0, Nat.le_refl 0⟩ d_X_kindFor_72 (fun H locs hW => ?_)
            have hW : qWH E (qr S 2 (daysS n r69)) s H locs := (by have h := hW; rw [qr_qr] at h; exact h)
            refine lv_aload_n X.x X.b d_X_kindFor_75 rfl (lv_at hl 3 rfl) ?_
            refine q_getr X hW qj3 rfl _ ds_X 2 (by decide) mw_185 rfl (c1 := cB 2) rfl d_X_kindFor_76 ?_
            refine q_getr X hW qj0 rfl _ (ds_cm (k := 2) (by decide)) 1 (by decide) mw_103 rfl (c1 := cB 2 + 2) rfl d_X_kindFor_79 ?_
            refine lv_iload_n X.x X.b d_X_kindFor_82 rfl (lv_at hl 4 rfl) ?_
            refine g_th (show 2 < 3 by decide) X hW (show t < 8 by omega) d_X_kindFor_83 ?_
            refine lv_iconst (v := nI 2) X.x X.b d_X_kindFor_84 (by decide) ?_
            refine g_ald X hW (ds_t (t := t) (k := 2) (by decide) (by omega)) (q_in (by omega) (by decide)) (p0 := 20 + 3 * t + 2) (q_tn (by omega) (by omega)) (v := (daysS n r69) (20 + 3 * t + 2)) (by rw [qr_at]) d_X_kindFor_85 ?_
            rw [show daysS n r69 (20 + 3 * t + 2) = metS ρ t (nI j) n from by rw [er69]; exact metS_e (becS_e hwf) (WF_tk hwf (by omega) (by omega)) ht n]
            refine lv_istore (lv' := [(6, .int (metS ρ t (nI j) n)), (5, .int (nI j)), (4, .int a), (3, .int (nI b)), (0, .ref (eA E 0)), (1, .int (nI t)), (2, .int (nI n))]) X.x X.b d_X_kindFor_86 hl (by decide) rfl (fun ls hl => ?_)
            refine lv_iload X.x X.b d_X_kindFor_88 (lv_at hl 0 rfl) ?_
            refine lv_iload X.x X.b d_X_kindFor_90 (lv_at hl 2 rfl) ?_
            refine lv_icmp_le (tgt := 102) X.x X.b d_X_kindFor_92 (by decide) (fun c92 => ?_) (fun c92 => ?_)
            · refine lv_iinc (v := nI (j + 1)) (lv' := [(5, .int (nI (j + 1))), (6, .int (metS ρ t (nI j) n)), (4, .int a), (3, .int (nI b)), (0, .ref (eA E 0)), (1, .int (nI t)), (2, .int (nI n))]) X.x X.b d_X_kindFor_102 hl (k := 1) rfl (by rw [show Int32.ofInt 1 = nI 1 from by decide, nI_add]) (by decide) rfl (fun ls hl => ?_)
              refine lv_goto (tgt := 36) X.x X.b d_X_kindFor_105 (by decide) ?_
              exact ih36 (j + 1) b a (daysS n r69) (by omega) (by unfold bst; rw [← hb]; first | exact (if_pos (Int32.not_le.mp c92)).symm | exact (if_neg (Int32.not_lt.mpr c92)).symm) (dF hw69 n) (by omega) _ _ _ hW (lv_sub hl [0, 2, 3, 4, 5, 6] rfl)
            · refine lv_iload X.x X.b d_X_kindFor_95 (lv_at hl 1 rfl) ?_
              refine lv_istore_n (lv' := [(3, .int (nI j)), (6, .int (metS ρ t (nI j) n)), (5, .int (nI j)), (4, .int a), (0, .ref (eA E 0)), (1, .int (nI t)), (2, .int (nI n))]) X.x X.b d_X_kindFor_97 rfl hl (by decide) rfl (fun ls hl => ?_)
              refine lv_iload X.x X.b d_X_kindFor_98 (lv_at hl 1 rfl) ?_
              refine lv_istore (lv' := [(4, .int (metS ρ t (nI j) n)), (3, .int (nI j)), (6, .int (metS ρ t (nI j) n)), (5, .int (nI j)), (0, .ref (eA E 0)), (1, .int (nI t)), (2, .int (nI n))]) X.x X.b d_X_kindFor_100 hl (by decide) rfl (fun ls hl => ?_)
              refine lv_iinc (v := nI (j + 1)) (lv' := [(5, .int (nI (j + 1))), (4, .int (metS ρ t (nI j) n)), (3, .int (nI j)), (6, .int (metS ρ t (nI j) n)), (0, .ref (eA E 0)), (1, .int (nI t)), (2, .int (nI n))]) X.x X.b d_X_kindFor_102 hl (k := 3) rfl (by rw [show Int32.ofInt 1 = nI 1 from by decide, nI_add]) (by decide) rfl (fun ls hl => ?_)
              refine lv_goto (tgt := 36) X.x X.b d_X_kindFor_105 (by decide) ?_
              exact ih36 (j + 1) j (metS ρ t (nI j) n) (daysS n r69) (by omega) (by unfold bst; rw [← hb]; first | exact (if_pos (Int32.not_le.mp c92)).symm | exact (if_neg (Int32.not_lt.mpr c92)).symm) (dF hw69 n) (by omega) _ _ _ hW (lv_sub hl [0, 1, 2, 4, 5, 6] rfl)
      exact loop36 (7 - 0 + 1) 0 0 (-1) τ (by omega) rfl hτw (Nat.lt_succ_self _) _ _ _ hW (lv_sub hl [0, 1, 2, 3, 4, 5] rfl)
    · have c18 := b2i_e c18
      have c18 := mt (inR_i (by omega) (by decide)).mpr c18
      omega
set_option maxHeartbeats 1000000 in
set_option maxRecDepth 20000 in
theorem c_X_kindFor_b (l : Launch) (E : QE) (S : QM) (ρ φ : Nat → Int32) (hρ : S 0 = ρ) (hφ : S 14 = φ) (hwf : WF ρ) (x y : Int32) (h : ¬ (isT ρ x ∧ inR 0 40 y)) : qCI E l y_X_kindFor prog_1_method_21_code 7 .int 3 [.ref (eA E 0), .int x, .int y] S (-1000001) (qr S 14 (fnS φ 0)) := by
  refine qCI_of (by decide) (Nat.le_of_ble_eq_true rfl) (fun p e s m below meth c ls X hW hl => ?_)
  have hl : lv_has ls 7 [(0, .ref (eA E 0)), (1, .int x), (2, .int y)] := hl
  have htl := hwf.tl
  have hwl := hwf.wl
  have hdl := hwf.dl
  refine lv_aload_n X.x X.b d_X_kindFor_0 rfl (lv_at hl 0 rfl) ?_
  refine q_getr X hW qj3 rfl _ ds_X 0 (by decide) mw_183 rfl (c1 := cB 0) rfl d_X_kindFor_1 ?_
  refine lv_iload_n X.x X.b d_X_kindFor_4 rfl (lv_at hl 1 rfl) ?_
  refine q_cvi X (c_Cm_hasThing l E 0 (by decide) S ρ (by rw [hρ]) hwf x) hW (q_recv X hW (ds_cm (k := 0) (by decide)) rfl) ok_Cm_hasThing mw_244 ⟨by decide, by decide⟩ (As := [.int x]) rfl rfl (Nat.le_of_ble_eq_true rfl) (lv := [(0, .ref (eA E 0)), (1, .int x), (2, .int y)]) hl ⟨Nat.le_refl 0, Nat.le_refl 0⟩ d_X_kindFor_5 (fun H locs hW => ?_)
  refine lv_if_eq (tgt := 21) X.x X.b d_X_kindFor_8 (by decide) (fun c8 => ?_) (fun c8 => ?_)
  · have c8 := b2i_e c8
    refine lv_aload_n X.x X.b d_X_kindFor_21 rfl (lv_at hl 0 rfl) ?_
    refine lv_ldc (v := (-1000001)) X.x X.b X.ow (X.ts _ mw_212) d_X_kindFor_22 ?_
    refine q_cvi X (c_X_told_0 l E S φ (by rw [hφ])) hW (q_recv X hW ds_X rfl) ok_X_told mw_213 ⟨by decide, by decide⟩ (As := [.int (-1000001)]) rfl rfl (Nat.le_of_ble_eq_true rfl) (lv := [(0, .ref (eA E 0)), (1, .int x), (2, .int y)]) hl ⟨Nat.le_refl 0, Nat.le_refl 0⟩ d_X_kindFor_24 (fun H locs hW => ?_)
    have hW : qWH E (qr S 14 (fnS φ 0)) s H locs := hW
    exact q_zret X rfl hW ⟨rfl, rfl⟩ d_X_kindFor_27
  · have c8 := b2i_n c8
    refine lv_iload_n X.x X.b d_X_kindFor_11 rfl (lv_at hl 2 rfl) ?_
    refine lv_iconst (v := nI 0) X.x X.b d_X_kindFor_12 (by decide) ?_
    refine lv_bipush (v := nI 40) X.x X.b d_X_kindFor_13 (by decide) ?_
    refine q_csi X (c_X_within l E S y (nI 0) (nI 40)) hW ok_X_within mw_209 ⟨by decide, by decide⟩ (As := [.int y, .int (nI 0), .int (nI 40)]) rfl rfl (Nat.le_of_ble_eq_true rfl) (lv := [(0, .ref (eA E 0)), (1, .int x), (2, .int y)]) hl ⟨Nat.le_refl 0, Nat.le_refl 0⟩ d_X_kindFor_15 (fun H locs hW => ?_)
    refine lv_if_ne (tgt := 28) X.x X.b d_X_kindFor_18 (by decide) (fun c18 => ?_) (fun c18 => ?_)
    · have c18 := b2i_n c18
      exact absurd ⟨c8, c18⟩ h
    · have c18 := b2i_e c18
      refine lv_aload_n X.x X.b d_X_kindFor_21 rfl (lv_at hl 0 rfl) ?_
      refine lv_ldc (v := (-1000001)) X.x X.b X.ow (X.ts _ mw_212) d_X_kindFor_22 ?_
      refine q_cvi X (c_X_told_0 l E S φ (by rw [hφ])) hW (q_recv X hW ds_X rfl) ok_X_told mw_213 ⟨by decide, by decide⟩ (As := [.int (-1000001)]) rfl rfl (Nat.le_of_ble_eq_true rfl) (lv := [(0, .ref (eA E 0)), (1, .int x), (2, .int y)]) hl ⟨Nat.le_refl 0, Nat.le_refl 0⟩ d_X_kindFor_24 (fun H locs hW => ?_)
      have hW : qWH E (qr S 14 (fnS φ 0)) s H locs := hW
      exact q_zret X rfl hW ⟨rfl, rfl⟩ d_X_kindFor_27
set_option maxHeartbeats 1000000 in
set_option maxRecDepth 20000 in
theorem c_X_paceFor_g (l : Launch) (E : QE) (S : QM) (ρ φ τ : Nat → Int32) (hρ : S 0 = ρ) (hφ : S 14 = φ) (hτ : S 2 = τ) (hwf : WF ρ) (w n : Nat) (hw : w < nW ρ) (hn : n ≤ 40) (hτw : WF τ) (hF : (lst (fun v => ρ (44 + 6 * w + 4) < gotS ρ w 2 (nI v) n) 5 1) < 6) : qCPi E l y_X_paceFor prog_1_method_22_code 5 .int 6 [.ref (eA E 0), .int (nI w), .int (nI n)] S (nI (lst (fun v => ρ (44 + 6 * w + 4) < gotS ρ w 2 (nI v) n) 5 1)) (any S 2 WF) := by
  refine qCPi_of (by decide) (Nat.le_of_ble_eq_true rfl) (fun p e s m below meth c ls X hW hl => ?_)
  have hl : lv_has ls 5 [(0, .ref (eA E 0)), (1, .int (nI w)), (2, .int (nI n))] := hl
  have htl := hwf.tl
  have hwl := hwf.wl
  have hdl := hwf.dl
  have hbw : WF (becS τ ρ) := becS_wf hwf
  have hbe : eqv (becS τ ρ) ρ := becS_e hwf
  refine lv_aload_n X.x X.b d_X_paceFor_0 rfl (lv_at hl 0 rfl) ?_
  refine q_getr X hW qj3 rfl _ ds_X 0 (by decide) mw_183 rfl (c1 := cB 0) rfl d_X_paceFor_1 ?_
  refine lv_iload_n X.x X.b d_X_paceFor_4 rfl (lv_at hl 1 rfl) ?_
  refine q_cvi X (c_Cm_hasWalker l E 0 (by decide) S ρ (by rw [hρ]) hwf (nI w)) hW (q_recv X hW (ds_cm (k := 0) (by decide)) rfl) ok_Cm_hasWalker mw_265 ⟨by decide, by decide⟩ (As := [.int (nI w)]) rfl rfl (Nat.le_of_ble_eq_true rfl) (lv := [(0, .ref (eA E 0)), (1, .int (nI w)), (2, .int (nI n))]) hl ⟨Nat.le_refl 0, Nat.le_refl 0⟩ d_X_paceFor_5 (fun H locs hW => ?_)
  refine lv_if_eq (tgt := 21) X.x X.b d_X_paceFor_8 (by decide) (fun c8 => ?_) (fun c8 => ?_)
  · have c8 := b2i_e c8
    have c8 := mt (isW_i hwf (by omega)).mpr c8
    omega
  · have c8 := b2i_n c8
    have c8 := (isW_i hwf (by omega)).mp c8
    refine lv_iload_n X.x X.b d_X_paceFor_11 rfl (lv_at hl 2 rfl) ?_
    refine lv_iconst (v := nI 0) X.x X.b d_X_paceFor_12 (by decide) ?_
    refine lv_bipush (v := nI 40) X.x X.b d_X_paceFor_13 (by decide) ?_
    refine q_csi X (c_X_within l E S (nI n) (nI 0) (nI 40)) hW ok_X_within mw_209 ⟨by decide, by decide⟩ (As := [.int (nI n), .int (nI 0), .int (nI 40)]) rfl rfl (Nat.le_of_ble_eq_true rfl) (lv := [(0, .ref (eA E 0)), (1, .int (nI w)), (2, .int (nI n))]) hl ⟨Nat.le_refl 0, Nat.le_refl 0⟩ d_X_paceFor_15 (fun H locs hW => ?_)
    refine lv_if_ne (tgt := 28) X.x X.b d_X_paceFor_18 (by decide) (fun c18 => ?_) (fun c18 => ?_)
    · have c18 := b2i_n c18
      have c18 := (inR_i (by omega) (by decide)).mp c18
      refine lv_aload_n X.x X.b d_X_paceFor_28 rfl (lv_at hl 0 rfl) ?_
      refine q_getr X hW qj3 rfl _ ds_X 0 (by decide) mw_183 rfl (c1 := cB 0) rfl d_X_paceFor_29 ?_
      refine q_getr X hW qj0 rfl _ (ds_cm (k := 0) (by decide)) 2 (by decide) mw_106 rfl (c1 := cB 0 + 3) rfl d_X_paceFor_32 ?_
      refine lv_iload_n X.x X.b d_X_paceFor_35 rfl (lv_at hl 1 rfl) ?_
      refine g_wk (show 0 < 3 by decide) X hW (show w < 6 by omega) d_X_paceFor_36 ?_
      refine lv_iconst (v := nI 4) X.x X.b d_X_paceFor_37 (by decide) ?_
      refine g_ald X hW (ds_w (w := w) (k := 0) (by decide) (by omega)) (q_in (by omega) (by decide)) (p0 := 44 + 6 * w + 4) (q_tn (by omega) (by omega)) (v := ρ (44 + 6 * w + 4)) (by rw [hρ]) d_X_paceFor_38 ?_
      refine lv_istore_n (lv' := [(3, .int (ρ (44 + 6 * w + 4))), (0, .ref (eA E 0)), (1, .int (nI w)), (2, .int (nI n))]) X.x X.b d_X_paceFor_39 rfl hl (by decide) rfl (fun ls hl => ?_)
      refine q_gets X hW X.Z.2.1 mw_273 d_X_paceFor_40 ?_
      refine lv_iconst (v := nI 2) X.x X.b d_X_paceFor_43 (by decide) ?_
      refine g_zald X hW X.Z.2.1 (q_in (show 2 < 6 by omega) (by decide)) (q_tn (by omega) (Nat.zero_add _)) d_X_paceFor_44 ?_
      rw [show zt1.getD 2 0 = nI 1 from by decide]
      refine lv_istore (lv' := [(4, .int (nI 1)), (3, .int (ρ (44 + 6 * w + 4))), (0, .ref (eA E 0)), (1, .int (nI w)), (2, .int (nI n))]) X.x X.b d_X_paceFor_45 hl (by decide) rfl (fun ls hl => ?_)
      have hW : qWH E (qr S 2 τ) s H locs := by rw [← hτ, qr_self]; exact hW
      have loop47 : ∀ (fu47 : Nat) (j : Nat) (ν : Nat → Int32), 1 ≤ j → j ≤ 6 → lst (fun v => ρ (44 + 6 * w + 4) < gotS ρ w 2 (nI v) n) (6 - j) j = (lst (fun v => ρ (44 + 6 * w + 4) < gotS ρ w 2 (nI v) n) 5 1) → WF ν → 6 - j < fu47 → ∀ (H : Heap) (locs : List Loc) (ls : Array Slot), qWH E (qr S 2 ν) s H locs → lv_has ls 5 [(4, .int (nI j)), (3, .int (ρ (44 + 6 * w + 4))), (0, .ref (eA E 0)), (1, .int (nI w)), (2, .int (nI n))] → W p l e (qRm 6) s m ([.ref (eA E 0), .int (nI w), .int (nI n)] : List Value).toArray below meth c H locs 0 0 (MQ below (qQpi E (nI (lst (fun v => ρ (44 + 6 * w + 4) < gotS ρ w 2 (nI v) n) 5 1)) (any S 2 WF) s.heap.size) ([.ref (eA E 0), .int (nI w), .int (nI n)] : List Value).toArray s 0 0 (qAA E s.heap.size)) (F0 m 47 ls []) := by
        intro fu47
        induction fu47 with
        | zero =>
          intro j ν hj1 hj hL hν hfu
          exact absurd hfu (Nat.not_lt_zero _)
        | succ fu47 ih47 =>
          intro j ν hj1 hj hL hν hfu H locs ls hW hl
          refine lv_iload X.x X.b d_X_paceFor_47 (lv_at hl 0 rfl) ?_
          refine q_gets X hW X.Z.2.2.1 mw_275 d_X_paceFor_49 ?_
          refine lv_iconst (v := nI 2) X.x X.b d_X_paceFor_52 (by decide) ?_
          refine g_zald X hW X.Z.2.2.1 (q_in (show 2 < 6 by omega) (by decide)) (q_tn (by omega) (Nat.zero_add _)) d_X_paceFor_53 ?_
          rw [show zt2.getD 2 0 = nI 5 from by decide]
          refine lv_icmp_gt (tgt := 79) X.x X.b d_X_paceFor_54 (by decide) (fun c54 => ?_) (fun c54 => ?_)
          · have c54 : 5 < j := (nI_ltI (a := 5) (b := j) (by omega) (by omega)).mp c54
            exfalso
            rw [show 6 - j = 0 by omega, lst] at hL
            omega
          · have c54 : ¬ 5 < j := fun z => c54 ((nI_ltI (a := 5) (b := j) (by omega) (by omega)).mpr z)
            refine lv_aload_n X.x X.b d_X_paceFor_57 rfl (lv_at hl 2 rfl) ?_
            refine lv_iload_n X.x X.b d_X_paceFor_58 rfl (lv_at hl 3 rfl) ?_
            refine lv_iconst (v := nI 2) X.x X.b d_X_paceFor_59 (by decide) ?_
            refine lv_iload X.x X.b d_X_paceFor_60 (lv_at hl 0 rfl) ?_
            refine lv_iload_n X.x X.b d_X_paceFor_62 rfl (lv_at hl 4 rfl) ?_
            refine q_cvip X (c_X_gotWith l E (qr S 2 ν) ρ φ ν (by rw [qr_ne (by omega), hρ]) (by rw [qr_ne (by omega), hφ]) (by rw [qr_at]) hwf w 2 (nI j) n (by omega) (by omega) (by omega) (WF_wp hwf (by omega) (by omega) (by omega))) hW (q_recv X hW ds_X rfl) ok_X_gotWith mw_407 ⟨by decide, by decide⟩ (As := [.int (nI w), .int (nI 2), .int (nI j), .int (nI n)]) rfl rfl (Nat.le_of_ble_eq_true rfl) (lv := [(4, .int (nI j)), (3, .int (ρ (44 + 6 * w + 4))), (0, .ref (eA E 0)), (1, .int (nI w)), (2, .int (nI n))]) hl ⟨Nat.le_refl 0, Nat.le_refl 0⟩ d_X_paceFor_63 (fun H locs Sq63 hP63 hW => ?_)
            obtain ⟨τ63, hτ63, rfl⟩ := hP63
            have hW : qWH E (qr S 2 τ63) s H locs := (by have h := hW; rw [qr_qr] at h; exact h)
            refine lv_iload_n X.x X.b d_X_paceFor_66 rfl (lv_at hl 1 rfl) ?_
            refine lv_icmp_le (tgt := 73) X.x X.b d_X_paceFor_67 (by decide) (fun c67 => ?_) (fun c67 => ?_)
            · refine lv_iinc (v := nI (j + 1)) (lv' := [(4, .int (nI (j + 1))), (3, .int (ρ (44 + 6 * w + 4))), (0, .ref (eA E 0)), (1, .int (nI w)), (2, .int (nI n))]) X.x X.b d_X_paceFor_73 hl (k := 0) rfl (by rw [show Int32.ofInt 1 = nI 1 from by decide, nI_add]) (by decide) rfl (fun ls hl => ?_)
              refine lv_goto (tgt := 47) X.x X.b d_X_paceFor_76 (by decide) ?_
              exact ih47 (j + 1) τ63 (by omega) (by omega) (by rw [← hL, show 6 - j = (6 - (j + 1)) + 1 by omega, lst, if_neg (Int32.not_lt.mpr c67)]) hτ63 (by omega) _ _ _ hW (lv_sub hl [0, 1, 2, 3, 4] rfl)
            · refine lv_iload X.x X.b d_X_paceFor_70 (lv_at hl 0 rfl) ?_
              exact q_pzret X rfl hW ⟨congrArg nI (show j = (lst (fun v => ρ (44 + 6 * w + 4) < gotS ρ w 2 (nI v) n) 5 1) from (show (lst (fun v => ρ (44 + 6 * w + 4) < gotS ρ w 2 (nI v) n) 5 1) = j from (by rw [← hL, show 6 - j = (5 - j) + 1 by omega, lst, if_pos (Int32.not_le.mp c67)])).symm), ⟨_, hτ63, rfl⟩⟩ d_X_paceFor_72
      exact loop47 (6 - 1 + 1) 1 τ (by omega) (by omega) rfl hτw (Nat.lt_succ_self _) _ _ _ hW (lv_sub hl [0, 1, 2, 3, 4] rfl)
    · have c18 := b2i_e c18
      have c18 := mt (inR_i (by omega) (by decide)).mpr c18
      omega
set_option maxHeartbeats 1000000 in
set_option maxRecDepth 20000 in
theorem c_X_paceFor_n (l : Launch) (E : QE) (S : QM) (ρ φ τ : Nat → Int32) (hρ : S 0 = ρ) (hφ : S 14 = φ) (hτ : S 2 = τ) (hwf : WF ρ) (w n : Nat) (hw : w < nW ρ) (hn : n ≤ 40) (hτw : WF τ) (hF : ¬ (lst (fun v => ρ (44 + 6 * w + 4) < gotS ρ w 2 (nI v) n) 5 1) < 6) : qCPi E l y_X_paceFor prog_1_method_22_code 5 .int 6 [.ref (eA E 0), .int (nI w), .int (nI n)] S (-1000004) (any (qr S 14 (fnS φ 3)) 2 WF) := by
  refine qCPi_of (by decide) (Nat.le_of_ble_eq_true rfl) (fun p e s m below meth c ls X hW hl => ?_)
  have hl : lv_has ls 5 [(0, .ref (eA E 0)), (1, .int (nI w)), (2, .int (nI n))] := hl
  have htl := hwf.tl
  have hwl := hwf.wl
  have hdl := hwf.dl
  have hbw : WF (becS τ ρ) := becS_wf hwf
  have hbe : eqv (becS τ ρ) ρ := becS_e hwf
  refine lv_aload_n X.x X.b d_X_paceFor_0 rfl (lv_at hl 0 rfl) ?_
  refine q_getr X hW qj3 rfl _ ds_X 0 (by decide) mw_183 rfl (c1 := cB 0) rfl d_X_paceFor_1 ?_
  refine lv_iload_n X.x X.b d_X_paceFor_4 rfl (lv_at hl 1 rfl) ?_
  refine q_cvi X (c_Cm_hasWalker l E 0 (by decide) S ρ (by rw [hρ]) hwf (nI w)) hW (q_recv X hW (ds_cm (k := 0) (by decide)) rfl) ok_Cm_hasWalker mw_265 ⟨by decide, by decide⟩ (As := [.int (nI w)]) rfl rfl (Nat.le_of_ble_eq_true rfl) (lv := [(0, .ref (eA E 0)), (1, .int (nI w)), (2, .int (nI n))]) hl ⟨Nat.le_refl 0, Nat.le_refl 0⟩ d_X_paceFor_5 (fun H locs hW => ?_)
  refine lv_if_eq (tgt := 21) X.x X.b d_X_paceFor_8 (by decide) (fun c8 => ?_) (fun c8 => ?_)
  · have c8 := b2i_e c8
    have c8 := mt (isW_i hwf (by omega)).mpr c8
    omega
  · have c8 := b2i_n c8
    have c8 := (isW_i hwf (by omega)).mp c8
    refine lv_iload_n X.x X.b d_X_paceFor_11 rfl (lv_at hl 2 rfl) ?_
    refine lv_iconst (v := nI 0) X.x X.b d_X_paceFor_12 (by decide) ?_
    refine lv_bipush (v := nI 40) X.x X.b d_X_paceFor_13 (by decide) ?_
    refine q_csi X (c_X_within l E S (nI n) (nI 0) (nI 40)) hW ok_X_within mw_209 ⟨by decide, by decide⟩ (As := [.int (nI n), .int (nI 0), .int (nI 40)]) rfl rfl (Nat.le_of_ble_eq_true rfl) (lv := [(0, .ref (eA E 0)), (1, .int (nI w)), (2, .int (nI n))]) hl ⟨Nat.le_refl 0, Nat.le_refl 0⟩ d_X_paceFor_15 (fun H locs hW => ?_)
    refine lv_if_ne (tgt := 28) X.x X.b d_X_paceFor_18 (by decide) (fun c18 => ?_) (fun c18 => ?_)
    · have c18 := b2i_n c18
      have c18 := (inR_i (by omega) (by decide)).mp c18
      refine lv_aload_n X.x X.b d_X_paceFor_28 rfl (lv_at hl 0 rfl) ?_
      refine q_getr X hW qj3 rfl _ ds_X 0 (by decide) mw_183 rfl (c1 := cB 0) rfl d_X_paceFor_29 ?_
      refine q_getr X hW qj0 rfl _ (ds_cm (k := 0) (by decide)) 2 (by decide) mw_106 rfl (c1 := cB 0 + 3) rfl d_X_paceFor_32 ?_
      refine lv_iload_n X.x X.b d_X_paceFor_35 rfl (lv_at hl 1 rfl) ?_
      refine g_wk (show 0 < 3 by decide) X hW (show w < 6 by omega) d_X_paceFor_36 ?_
      refine lv_iconst (v := nI 4) X.x X.b d_X_paceFor_37 (by decide) ?_
      refine g_ald X hW (ds_w (w := w) (k := 0) (by decide) (by omega)) (q_in (by omega) (by decide)) (p0 := 44 + 6 * w + 4) (q_tn (by omega) (by omega)) (v := ρ (44 + 6 * w + 4)) (by rw [hρ]) d_X_paceFor_38 ?_
      refine lv_istore_n (lv' := [(3, .int (ρ (44 + 6 * w + 4))), (0, .ref (eA E 0)), (1, .int (nI w)), (2, .int (nI n))]) X.x X.b d_X_paceFor_39 rfl hl (by decide) rfl (fun ls hl => ?_)
      refine q_gets X hW X.Z.2.1 mw_273 d_X_paceFor_40 ?_
      refine lv_iconst (v := nI 2) X.x X.b d_X_paceFor_43 (by decide) ?_
      refine g_zald X hW X.Z.2.1 (q_in (show 2 < 6 by omega) (by decide)) (q_tn (by omega) (Nat.zero_add _)) d_X_paceFor_44 ?_
      rw [show zt1.getD 2 0 = nI 1 from by decide]
      refine lv_istore (lv' := [(4, .int (nI 1)), (3, .int (ρ (44 + 6 * w + 4))), (0, .ref (eA E 0)), (1, .int (nI w)), (2, .int (nI n))]) X.x X.b d_X_paceFor_45 hl (by decide) rfl (fun ls hl => ?_)
      have hW : qWH E (qr S 2 τ) s H locs := by rw [← hτ, qr_self]; exact hW
      have loop47 : ∀ (fu47 : Nat) (j : Nat) (ν : Nat → Int32), 1 ≤ j → j ≤ 6 → lst (fun v => ρ (44 + 6 * w + 4) < gotS ρ w 2 (nI v) n) (6 - j) j = (lst (fun v => ρ (44 + 6 * w + 4) < gotS ρ w 2 (nI v) n) 5 1) → WF ν → 6 - j < fu47 → ∀ (H : Heap) (locs : List Loc) (ls : Array Slot), qWH E (qr S 2 ν) s H locs → lv_has ls 5 [(4, .int (nI j)), (3, .int (ρ (44 + 6 * w + 4))), (0, .ref (eA E 0)), (1, .int (nI w)), (2, .int (nI n))] → W p l e (qRm 6) s m ([.ref (eA E 0), .int (nI w), .int (nI n)] : List Value).toArray below meth c H locs 0 0 (MQ below (qQpi E (-1000004) (any (qr S 14 (fnS φ 3)) 2 WF) s.heap.size) ([.ref (eA E 0), .int (nI w), .int (nI n)] : List Value).toArray s 0 0 (qAA E s.heap.size)) (F0 m 47 ls []) := by
        intro fu47
        induction fu47 with
        | zero =>
          intro j ν hj1 hj hL hν hfu
          exact absurd hfu (Nat.not_lt_zero _)
        | succ fu47 ih47 =>
          intro j ν hj1 hj hL hν hfu H locs ls hW hl
          refine lv_iload X.x X.b d_X_paceFor_47 (lv_at hl 0 rfl) ?_
          refine q_gets X hW X.Z.2.2.1 mw_275 d_X_paceFor_49 ?_
          refine lv_iconst (v := nI 2) X.x X.b d_X_paceFor_52 (by decide) ?_
          refine g_zald X hW X.Z.2.2.1 (q_in (show 2 < 6 by omega) (by decide)) (q_tn (by omega) (Nat.zero_add _)) d_X_paceFor_53 ?_
          rw [show zt2.getD 2 0 = nI 5 from by decide]
          refine lv_icmp_gt (tgt := 79) X.x X.b d_X_paceFor_54 (by decide) (fun c54 => ?_) (fun c54 => ?_)
          · have c54 : 5 < j := (nI_ltI (a := 5) (b := j) (by omega) (by omega)).mp c54
            refine lv_aload_n X.x X.b d_X_paceFor_79 rfl (lv_at hl 2 rfl) ?_
            refine lv_ldc (v := (-1000004)) X.x X.b X.ow (X.ts _ mw_390) d_X_paceFor_80 ?_
            refine q_cvi X (c_X_told_3 l E (qr S 2 ν) φ (by rw [qr_ne (by omega), hφ])) hW (q_recv X hW ds_X rfl) ok_X_told mw_213 ⟨by decide, by decide⟩ (As := [.int (-1000004)]) rfl rfl (Nat.le_of_ble_eq_true rfl) (lv := [(4, .int (nI j)), (3, .int (ρ (44 + 6 * w + 4))), (0, .ref (eA E 0)), (1, .int (nI w)), (2, .int (nI n))]) hl ⟨Nat.le_refl 0, Nat.le_refl 0⟩ d_X_paceFor_82 (fun H locs hW => ?_)
            have hW : qWH E (qr (qr S 2 ν) 14 (fnS φ 3)) s H locs := hW
            exact q_pzret X rfl hW ⟨rfl, ⟨_, hν, qr_sw (by omega)⟩⟩ d_X_paceFor_85
          · have c54 : ¬ 5 < j := fun z => c54 ((nI_ltI (a := 5) (b := j) (by omega) (by omega)).mpr z)
            refine lv_aload_n X.x X.b d_X_paceFor_57 rfl (lv_at hl 2 rfl) ?_
            refine lv_iload_n X.x X.b d_X_paceFor_58 rfl (lv_at hl 3 rfl) ?_
            refine lv_iconst (v := nI 2) X.x X.b d_X_paceFor_59 (by decide) ?_
            refine lv_iload X.x X.b d_X_paceFor_60 (lv_at hl 0 rfl) ?_
            refine lv_iload_n X.x X.b d_X_paceFor_62 rfl (lv_at hl 4 rfl) ?_
            refine q_cvip X (c_X_gotWith l E (qr S 2 ν) ρ φ ν (by rw [qr_ne (by omega), hρ]) (by rw [qr_ne (by omega), hφ]) (by rw [qr_at]) hwf w 2 (nI j) n (by omega) (by omega) (by omega) (WF_wp hwf (by omega) (by omega) (by omega))) hW (q_recv X hW ds_X rfl) ok_X_gotWith mw_407 ⟨by decide, by decide⟩ (As := [.int (nI w), .int (nI 2), .int (nI j), .int (nI n)]) rfl rfl (Nat.le_of_ble_eq_true rfl) (lv := [(4, .int (nI j)), (3, .int (ρ (44 + 6 * w + 4))), (0, .ref (eA E 0)), (1, .int (nI w)), (2, .int (nI n))]) hl ⟨Nat.le_refl 0, Nat.le_refl 0⟩ d_X_paceFor_63 (fun H locs Sq63 hP63 hW => ?_)
            obtain ⟨τ63, hτ63, rfl⟩ := hP63
            have hW : qWH E (qr S 2 τ63) s H locs := (by have h := hW; rw [qr_qr] at h; exact h)
            refine lv_iload_n X.x X.b d_X_paceFor_66 rfl (lv_at hl 1 rfl) ?_
            refine lv_icmp_le (tgt := 73) X.x X.b d_X_paceFor_67 (by decide) (fun c67 => ?_) (fun c67 => ?_)
            · refine lv_iinc (v := nI (j + 1)) (lv' := [(4, .int (nI (j + 1))), (3, .int (ρ (44 + 6 * w + 4))), (0, .ref (eA E 0)), (1, .int (nI w)), (2, .int (nI n))]) X.x X.b d_X_paceFor_73 hl (k := 0) rfl (by rw [show Int32.ofInt 1 = nI 1 from by decide, nI_add]) (by decide) rfl (fun ls hl => ?_)
              refine lv_goto (tgt := 47) X.x X.b d_X_paceFor_76 (by decide) ?_
              exact ih47 (j + 1) τ63 (by omega) (by omega) (by rw [← hL, show 6 - j = (6 - (j + 1)) + 1 by omega, lst, if_neg (Int32.not_lt.mpr c67)]) hτ63 (by omega) _ _ _ hW (lv_sub hl [0, 1, 2, 3, 4] rfl)
            · refine lv_iload X.x X.b d_X_paceFor_70 (lv_at hl 0 rfl) ?_
              exact absurd (show (lst (fun v => ρ (44 + 6 * w + 4) < gotS ρ w 2 (nI v) n) 5 1) < 6 by rw [show (lst (fun v => ρ (44 + 6 * w + 4) < gotS ρ w 2 (nI v) n) 5 1) = j from (by rw [← hL, show 6 - j = (5 - j) + 1 by omega, lst, if_pos (Int32.not_le.mp c67)])]; omega) hF
      exact loop47 (6 - 1 + 1) 1 τ (by omega) (by omega) rfl hτw (Nat.lt_succ_self _) _ _ _ hW (lv_sub hl [0, 1, 2, 3, 4] rfl)
    · have c18 := b2i_e c18
      have c18 := mt (inR_i (by omega) (by decide)).mpr c18
      omega
set_option maxHeartbeats 1000000 in
set_option maxRecDepth 20000 in
theorem c_X_paceFor_b (l : Launch) (E : QE) (S : QM) (ρ φ : Nat → Int32) (hρ : S 0 = ρ) (hφ : S 14 = φ) (hwf : WF ρ) (x y : Int32) (h : ¬ (isW ρ x ∧ inR 0 40 y)) : qCI E l y_X_paceFor prog_1_method_22_code 5 .int 3 [.ref (eA E 0), .int x, .int y] S (-1000001) (qr S 14 (fnS φ 0)) := by
  refine qCI_of (by decide) (Nat.le_of_ble_eq_true rfl) (fun p e s m below meth c ls X hW hl => ?_)
  have hl : lv_has ls 5 [(0, .ref (eA E 0)), (1, .int x), (2, .int y)] := hl
  have htl := hwf.tl
  have hwl := hwf.wl
  have hdl := hwf.dl
  refine lv_aload_n X.x X.b d_X_paceFor_0 rfl (lv_at hl 0 rfl) ?_
  refine q_getr X hW qj3 rfl _ ds_X 0 (by decide) mw_183 rfl (c1 := cB 0) rfl d_X_paceFor_1 ?_
  refine lv_iload_n X.x X.b d_X_paceFor_4 rfl (lv_at hl 1 rfl) ?_
  refine q_cvi X (c_Cm_hasWalker l E 0 (by decide) S ρ (by rw [hρ]) hwf x) hW (q_recv X hW (ds_cm (k := 0) (by decide)) rfl) ok_Cm_hasWalker mw_265 ⟨by decide, by decide⟩ (As := [.int x]) rfl rfl (Nat.le_of_ble_eq_true rfl) (lv := [(0, .ref (eA E 0)), (1, .int x), (2, .int y)]) hl ⟨Nat.le_refl 0, Nat.le_refl 0⟩ d_X_paceFor_5 (fun H locs hW => ?_)
  refine lv_if_eq (tgt := 21) X.x X.b d_X_paceFor_8 (by decide) (fun c8 => ?_) (fun c8 => ?_)
  · have c8 := b2i_e c8
    refine lv_aload_n X.x X.b d_X_paceFor_21 rfl (lv_at hl 0 rfl) ?_
    refine lv_ldc (v := (-1000001)) X.x X.b X.ow (X.ts _ mw_212) d_X_paceFor_22 ?_
    refine q_cvi X (c_X_told_0 l E S φ (by rw [hφ])) hW (q_recv X hW ds_X rfl) ok_X_told mw_213 ⟨by decide, by decide⟩ (As := [.int (-1000001)]) rfl rfl (Nat.le_of_ble_eq_true rfl) (lv := [(0, .ref (eA E 0)), (1, .int x), (2, .int y)]) hl ⟨Nat.le_refl 0, Nat.le_refl 0⟩ d_X_paceFor_24 (fun H locs hW => ?_)
    have hW : qWH E (qr S 14 (fnS φ 0)) s H locs := hW
    exact q_zret X rfl hW ⟨rfl, rfl⟩ d_X_paceFor_27
  · have c8 := b2i_n c8
    refine lv_iload_n X.x X.b d_X_paceFor_11 rfl (lv_at hl 2 rfl) ?_
    refine lv_iconst (v := nI 0) X.x X.b d_X_paceFor_12 (by decide) ?_
    refine lv_bipush (v := nI 40) X.x X.b d_X_paceFor_13 (by decide) ?_
    refine q_csi X (c_X_within l E S y (nI 0) (nI 40)) hW ok_X_within mw_209 ⟨by decide, by decide⟩ (As := [.int y, .int (nI 0), .int (nI 40)]) rfl rfl (Nat.le_of_ble_eq_true rfl) (lv := [(0, .ref (eA E 0)), (1, .int x), (2, .int y)]) hl ⟨Nat.le_refl 0, Nat.le_refl 0⟩ d_X_paceFor_15 (fun H locs hW => ?_)
    refine lv_if_ne (tgt := 28) X.x X.b d_X_paceFor_18 (by decide) (fun c18 => ?_) (fun c18 => ?_)
    · have c18 := b2i_n c18
      exact absurd ⟨c8, c18⟩ h
    · have c18 := b2i_e c18
      refine lv_aload_n X.x X.b d_X_paceFor_21 rfl (lv_at hl 0 rfl) ?_
      refine lv_ldc (v := (-1000001)) X.x X.b X.ow (X.ts _ mw_212) d_X_paceFor_22 ?_
      refine q_cvi X (c_X_told_0 l E S φ (by rw [hφ])) hW (q_recv X hW ds_X rfl) ok_X_told mw_213 ⟨by decide, by decide⟩ (As := [.int (-1000001)]) rfl rfl (Nat.le_of_ble_eq_true rfl) (lv := [(0, .ref (eA E 0)), (1, .int x), (2, .int y)]) hl ⟨Nat.le_refl 0, Nat.le_refl 0⟩ d_X_paceFor_24 (fun H locs hW => ?_)
      have hW : qWH E (qr S 14 (fnS φ 0)) s H locs := hW
      exact q_zret X rfl hW ⟨rfl, rfl⟩ d_X_paceFor_27
set_option maxHeartbeats 1000000 in
set_option maxRecDepth 20000 in
theorem c_X_giveUp_g (l : Launch) (E : QE) (S : QM) (ρ φ τ : Nat → Int32) (hρ : S 0 = ρ) (hφ : S 14 = φ) (hτ : S 2 = τ) (hwf : WF ρ) (w n : Nat) (hw : w < nW ρ) (hn : n ≤ 20) (hτw : WF τ) (hF : ¬ (gvS (fun v => gotS ρ w 3 v n) (ρ (44 + 6 * w + 4)) (ρ (44 + 6 * w + 3)) 256) < 0) : qCPi E l y_X_giveUp prog_1_method_23_code 9 .int 6 [.ref (eA E 0), .int (nI w), .int (nI n)] S (gvS (fun v => gotS ρ w 3 v n) (ρ (44 + 6 * w + 4)) (ρ (44 + 6 * w + 3)) 256) (any S 2 WF) := by
  refine qCPi_of (by decide) (Nat.le_of_ble_eq_true rfl) (fun p e s m below meth c ls X hW hl => ?_)
  have hl : lv_has ls 9 [(0, .ref (eA E 0)), (1, .int (nI w)), (2, .int (nI n))] := hl
  have htl := hwf.tl
  have hwl := hwf.wl
  have hdl := hwf.dl
  have hbw : WF (becS τ ρ) := becS_wf hwf
  have hbe : eqv (becS τ ρ) ρ := becS_e hwf
  refine lv_aload_n X.x X.b d_X_giveUp_0 rfl (lv_at hl 0 rfl) ?_
  refine q_getr X hW qj3 rfl _ ds_X 0 (by decide) mw_183 rfl (c1 := cB 0) rfl d_X_giveUp_1 ?_
  refine lv_iload_n X.x X.b d_X_giveUp_4 rfl (lv_at hl 1 rfl) ?_
  refine q_cvi X (c_Cm_hasWalker l E 0 (by decide) S ρ (by rw [hρ]) hwf (nI w)) hW (q_recv X hW (ds_cm (k := 0) (by decide)) rfl) ok_Cm_hasWalker mw_265 ⟨by decide, by decide⟩ (As := [.int (nI w)]) rfl rfl (Nat.le_of_ble_eq_true rfl) (lv := [(0, .ref (eA E 0)), (1, .int (nI w)), (2, .int (nI n))]) hl ⟨Nat.le_refl 0, Nat.le_refl 0⟩ d_X_giveUp_5 (fun H locs hW => ?_)
  refine lv_if_eq (tgt := 21) X.x X.b d_X_giveUp_8 (by decide) (fun c8 => ?_) (fun c8 => ?_)
  · have c8 := b2i_e c8
    have c8 := mt (isW_i hwf (by omega)).mpr c8
    omega
  · have c8 := b2i_n c8
    have c8 := (isW_i hwf (by omega)).mp c8
    refine lv_iload_n X.x X.b d_X_giveUp_11 rfl (lv_at hl 2 rfl) ?_
    refine lv_iconst (v := nI 0) X.x X.b d_X_giveUp_12 (by decide) ?_
    refine lv_bipush (v := nI 20) X.x X.b d_X_giveUp_13 (by decide) ?_
    refine q_csi X (c_X_within l E S (nI n) (nI 0) (nI 20)) hW ok_X_within mw_209 ⟨by decide, by decide⟩ (As := [.int (nI n), .int (nI 0), .int (nI 20)]) rfl rfl (Nat.le_of_ble_eq_true rfl) (lv := [(0, .ref (eA E 0)), (1, .int (nI w)), (2, .int (nI n))]) hl ⟨Nat.le_refl 0, Nat.le_refl 0⟩ d_X_giveUp_15 (fun H locs hW => ?_)
    refine lv_if_ne (tgt := 28) X.x X.b d_X_giveUp_18 (by decide) (fun c18 => ?_) (fun c18 => ?_)
    · have c18 := b2i_n c18
      have c18 := (inR_i (by omega) (by decide)).mp c18
      refine lv_aload_n X.x X.b d_X_giveUp_28 rfl (lv_at hl 0 rfl) ?_
      refine q_getr X hW qj3 rfl _ ds_X 0 (by decide) mw_183 rfl (c1 := cB 0) rfl d_X_giveUp_29 ?_
      refine q_getr X hW qj0 rfl _ (ds_cm (k := 0) (by decide)) 2 (by decide) mw_106 rfl (c1 := cB 0 + 3) rfl d_X_giveUp_32 ?_
      refine lv_iload_n X.x X.b d_X_giveUp_35 rfl (lv_at hl 1 rfl) ?_
      refine g_wk (show 0 < 3 by decide) X hW (show w < 6 by omega) d_X_giveUp_36 ?_
      refine lv_iconst (v := nI 4) X.x X.b d_X_giveUp_37 (by decide) ?_
      refine g_ald X hW (ds_w (w := w) (k := 0) (by decide) (by omega)) (q_in (by omega) (by decide)) (p0 := 44 + 6 * w + 4) (q_tn (by omega) (by omega)) (v := ρ (44 + 6 * w + 4)) (by rw [hρ]) d_X_giveUp_38 ?_
      refine lv_istore_n (lv' := [(3, .int (ρ (44 + 6 * w + 4))), (0, .ref (eA E 0)), (1, .int (nI w)), (2, .int (nI n))]) X.x X.b d_X_giveUp_39 rfl hl (by decide) rfl (fun ls hl => ?_)
      refine lv_aload_n X.x X.b d_X_giveUp_40 rfl (lv_at hl 1 rfl) ?_
      refine q_getr X hW qj3 rfl _ ds_X 0 (by decide) mw_183 rfl (c1 := cB 0) rfl d_X_giveUp_41 ?_
      refine q_getr X hW qj0 rfl _ (ds_cm (k := 0) (by decide)) 2 (by decide) mw_106 rfl (c1 := cB 0 + 3) rfl d_X_giveUp_44 ?_
      refine lv_iload_n X.x X.b d_X_giveUp_47 rfl (lv_at hl 2 rfl) ?_
      refine g_wk (show 0 < 3 by decide) X hW (show w < 6 by omega) d_X_giveUp_48 ?_
      refine lv_iconst (v := nI 3) X.x X.b d_X_giveUp_49 (by decide) ?_
      refine g_ald X hW (ds_w (w := w) (k := 0) (by decide) (by omega)) (q_in (by omega) (by decide)) (p0 := 44 + 6 * w + 3) (q_tn (by omega) (by omega)) (v := ρ (44 + 6 * w + 3)) (by rw [hρ]) d_X_giveUp_50 ?_
      refine lv_istore (lv' := [(4, .int (ρ (44 + 6 * w + 3))), (3, .int (ρ (44 + 6 * w + 4))), (0, .ref (eA E 0)), (1, .int (nI w)), (2, .int (nI n))]) X.x X.b d_X_giveUp_51 hl (by decide) rfl (fun ls hl => ?_)
      refine lv_iconst (v := (-1)) X.x X.b d_X_giveUp_53 (by decide) ?_
      refine lv_istore (lv' := [(5, .int (-1)), (4, .int (ρ (44 + 6 * w + 3))), (3, .int (ρ (44 + 6 * w + 4))), (0, .ref (eA E 0)), (1, .int (nI w)), (2, .int (nI n))]) X.x X.b d_X_giveUp_54 hl (by decide) rfl (fun ls hl => ?_)
      refine lv_iconst (v := nI 0) X.x X.b d_X_giveUp_56 (by decide) ?_
      refine lv_istore (lv' := [(6, .int (nI 0)), (5, .int (-1)), (4, .int (ρ (44 + 6 * w + 3))), (3, .int (ρ (44 + 6 * w + 4))), (0, .ref (eA E 0)), (1, .int (nI w)), (2, .int (nI n))]) X.x X.b d_X_giveUp_57 hl (by decide) rfl (fun ls hl => ?_)
      have hW : qWH E (qr S 2 τ) s H locs := by rw [← hτ, qr_self]; exact hW
      have loop59 : ∀ (fu59 : Nat) (j : Nat) (b : Int32) (ν : Nat → Int32), j ≤ 256 → b = gvS (fun v => gotS ρ w 3 v n) (ρ (44 + 6 * w + 4)) (ρ (44 + 6 * w + 3)) j → WF ν → 256 - j < fu59 → ∀ (H : Heap) (locs : List Loc) (ls : Array Slot), qWH E (qr S 2 ν) s H locs → lv_has ls 9 [(6, .int (nI j)), (5, .int b), (4, .int (ρ (44 + 6 * w + 3))), (3, .int (ρ (44 + 6 * w + 4))), (0, .ref (eA E 0)), (1, .int (nI w)), (2, .int (nI n))] → W p l e (qRm 6) s m ([.ref (eA E 0), .int (nI w), .int (nI n)] : List Value).toArray below meth c H locs 0 0 (MQ below (qQpi E (gvS (fun v => gotS ρ w 3 v n) (ρ (44 + 6 * w + 4)) (ρ (44 + 6 * w + 3)) 256) (any S 2 WF) s.heap.size) ([.ref (eA E 0), .int (nI w), .int (nI n)] : List Value).toArray s 0 0 (qAA E s.heap.size)) (F0 m 59 ls []) := by
        intro fu59
        induction fu59 with
        | zero =>
          intro j b ν hj hb hν hfu
          exact absurd hfu (Nat.not_lt_zero _)
        | succ fu59 ih59 =>
          intro j b ν hj hb hν hfu H locs ls hW hl
          refine lv_iload X.x X.b d_X_giveUp_59 (lv_at hl 0 rfl) ?_
          refine lv_sipush (v := nI 255) X.x X.b d_X_giveUp_61 (by decide) ?_
          refine lv_icmp_gt (tgt := 147) X.x X.b d_X_giveUp_64 (by decide) (fun c64 => ?_) (fun c64 => ?_)
          · have c64 : 255 < j := (nI_ltI (a := 255) (b := j) (by omega) (by omega)).mp c64
            refine lv_iload X.x X.b d_X_giveUp_147 (lv_at hl 1 rfl) ?_
            refine lv_if_ge (tgt := 161) X.x X.b d_X_giveUp_149 (by decide) (fun c149 => ?_) (fun c149 => ?_)
            · refine lv_iload X.x X.b d_X_giveUp_161 (lv_at hl 1 rfl) ?_
              exact q_pzret X rfl hW ⟨by rw [hb, show j = 256 by omega], ⟨_, hν, rfl⟩⟩ d_X_giveUp_163
            · exact absurd (show (gvS (fun v => gotS ρ w 3 v n) (ρ (44 + 6 * w + 4)) (ρ (44 + 6 * w + 3)) 256) < 0 by rw [show (gvS (fun v => gotS ρ w 3 v n) (ρ (44 + 6 * w + 4)) (ρ (44 + 6 * w + 3)) 256) = b by rw [hb, show j = 256 by omega]]; exact Int32.not_le.mp c149) hF
          · have c64 : ¬ 255 < j := fun z => c64 ((nI_ltI (a := 255) (b := j) (by omega) (by omega)).mpr z)
            refine lv_iload X.x X.b d_X_giveUp_67 (lv_at hl 0 rfl) ?_
            refine lv_iload X.x X.b d_X_giveUp_69 (lv_at hl 2 rfl) ?_
            refine lv_iconst (v := (-1)) X.x X.b d_X_giveUp_71 (by decide) ?_
            refine lv_ixor X.x X.b d_X_giveUp_72 ?_
            refine lv_iand X.x X.b d_X_giveUp_73 ?_
            refine lv_if_ne (tgt := 81) X.x X.b d_X_giveUp_74 (by decide) (fun c74 => ?_) (fun c74 => ?_)
            · refine lv_iconst (v := nI 0) X.x X.b d_X_giveUp_81 (by decide) ?_
              refine lv_istore (lv' := [(7, .int (nI 0)), (6, .int (nI j)), (5, .int b), (4, .int (ρ (44 + 6 * w + 3))), (3, .int (ρ (44 + 6 * w + 4))), (0, .ref (eA E 0)), (1, .int (nI w)), (2, .int (nI n))]) X.x X.b d_X_giveUp_82 hl (by decide) rfl (fun ls hl => ?_)
              refine lv_iload X.x X.b d_X_giveUp_84 (lv_at hl 2 rfl) ?_
              refine lv_if_lt (tgt := 102) X.x X.b d_X_giveUp_86 (by decide) (fun c86 => ?_) (fun c86 => ?_)
              · refine lv_iconst (v := nI 1) X.x X.b d_X_giveUp_102 (by decide) ?_
                refine lv_goto (tgt := 107) X.x X.b d_X_giveUp_103 (by decide) ?_
                refine lv_istore (lv' := [(8, .int (nI 1)), (7, .int (nI 0)), (6, .int (nI j)), (5, .int b), (4, .int (ρ (44 + 6 * w + 3))), (3, .int (ρ (44 + 6 * w + 4))), (0, .ref (eA E 0)), (1, .int (nI w)), (2, .int (nI n))]) X.x X.b d_X_giveUp_107 hl (by decide) rfl (fun ls hl => ?_)
                refine lv_iload X.x X.b d_X_giveUp_109 (lv_at hl 1 rfl) ?_
                refine lv_if_eq (tgt := 141) X.x X.b d_X_giveUp_111 (by decide) (fun c111 => ?_) (fun c111 => ?_)
                · have c111 : 0 = 0 := (nI_eq (a := 0) (b := 0) (by omega) (by omega)).mp c111
                  refine lv_iinc (v := nI (j + 1)) (lv' := [(6, .int (nI (j + 1))), (8, .int (nI 1)), (7, .int (nI 0)), (5, .int b), (4, .int (ρ (44 + 6 * w + 3))), (3, .int (ρ (44 + 6 * w + 4))), (0, .ref (eA E 0)), (1, .int (nI w)), (2, .int (nI n))]) X.x X.b d_X_giveUp_141 hl (k := 2) rfl (by rw [show Int32.ofInt 1 = nI 1 from by decide, nI_add]) (by decide) rfl (fun ls hl => ?_)
                  refine lv_goto (tgt := 59) X.x X.b d_X_giveUp_144 (by decide) ?_
                  exact ih59 (j + 1) b ν (by omega) (by unfold gvS; rw [fo_succ]; rw [show fo (fun j b => if gvC (fun v => gotS ρ w 3 v n) (ρ (44 + 6 * w + 4)) (ρ (44 + 6 * w + 3)) j b then nI j else b) j (-1) = b from hb.symm]; exact (if_neg (fun z => c74 z.1.1)).symm) hν (by omega) _ _ _ hW (lv_sub hl [0, 3, 4, 5, 6, 7, 8] rfl)
                · exact absurd (by decide) c111
              · refine lv_iload X.x X.b d_X_giveUp_89 (lv_at hl 1 rfl) ?_
                refine q_csi X (c_Ji_bitCount l E (qr S 2 ν) (nI j)) hW ok_Ji_bitCount mw_427 ⟨by decide, by decide⟩ (As := [.int (nI j)]) rfl rfl (Nat.le_of_ble_eq_true rfl) (lv := [(7, .int (nI 0)), (6, .int (nI j)), (5, .int b), (4, .int (ρ (44 + 6 * w + 3))), (3, .int (ρ (44 + 6 * w + 4))), (0, .ref (eA E 0)), (1, .int (nI w)), (2, .int (nI n))]) hl ⟨Nat.le_refl 0, Nat.le_refl 0⟩ d_X_giveUp_91 (fun H locs hW => ?_)
                refine lv_iload X.x X.b d_X_giveUp_94 (lv_at hl 2 rfl) ?_
                refine q_csi X (c_Ji_bitCount l E (qr S 2 ν) b) hW ok_Ji_bitCount mw_427 ⟨by decide, by decide⟩ (As := [.int b]) rfl rfl (Nat.le_of_ble_eq_true rfl) (lv := [(7, .int (nI 0)), (6, .int (nI j)), (5, .int b), (4, .int (ρ (44 + 6 * w + 3))), (3, .int (ρ (44 + 6 * w + 4))), (0, .ref (eA E 0)), (1, .int (nI w)), (2, .int (nI n))]) hl ⟨Nat.le_refl 0, Nat.le_refl 0⟩ d_X_giveUp_96 (fun H locs hW => ?_)
                refine lv_icmp_ge (tgt := 106) X.x X.b d_X_giveUp_99 (by decide) (fun c99 => ?_) (fun c99 => ?_)
                · refine lv_iconst (v := nI 0) X.x X.b d_X_giveUp_106 (by decide) ?_
                  refine lv_istore (lv' := [(8, .int (nI 0)), (7, .int (nI 0)), (6, .int (nI j)), (5, .int b), (4, .int (ρ (44 + 6 * w + 3))), (3, .int (ρ (44 + 6 * w + 4))), (0, .ref (eA E 0)), (1, .int (nI w)), (2, .int (nI n))]) X.x X.b d_X_giveUp_107 hl (by decide) rfl (fun ls hl => ?_)
                  refine lv_iload X.x X.b d_X_giveUp_109 (lv_at hl 1 rfl) ?_
                  refine lv_if_eq (tgt := 141) X.x X.b d_X_giveUp_111 (by decide) (fun c111 => ?_) (fun c111 => ?_)
                  · have c111 : 0 = 0 := (nI_eq (a := 0) (b := 0) (by omega) (by omega)).mp c111
                    refine lv_iinc (v := nI (j + 1)) (lv' := [(6, .int (nI (j + 1))), (8, .int (nI 0)), (7, .int (nI 0)), (5, .int b), (4, .int (ρ (44 + 6 * w + 3))), (3, .int (ρ (44 + 6 * w + 4))), (0, .ref (eA E 0)), (1, .int (nI w)), (2, .int (nI n))]) X.x X.b d_X_giveUp_141 hl (k := 2) rfl (by rw [show Int32.ofInt 1 = nI 1 from by decide, nI_add]) (by decide) rfl (fun ls hl => ?_)
                    refine lv_goto (tgt := 59) X.x X.b d_X_giveUp_144 (by decide) ?_
                    exact ih59 (j + 1) b ν (by omega) (by unfold gvS; rw [fo_succ]; rw [show fo (fun j b => if gvC (fun v => gotS ρ w 3 v n) (ρ (44 + 6 * w + 4)) (ρ (44 + 6 * w + 3)) j b then nI j else b) j (-1) = b from hb.symm]; exact (if_neg (fun z => c74 z.1.1)).symm) hν (by omega) _ _ _ hW (lv_sub hl [0, 3, 4, 5, 6, 7, 8] rfl)
                  · exact absurd (by decide) c111
                · refine lv_iconst (v := nI 1) X.x X.b d_X_giveUp_102 (by decide) ?_
                  refine lv_goto (tgt := 107) X.x X.b d_X_giveUp_103 (by decide) ?_
                  refine lv_istore (lv' := [(8, .int (nI 1)), (7, .int (nI 0)), (6, .int (nI j)), (5, .int b), (4, .int (ρ (44 + 6 * w + 3))), (3, .int (ρ (44 + 6 * w + 4))), (0, .ref (eA E 0)), (1, .int (nI w)), (2, .int (nI n))]) X.x X.b d_X_giveUp_107 hl (by decide) rfl (fun ls hl => ?_)
                  refine lv_iload X.x X.b d_X_giveUp_109 (lv_at hl 1 rfl) ?_
                  refine lv_if_eq (tgt := 141) X.x X.b d_X_giveUp_111 (by decide) (fun c111 => ?_) (fun c111 => ?_)
                  · have c111 : 0 = 0 := (nI_eq (a := 0) (b := 0) (by omega) (by omega)).mp c111
                    refine lv_iinc (v := nI (j + 1)) (lv' := [(6, .int (nI (j + 1))), (8, .int (nI 1)), (7, .int (nI 0)), (5, .int b), (4, .int (ρ (44 + 6 * w + 3))), (3, .int (ρ (44 + 6 * w + 4))), (0, .ref (eA E 0)), (1, .int (nI w)), (2, .int (nI n))]) X.x X.b d_X_giveUp_141 hl (k := 2) rfl (by rw [show Int32.ofInt 1 = nI 1 from by decide, nI_add]) (by decide) rfl (fun ls hl => ?_)
                    refine lv_goto (tgt := 59) X.x X.b d_X_giveUp_144 (by decide) ?_
                    exact ih59 (j + 1) b ν (by omega) (by unfold gvS; rw [fo_succ]; rw [show fo (fun j b => if gvC (fun v => gotS ρ w 3 v n) (ρ (44 + 6 * w + 4)) (ρ (44 + 6 * w + 3)) j b then nI j else b) j (-1) = b from hb.symm]; exact (if_neg (fun z => c74 z.1.1)).symm) hν (by omega) _ _ _ hW (lv_sub hl [0, 3, 4, 5, 6, 7, 8] rfl)
                  · exact absurd (by decide) c111
            · refine lv_iconst (v := nI 1) X.x X.b d_X_giveUp_77 (by decide) ?_
              refine lv_goto (tgt := 82) X.x X.b d_X_giveUp_78 (by decide) ?_
              refine lv_istore (lv' := [(7, .int (nI 1)), (6, .int (nI j)), (5, .int b), (4, .int (ρ (44 + 6 * w + 3))), (3, .int (ρ (44 + 6 * w + 4))), (0, .ref (eA E 0)), (1, .int (nI w)), (2, .int (nI n))]) X.x X.b d_X_giveUp_82 hl (by decide) rfl (fun ls hl => ?_)
              refine lv_iload X.x X.b d_X_giveUp_84 (lv_at hl 2 rfl) ?_
              refine lv_if_lt (tgt := 102) X.x X.b d_X_giveUp_86 (by decide) (fun c86 => ?_) (fun c86 => ?_)
              · refine lv_iconst (v := nI 1) X.x X.b d_X_giveUp_102 (by decide) ?_
                refine lv_goto (tgt := 107) X.x X.b d_X_giveUp_103 (by decide) ?_
                refine lv_istore (lv' := [(8, .int (nI 1)), (7, .int (nI 1)), (6, .int (nI j)), (5, .int b), (4, .int (ρ (44 + 6 * w + 3))), (3, .int (ρ (44 + 6 * w + 4))), (0, .ref (eA E 0)), (1, .int (nI w)), (2, .int (nI n))]) X.x X.b d_X_giveUp_107 hl (by decide) rfl (fun ls hl => ?_)
                refine lv_iload X.x X.b d_X_giveUp_109 (lv_at hl 1 rfl) ?_
                refine lv_if_eq (tgt := 141) X.x X.b d_X_giveUp_111 (by decide) (fun c111 => ?_) (fun c111 => ?_)
                · exact absurd c111 (by decide)
                · have c111 : ¬ 1 = 0 := fun z => c111 ((nI_eq (a := 1) (b := 0) (by omega) (by omega)).mpr z)
                  refine lv_iload X.x X.b d_X_giveUp_114 (lv_at hl 0 rfl) ?_
                  refine lv_if_eq (tgt := 141) X.x X.b d_X_giveUp_116 (by decide) (fun c116 => ?_) (fun c116 => ?_)
                  · exact absurd c116 (by decide)
                  · have c116 : ¬ 1 = 0 := fun z => c116 ((nI_eq (a := 1) (b := 0) (by omega) (by omega)).mpr z)
                    refine lv_aload_n X.x X.b d_X_giveUp_119 rfl (lv_at hl 6 rfl) ?_
                    refine lv_iload_n X.x X.b d_X_giveUp_120 rfl (lv_at hl 7 rfl) ?_
                    refine lv_iconst (v := nI 3) X.x X.b d_X_giveUp_121 (by decide) ?_
                    refine lv_iload X.x X.b d_X_giveUp_122 (lv_at hl 4 rfl) ?_
                    refine lv_iload X.x X.b d_X_giveUp_124 (lv_at hl 2 rfl) ?_
                    refine lv_iconst (v := (-1)) X.x X.b d_X_giveUp_126 (by decide) ?_
                    refine lv_ixor X.x X.b d_X_giveUp_127 ?_
                    refine lv_iand X.x X.b d_X_giveUp_128 ?_
                    refine lv_iload_n X.x X.b d_X_giveUp_129 rfl (lv_at hl 8 rfl) ?_
                    refine q_cvip X (c_X_gotWith l E (qr S 2 ν) ρ φ ν (by rw [qr_ne (by omega), hρ]) (by rw [qr_ne (by omega), hφ]) (by rw [qr_at]) hwf w 3 ((ρ (44 + 6 * w + 3)) &&& ((nI j) ^^^ (-1))) n (by omega) (by omega) (by omega) (WF_free hwf (by omega))) hW (q_recv X hW ds_X rfl) ok_X_gotWith mw_407 ⟨by decide, by decide⟩ (As := [.int (nI w), .int (nI 3), .int ((ρ (44 + 6 * w + 3)) &&& ((nI j) ^^^ (-1))), .int (nI n)]) rfl rfl (Nat.le_of_ble_eq_true rfl) (lv := [(8, .int (nI 1)), (7, .int (nI 1)), (6, .int (nI j)), (5, .int b), (4, .int (ρ (44 + 6 * w + 3))), (3, .int (ρ (44 + 6 * w + 4))), (0, .ref (eA E 0)), (1, .int (nI w)), (2, .int (nI n))]) hl ⟨Nat.le_refl 0, Nat.le_refl 0⟩ d_X_giveUp_130 (fun H locs Sq130 hP130 hW => ?_)
                    obtain ⟨τ130, hτ130, rfl⟩ := hP130
                    have hW : qWH E (qr S 2 τ130) s H locs := (by have h := hW; rw [qr_qr] at h; exact h)
                    refine lv_iload_n X.x X.b d_X_giveUp_133 rfl (lv_at hl 5 rfl) ?_
                    refine lv_icmp_le (tgt := 141) X.x X.b d_X_giveUp_134 (by decide) (fun c134 => ?_) (fun c134 => ?_)
                    · refine lv_iinc (v := nI (j + 1)) (lv' := [(6, .int (nI (j + 1))), (8, .int (nI 1)), (7, .int (nI 1)), (5, .int b), (4, .int (ρ (44 + 6 * w + 3))), (3, .int (ρ (44 + 6 * w + 4))), (0, .ref (eA E 0)), (1, .int (nI w)), (2, .int (nI n))]) X.x X.b d_X_giveUp_141 hl (k := 2) rfl (by rw [show Int32.ofInt 1 = nI 1 from by decide, nI_add]) (by decide) rfl (fun ls hl => ?_)
                      refine lv_goto (tgt := 59) X.x X.b d_X_giveUp_144 (by decide) ?_
                      exact ih59 (j + 1) b τ130 (by omega) (by unfold gvS; rw [fo_succ]; rw [show fo (fun j b => if gvC (fun v => gotS ρ w 3 v n) (ρ (44 + 6 * w + 4)) (ρ (44 + 6 * w + 3)) j b then nI j else b) j (-1) = b from hb.symm]; exact (if_neg (fun z => Int32.not_lt.mpr c134 z.2)).symm) hτ130 (by omega) _ _ _ hW (lv_sub hl [0, 3, 4, 5, 6, 7, 8] rfl)
                    · refine lv_iload X.x X.b d_X_giveUp_137 (lv_at hl 2 rfl) ?_
                      refine lv_istore (lv' := [(5, .int (nI j)), (8, .int (nI 1)), (7, .int (nI 1)), (6, .int (nI j)), (4, .int (ρ (44 + 6 * w + 3))), (3, .int (ρ (44 + 6 * w + 4))), (0, .ref (eA E 0)), (1, .int (nI w)), (2, .int (nI n))]) X.x X.b d_X_giveUp_139 hl (by decide) rfl (fun ls hl => ?_)
                      refine lv_iinc (v := nI (j + 1)) (lv' := [(6, .int (nI (j + 1))), (5, .int (nI j)), (8, .int (nI 1)), (7, .int (nI 1)), (4, .int (ρ (44 + 6 * w + 3))), (3, .int (ρ (44 + 6 * w + 4))), (0, .ref (eA E 0)), (1, .int (nI w)), (2, .int (nI n))]) X.x X.b d_X_giveUp_141 hl (k := 3) rfl (by rw [show Int32.ofInt 1 = nI 1 from by decide, nI_add]) (by decide) rfl (fun ls hl => ?_)
                      refine lv_goto (tgt := 59) X.x X.b d_X_giveUp_144 (by decide) ?_
                      exact ih59 (j + 1) (nI j) τ130 (by omega) (by unfold gvS; rw [fo_succ]; rw [show fo (fun j b => if gvC (fun v => gotS ρ w 3 v n) (ρ (44 + 6 * w + 4)) (ρ (44 + 6 * w + 3)) j b then nI j else b) j (-1) = b from hb.symm]; exact (if_pos ⟨⟨c74, Or.inl c86⟩, Int32.not_le.mp c134⟩).symm) hτ130 (by omega) _ _ _ hW (lv_sub hl [0, 1, 4, 5, 6, 7, 8] rfl)
              · refine lv_iload X.x X.b d_X_giveUp_89 (lv_at hl 1 rfl) ?_
                refine q_csi X (c_Ji_bitCount l E (qr S 2 ν) (nI j)) hW ok_Ji_bitCount mw_427 ⟨by decide, by decide⟩ (As := [.int (nI j)]) rfl rfl (Nat.le_of_ble_eq_true rfl) (lv := [(7, .int (nI 1)), (6, .int (nI j)), (5, .int b), (4, .int (ρ (44 + 6 * w + 3))), (3, .int (ρ (44 + 6 * w + 4))), (0, .ref (eA E 0)), (1, .int (nI w)), (2, .int (nI n))]) hl ⟨Nat.le_refl 0, Nat.le_refl 0⟩ d_X_giveUp_91 (fun H locs hW => ?_)
                refine lv_iload X.x X.b d_X_giveUp_94 (lv_at hl 2 rfl) ?_
                refine q_csi X (c_Ji_bitCount l E (qr S 2 ν) b) hW ok_Ji_bitCount mw_427 ⟨by decide, by decide⟩ (As := [.int b]) rfl rfl (Nat.le_of_ble_eq_true rfl) (lv := [(7, .int (nI 1)), (6, .int (nI j)), (5, .int b), (4, .int (ρ (44 + 6 * w + 3))), (3, .int (ρ (44 + 6 * w + 4))), (0, .ref (eA E 0)), (1, .int (nI w)), (2, .int (nI n))]) hl ⟨Nat.le_refl 0, Nat.le_refl 0⟩ d_X_giveUp_96 (fun H locs hW => ?_)
                refine lv_icmp_ge (tgt := 106) X.x X.b d_X_giveUp_99 (by decide) (fun c99 => ?_) (fun c99 => ?_)
                · refine lv_iconst (v := nI 0) X.x X.b d_X_giveUp_106 (by decide) ?_
                  refine lv_istore (lv' := [(8, .int (nI 0)), (7, .int (nI 1)), (6, .int (nI j)), (5, .int b), (4, .int (ρ (44 + 6 * w + 3))), (3, .int (ρ (44 + 6 * w + 4))), (0, .ref (eA E 0)), (1, .int (nI w)), (2, .int (nI n))]) X.x X.b d_X_giveUp_107 hl (by decide) rfl (fun ls hl => ?_)
                  refine lv_iload X.x X.b d_X_giveUp_109 (lv_at hl 1 rfl) ?_
                  refine lv_if_eq (tgt := 141) X.x X.b d_X_giveUp_111 (by decide) (fun c111 => ?_) (fun c111 => ?_)
                  · exact absurd c111 (by decide)
                  · have c111 : ¬ 1 = 0 := fun z => c111 ((nI_eq (a := 1) (b := 0) (by omega) (by omega)).mpr z)
                    refine lv_iload X.x X.b d_X_giveUp_114 (lv_at hl 0 rfl) ?_
                    refine lv_if_eq (tgt := 141) X.x X.b d_X_giveUp_116 (by decide) (fun c116 => ?_) (fun c116 => ?_)
                    · have c116 : 0 = 0 := (nI_eq (a := 0) (b := 0) (by omega) (by omega)).mp c116
                      refine lv_iinc (v := nI (j + 1)) (lv' := [(6, .int (nI (j + 1))), (8, .int (nI 0)), (7, .int (nI 1)), (5, .int b), (4, .int (ρ (44 + 6 * w + 3))), (3, .int (ρ (44 + 6 * w + 4))), (0, .ref (eA E 0)), (1, .int (nI w)), (2, .int (nI n))]) X.x X.b d_X_giveUp_141 hl (k := 2) rfl (by rw [show Int32.ofInt 1 = nI 1 from by decide, nI_add]) (by decide) rfl (fun ls hl => ?_)
                      refine lv_goto (tgt := 59) X.x X.b d_X_giveUp_144 (by decide) ?_
                      exact ih59 (j + 1) b ν (by omega) (by unfold gvS; rw [fo_succ]; rw [show fo (fun j b => if gvC (fun v => gotS ρ w 3 v n) (ρ (44 + 6 * w + 4)) (ρ (44 + 6 * w + 3)) j b then nI j else b) j (-1) = b from hb.symm]; exact (if_neg (fun z => z.1.2.elim c86 (fun q => Int32.not_lt.mpr c99 q))).symm) hν (by omega) _ _ _ hW (lv_sub hl [0, 3, 4, 5, 6, 7, 8] rfl)
                    · exact absurd (by decide) c116
                · refine lv_iconst (v := nI 1) X.x X.b d_X_giveUp_102 (by decide) ?_
                  refine lv_goto (tgt := 107) X.x X.b d_X_giveUp_103 (by decide) ?_
                  refine lv_istore (lv' := [(8, .int (nI 1)), (7, .int (nI 1)), (6, .int (nI j)), (5, .int b), (4, .int (ρ (44 + 6 * w + 3))), (3, .int (ρ (44 + 6 * w + 4))), (0, .ref (eA E 0)), (1, .int (nI w)), (2, .int (nI n))]) X.x X.b d_X_giveUp_107 hl (by decide) rfl (fun ls hl => ?_)
                  refine lv_iload X.x X.b d_X_giveUp_109 (lv_at hl 1 rfl) ?_
                  refine lv_if_eq (tgt := 141) X.x X.b d_X_giveUp_111 (by decide) (fun c111 => ?_) (fun c111 => ?_)
                  · exact absurd c111 (by decide)
                  · have c111 : ¬ 1 = 0 := fun z => c111 ((nI_eq (a := 1) (b := 0) (by omega) (by omega)).mpr z)
                    refine lv_iload X.x X.b d_X_giveUp_114 (lv_at hl 0 rfl) ?_
                    refine lv_if_eq (tgt := 141) X.x X.b d_X_giveUp_116 (by decide) (fun c116 => ?_) (fun c116 => ?_)
                    · exact absurd c116 (by decide)
                    · have c116 : ¬ 1 = 0 := fun z => c116 ((nI_eq (a := 1) (b := 0) (by omega) (by omega)).mpr z)
                      refine lv_aload_n X.x X.b d_X_giveUp_119 rfl (lv_at hl 6 rfl) ?_
                      refine lv_iload_n X.x X.b d_X_giveUp_120 rfl (lv_at hl 7 rfl) ?_
                      refine lv_iconst (v := nI 3) X.x X.b d_X_giveUp_121 (by decide) ?_
                      refine lv_iload X.x X.b d_X_giveUp_122 (lv_at hl 4 rfl) ?_
                      refine lv_iload X.x X.b d_X_giveUp_124 (lv_at hl 2 rfl) ?_
                      refine lv_iconst (v := (-1)) X.x X.b d_X_giveUp_126 (by decide) ?_
                      refine lv_ixor X.x X.b d_X_giveUp_127 ?_
                      refine lv_iand X.x X.b d_X_giveUp_128 ?_
                      refine lv_iload_n X.x X.b d_X_giveUp_129 rfl (lv_at hl 8 rfl) ?_
                      refine q_cvip X (c_X_gotWith l E (qr S 2 ν) ρ φ ν (by rw [qr_ne (by omega), hρ]) (by rw [qr_ne (by omega), hφ]) (by rw [qr_at]) hwf w 3 ((ρ (44 + 6 * w + 3)) &&& ((nI j) ^^^ (-1))) n (by omega) (by omega) (by omega) (WF_free hwf (by omega))) hW (q_recv X hW ds_X rfl) ok_X_gotWith mw_407 ⟨by decide, by decide⟩ (As := [.int (nI w), .int (nI 3), .int ((ρ (44 + 6 * w + 3)) &&& ((nI j) ^^^ (-1))), .int (nI n)]) rfl rfl (Nat.le_of_ble_eq_true rfl) (lv := [(8, .int (nI 1)), (7, .int (nI 1)), (6, .int (nI j)), (5, .int b), (4, .int (ρ (44 + 6 * w + 3))), (3, .int (ρ (44 + 6 * w + 4))), (0, .ref (eA E 0)), (1, .int (nI w)), (2, .int (nI n))]) hl ⟨Nat.le_refl 0, Nat.le_refl 0⟩ d_X_giveUp_130 (fun H locs Sq130 hP130 hW => ?_)
                      obtain ⟨τ130, hτ130, rfl⟩ := hP130
                      have hW : qWH E (qr S 2 τ130) s H locs := (by have h := hW; rw [qr_qr] at h; exact h)
                      refine lv_iload_n X.x X.b d_X_giveUp_133 rfl (lv_at hl 5 rfl) ?_
                      refine lv_icmp_le (tgt := 141) X.x X.b d_X_giveUp_134 (by decide) (fun c134 => ?_) (fun c134 => ?_)
                      · refine lv_iinc (v := nI (j + 1)) (lv' := [(6, .int (nI (j + 1))), (8, .int (nI 1)), (7, .int (nI 1)), (5, .int b), (4, .int (ρ (44 + 6 * w + 3))), (3, .int (ρ (44 + 6 * w + 4))), (0, .ref (eA E 0)), (1, .int (nI w)), (2, .int (nI n))]) X.x X.b d_X_giveUp_141 hl (k := 2) rfl (by rw [show Int32.ofInt 1 = nI 1 from by decide, nI_add]) (by decide) rfl (fun ls hl => ?_)
                        refine lv_goto (tgt := 59) X.x X.b d_X_giveUp_144 (by decide) ?_
                        exact ih59 (j + 1) b τ130 (by omega) (by unfold gvS; rw [fo_succ]; rw [show fo (fun j b => if gvC (fun v => gotS ρ w 3 v n) (ρ (44 + 6 * w + 4)) (ρ (44 + 6 * w + 3)) j b then nI j else b) j (-1) = b from hb.symm]; exact (if_neg (fun z => Int32.not_lt.mpr c134 z.2)).symm) hτ130 (by omega) _ _ _ hW (lv_sub hl [0, 3, 4, 5, 6, 7, 8] rfl)
                      · refine lv_iload X.x X.b d_X_giveUp_137 (lv_at hl 2 rfl) ?_
                        refine lv_istore (lv' := [(5, .int (nI j)), (8, .int (nI 1)), (7, .int (nI 1)), (6, .int (nI j)), (4, .int (ρ (44 + 6 * w + 3))), (3, .int (ρ (44 + 6 * w + 4))), (0, .ref (eA E 0)), (1, .int (nI w)), (2, .int (nI n))]) X.x X.b d_X_giveUp_139 hl (by decide) rfl (fun ls hl => ?_)
                        refine lv_iinc (v := nI (j + 1)) (lv' := [(6, .int (nI (j + 1))), (5, .int (nI j)), (8, .int (nI 1)), (7, .int (nI 1)), (4, .int (ρ (44 + 6 * w + 3))), (3, .int (ρ (44 + 6 * w + 4))), (0, .ref (eA E 0)), (1, .int (nI w)), (2, .int (nI n))]) X.x X.b d_X_giveUp_141 hl (k := 3) rfl (by rw [show Int32.ofInt 1 = nI 1 from by decide, nI_add]) (by decide) rfl (fun ls hl => ?_)
                        refine lv_goto (tgt := 59) X.x X.b d_X_giveUp_144 (by decide) ?_
                        exact ih59 (j + 1) (nI j) τ130 (by omega) (by unfold gvS; rw [fo_succ]; rw [show fo (fun j b => if gvC (fun v => gotS ρ w 3 v n) (ρ (44 + 6 * w + 4)) (ρ (44 + 6 * w + 3)) j b then nI j else b) j (-1) = b from hb.symm]; exact (if_pos ⟨⟨c74, Or.inr (Int32.not_le.mp c99)⟩, Int32.not_le.mp c134⟩).symm) hτ130 (by omega) _ _ _ hW (lv_sub hl [0, 1, 4, 5, 6, 7, 8] rfl)
      exact loop59 (256 - 0 + 1) 0 (-1) τ (by omega) rfl hτw (Nat.lt_succ_self _) _ _ _ hW (lv_sub hl [0, 1, 2, 3, 4, 5, 6] rfl)
    · have c18 := b2i_e c18
      have c18 := mt (inR_i (by omega) (by decide)).mpr c18
      omega
set_option maxHeartbeats 1000000 in
set_option maxRecDepth 20000 in
theorem c_X_giveUp_n (l : Launch) (E : QE) (S : QM) (ρ φ τ : Nat → Int32) (hρ : S 0 = ρ) (hφ : S 14 = φ) (hτ : S 2 = τ) (hwf : WF ρ) (w n : Nat) (hw : w < nW ρ) (hn : n ≤ 20) (hτw : WF τ) (hF : (gvS (fun v => gotS ρ w 3 v n) (ρ (44 + 6 * w + 4)) (ρ (44 + 6 * w + 3)) 256) < 0) : qCPi E l y_X_giveUp prog_1_method_23_code 9 .int 6 [.ref (eA E 0), .int (nI w), .int (nI n)] S (-1000004) (any (qr S 14 (fnS φ 3)) 2 WF) := by
  refine qCPi_of (by decide) (Nat.le_of_ble_eq_true rfl) (fun p e s m below meth c ls X hW hl => ?_)
  have hl : lv_has ls 9 [(0, .ref (eA E 0)), (1, .int (nI w)), (2, .int (nI n))] := hl
  have htl := hwf.tl
  have hwl := hwf.wl
  have hdl := hwf.dl
  have hbw : WF (becS τ ρ) := becS_wf hwf
  have hbe : eqv (becS τ ρ) ρ := becS_e hwf
  refine lv_aload_n X.x X.b d_X_giveUp_0 rfl (lv_at hl 0 rfl) ?_
  refine q_getr X hW qj3 rfl _ ds_X 0 (by decide) mw_183 rfl (c1 := cB 0) rfl d_X_giveUp_1 ?_
  refine lv_iload_n X.x X.b d_X_giveUp_4 rfl (lv_at hl 1 rfl) ?_
  refine q_cvi X (c_Cm_hasWalker l E 0 (by decide) S ρ (by rw [hρ]) hwf (nI w)) hW (q_recv X hW (ds_cm (k := 0) (by decide)) rfl) ok_Cm_hasWalker mw_265 ⟨by decide, by decide⟩ (As := [.int (nI w)]) rfl rfl (Nat.le_of_ble_eq_true rfl) (lv := [(0, .ref (eA E 0)), (1, .int (nI w)), (2, .int (nI n))]) hl ⟨Nat.le_refl 0, Nat.le_refl 0⟩ d_X_giveUp_5 (fun H locs hW => ?_)
  refine lv_if_eq (tgt := 21) X.x X.b d_X_giveUp_8 (by decide) (fun c8 => ?_) (fun c8 => ?_)
  · have c8 := b2i_e c8
    have c8 := mt (isW_i hwf (by omega)).mpr c8
    omega
  · have c8 := b2i_n c8
    have c8 := (isW_i hwf (by omega)).mp c8
    refine lv_iload_n X.x X.b d_X_giveUp_11 rfl (lv_at hl 2 rfl) ?_
    refine lv_iconst (v := nI 0) X.x X.b d_X_giveUp_12 (by decide) ?_
    refine lv_bipush (v := nI 20) X.x X.b d_X_giveUp_13 (by decide) ?_
    refine q_csi X (c_X_within l E S (nI n) (nI 0) (nI 20)) hW ok_X_within mw_209 ⟨by decide, by decide⟩ (As := [.int (nI n), .int (nI 0), .int (nI 20)]) rfl rfl (Nat.le_of_ble_eq_true rfl) (lv := [(0, .ref (eA E 0)), (1, .int (nI w)), (2, .int (nI n))]) hl ⟨Nat.le_refl 0, Nat.le_refl 0⟩ d_X_giveUp_15 (fun H locs hW => ?_)
    refine lv_if_ne (tgt := 28) X.x X.b d_X_giveUp_18 (by decide) (fun c18 => ?_) (fun c18 => ?_)
    · have c18 := b2i_n c18
      have c18 := (inR_i (by omega) (by decide)).mp c18
      refine lv_aload_n X.x X.b d_X_giveUp_28 rfl (lv_at hl 0 rfl) ?_
      refine q_getr X hW qj3 rfl _ ds_X 0 (by decide) mw_183 rfl (c1 := cB 0) rfl d_X_giveUp_29 ?_
      refine q_getr X hW qj0 rfl _ (ds_cm (k := 0) (by decide)) 2 (by decide) mw_106 rfl (c1 := cB 0 + 3) rfl d_X_giveUp_32 ?_
      refine lv_iload_n X.x X.b d_X_giveUp_35 rfl (lv_at hl 1 rfl) ?_
      refine g_wk (show 0 < 3 by decide) X hW (show w < 6 by omega) d_X_giveUp_36 ?_
      refine lv_iconst (v := nI 4) X.x X.b d_X_giveUp_37 (by decide) ?_
      refine g_ald X hW (ds_w (w := w) (k := 0) (by decide) (by omega)) (q_in (by omega) (by decide)) (p0 := 44 + 6 * w + 4) (q_tn (by omega) (by omega)) (v := ρ (44 + 6 * w + 4)) (by rw [hρ]) d_X_giveUp_38 ?_
      refine lv_istore_n (lv' := [(3, .int (ρ (44 + 6 * w + 4))), (0, .ref (eA E 0)), (1, .int (nI w)), (2, .int (nI n))]) X.x X.b d_X_giveUp_39 rfl hl (by decide) rfl (fun ls hl => ?_)
      refine lv_aload_n X.x X.b d_X_giveUp_40 rfl (lv_at hl 1 rfl) ?_
      refine q_getr X hW qj3 rfl _ ds_X 0 (by decide) mw_183 rfl (c1 := cB 0) rfl d_X_giveUp_41 ?_
      refine q_getr X hW qj0 rfl _ (ds_cm (k := 0) (by decide)) 2 (by decide) mw_106 rfl (c1 := cB 0 + 3) rfl d_X_giveUp_44 ?_
      refine lv_iload_n X.x X.b d_X_giveUp_47 rfl (lv_at hl 2 rfl) ?_
      refine g_wk (show 0 < 3 by decide) X hW (show w < 6 by omega) d_X_giveUp_48 ?_
      refine lv_iconst (v := nI 3) X.x X.b d_X_giveUp_49 (by decide) ?_
      refine g_ald X hW (ds_w (w := w) (k := 0) (by decide) (by omega)) (q_in (by omega) (by decide)) (p0 := 44 + 6 * w + 3) (q_tn (by omega) (by omega)) (v := ρ (44 + 6 * w + 3)) (by rw [hρ]) d_X_giveUp_50 ?_
      refine lv_istore (lv' := [(4, .int (ρ (44 + 6 * w + 3))), (3, .int (ρ (44 + 6 * w + 4))), (0, .ref (eA E 0)), (1, .int (nI w)), (2, .int (nI n))]) X.x X.b d_X_giveUp_51 hl (by decide) rfl (fun ls hl => ?_)
      refine lv_iconst (v := (-1)) X.x X.b d_X_giveUp_53 (by decide) ?_
      refine lv_istore (lv' := [(5, .int (-1)), (4, .int (ρ (44 + 6 * w + 3))), (3, .int (ρ (44 + 6 * w + 4))), (0, .ref (eA E 0)), (1, .int (nI w)), (2, .int (nI n))]) X.x X.b d_X_giveUp_54 hl (by decide) rfl (fun ls hl => ?_)
      refine lv_iconst (v := nI 0) X.x X.b d_X_giveUp_56 (by decide) ?_
      refine lv_istore (lv' := [(6, .int (nI 0)), (5, .int (-1)), (4, .int (ρ (44 + 6 * w + 3))), (3, .int (ρ (44 + 6 * w + 4))), (0, .ref (eA E 0)), (1, .int (nI w)), (2, .int (nI n))]) X.x X.b d_X_giveUp_57 hl (by decide) rfl (fun ls hl => ?_)
      have hW : qWH E (qr S 2 τ) s H locs := by rw [← hτ, qr_self]; exact hW
      have loop59 : ∀ (fu59 : Nat) (j : Nat) (b : Int32) (ν : Nat → Int32), j ≤ 256 → b = gvS (fun v => gotS ρ w 3 v n) (ρ (44 + 6 * w + 4)) (ρ (44 + 6 * w + 3)) j → WF ν → 256 - j < fu59 → ∀ (H : Heap) (locs : List Loc) (ls : Array Slot), qWH E (qr S 2 ν) s H locs → lv_has ls 9 [(6, .int (nI j)), (5, .int b), (4, .int (ρ (44 + 6 * w + 3))), (3, .int (ρ (44 + 6 * w + 4))), (0, .ref (eA E 0)), (1, .int (nI w)), (2, .int (nI n))] → W p l e (qRm 6) s m ([.ref (eA E 0), .int (nI w), .int (nI n)] : List Value).toArray below meth c H locs 0 0 (MQ below (qQpi E (-1000004) (any (qr S 14 (fnS φ 3)) 2 WF) s.heap.size) ([.ref (eA E 0), .int (nI w), .int (nI n)] : List Value).toArray s 0 0 (qAA E s.heap.size)) (F0 m 59 ls []) := by
        intro fu59
        induction fu59 with
        | zero =>
          intro j b ν hj hb hν hfu
          exact absurd hfu (Nat.not_lt_zero _)
        | succ fu59 ih59 =>
          intro j b ν hj hb hν hfu H locs ls hW hl
          refine lv_iload X.x X.b d_X_giveUp_59 (lv_at hl 0 rfl) ?_
          refine lv_sipush (v := nI 255) X.x X.b d_X_giveUp_61 (by decide) ?_
          refine lv_icmp_gt (tgt := 147) X.x X.b d_X_giveUp_64 (by decide) (fun c64 => ?_) (fun c64 => ?_)
          · have c64 : 255 < j := (nI_ltI (a := 255) (b := j) (by omega) (by omega)).mp c64
            refine lv_iload X.x X.b d_X_giveUp_147 (lv_at hl 1 rfl) ?_
            refine lv_if_ge (tgt := 161) X.x X.b d_X_giveUp_149 (by decide) (fun c149 => ?_) (fun c149 => ?_)
            · exact absurd hF (show ¬ (gvS (fun v => gotS ρ w 3 v n) (ρ (44 + 6 * w + 4)) (ρ (44 + 6 * w + 3)) 256) < 0 by rw [show (gvS (fun v => gotS ρ w 3 v n) (ρ (44 + 6 * w + 4)) (ρ (44 + 6 * w + 3)) 256) = b by rw [hb, show j = 256 by omega]]; exact Int32.not_lt.mpr c149)
            · refine lv_aload_n X.x X.b d_X_giveUp_152 rfl (lv_at hl 4 rfl) ?_
              refine lv_ldc (v := (-1000004)) X.x X.b X.ow (X.ts _ mw_390) d_X_giveUp_153 ?_
              refine q_cvi X (c_X_told_3 l E (qr S 2 ν) φ (by rw [qr_ne (by omega), hφ])) hW (q_recv X hW ds_X rfl) ok_X_told mw_213 ⟨by decide, by decide⟩ (As := [.int (-1000004)]) rfl rfl (Nat.le_of_ble_eq_true rfl) (lv := [(6, .int (nI j)), (5, .int b), (4, .int (ρ (44 + 6 * w + 3))), (3, .int (ρ (44 + 6 * w + 4))), (0, .ref (eA E 0)), (1, .int (nI w)), (2, .int (nI n))]) hl ⟨Nat.le_refl 0, Nat.le_refl 0⟩ d_X_giveUp_155 (fun H locs hW => ?_)
              have hW : qWH E (qr (qr S 2 ν) 14 (fnS φ 3)) s H locs := hW
              refine lv_goto (tgt := 163) X.x X.b d_X_giveUp_158 (by decide) ?_
              exact q_pzret X rfl hW ⟨rfl, ⟨_, hν, qr_sw (by omega)⟩⟩ d_X_giveUp_163
          · have c64 : ¬ 255 < j := fun z => c64 ((nI_ltI (a := 255) (b := j) (by omega) (by omega)).mpr z)
            refine lv_iload X.x X.b d_X_giveUp_67 (lv_at hl 0 rfl) ?_
            refine lv_iload X.x X.b d_X_giveUp_69 (lv_at hl 2 rfl) ?_
            refine lv_iconst (v := (-1)) X.x X.b d_X_giveUp_71 (by decide) ?_
            refine lv_ixor X.x X.b d_X_giveUp_72 ?_
            refine lv_iand X.x X.b d_X_giveUp_73 ?_
            refine lv_if_ne (tgt := 81) X.x X.b d_X_giveUp_74 (by decide) (fun c74 => ?_) (fun c74 => ?_)
            · refine lv_iconst (v := nI 0) X.x X.b d_X_giveUp_81 (by decide) ?_
              refine lv_istore (lv' := [(7, .int (nI 0)), (6, .int (nI j)), (5, .int b), (4, .int (ρ (44 + 6 * w + 3))), (3, .int (ρ (44 + 6 * w + 4))), (0, .ref (eA E 0)), (1, .int (nI w)), (2, .int (nI n))]) X.x X.b d_X_giveUp_82 hl (by decide) rfl (fun ls hl => ?_)
              refine lv_iload X.x X.b d_X_giveUp_84 (lv_at hl 2 rfl) ?_
              refine lv_if_lt (tgt := 102) X.x X.b d_X_giveUp_86 (by decide) (fun c86 => ?_) (fun c86 => ?_)
              · refine lv_iconst (v := nI 1) X.x X.b d_X_giveUp_102 (by decide) ?_
                refine lv_goto (tgt := 107) X.x X.b d_X_giveUp_103 (by decide) ?_
                refine lv_istore (lv' := [(8, .int (nI 1)), (7, .int (nI 0)), (6, .int (nI j)), (5, .int b), (4, .int (ρ (44 + 6 * w + 3))), (3, .int (ρ (44 + 6 * w + 4))), (0, .ref (eA E 0)), (1, .int (nI w)), (2, .int (nI n))]) X.x X.b d_X_giveUp_107 hl (by decide) rfl (fun ls hl => ?_)
                refine lv_iload X.x X.b d_X_giveUp_109 (lv_at hl 1 rfl) ?_
                refine lv_if_eq (tgt := 141) X.x X.b d_X_giveUp_111 (by decide) (fun c111 => ?_) (fun c111 => ?_)
                · have c111 : 0 = 0 := (nI_eq (a := 0) (b := 0) (by omega) (by omega)).mp c111
                  refine lv_iinc (v := nI (j + 1)) (lv' := [(6, .int (nI (j + 1))), (8, .int (nI 1)), (7, .int (nI 0)), (5, .int b), (4, .int (ρ (44 + 6 * w + 3))), (3, .int (ρ (44 + 6 * w + 4))), (0, .ref (eA E 0)), (1, .int (nI w)), (2, .int (nI n))]) X.x X.b d_X_giveUp_141 hl (k := 2) rfl (by rw [show Int32.ofInt 1 = nI 1 from by decide, nI_add]) (by decide) rfl (fun ls hl => ?_)
                  refine lv_goto (tgt := 59) X.x X.b d_X_giveUp_144 (by decide) ?_
                  exact ih59 (j + 1) b ν (by omega) (by unfold gvS; rw [fo_succ]; rw [show fo (fun j b => if gvC (fun v => gotS ρ w 3 v n) (ρ (44 + 6 * w + 4)) (ρ (44 + 6 * w + 3)) j b then nI j else b) j (-1) = b from hb.symm]; exact (if_neg (fun z => c74 z.1.1)).symm) hν (by omega) _ _ _ hW (lv_sub hl [0, 3, 4, 5, 6, 7, 8] rfl)
                · exact absurd (by decide) c111
              · refine lv_iload X.x X.b d_X_giveUp_89 (lv_at hl 1 rfl) ?_
                refine q_csi X (c_Ji_bitCount l E (qr S 2 ν) (nI j)) hW ok_Ji_bitCount mw_427 ⟨by decide, by decide⟩ (As := [.int (nI j)]) rfl rfl (Nat.le_of_ble_eq_true rfl) (lv := [(7, .int (nI 0)), (6, .int (nI j)), (5, .int b), (4, .int (ρ (44 + 6 * w + 3))), (3, .int (ρ (44 + 6 * w + 4))), (0, .ref (eA E 0)), (1, .int (nI w)), (2, .int (nI n))]) hl ⟨Nat.le_refl 0, Nat.le_refl 0⟩ d_X_giveUp_91 (fun H locs hW => ?_)
                refine lv_iload X.x X.b d_X_giveUp_94 (lv_at hl 2 rfl) ?_
                refine q_csi X (c_Ji_bitCount l E (qr S 2 ν) b) hW ok_Ji_bitCount mw_427 ⟨by decide, by decide⟩ (As := [.int b]) rfl rfl (Nat.le_of_ble_eq_true rfl) (lv := [(7, .int (nI 0)), (6, .int (nI j)), (5, .int b), (4, .int (ρ (44 + 6 * w + 3))), (3, .int (ρ (44 + 6 * w + 4))), (0, .ref (eA E 0)), (1, .int (nI w)), (2, .int (nI n))]) hl ⟨Nat.le_refl 0, Nat.le_refl 0⟩ d_X_giveUp_96 (fun H locs hW => ?_)
                refine lv_icmp_ge (tgt := 106) X.x X.b d_X_giveUp_99 (by decide) (fun c99 => ?_) (fun c99 => ?_)
                · refine lv_iconst (v := nI 0) X.x X.b d_X_giveUp_106 (by decide) ?_
                  refine lv_istore (lv' := [(8, .int (nI 0)), (7, .int (nI 0)), (6, .int (nI j)), (5, .int b), (4, .int (ρ (44 + 6 * w + 3))), (3, .int (ρ (44 + 6 * w + 4))), (0, .ref (eA E 0)), (1, .int (nI w)), (2, .int (nI n))]) X.x X.b d_X_giveUp_107 hl (by decide) rfl (fun ls hl => ?_)
                  refine lv_iload X.x X.b d_X_giveUp_109 (lv_at hl 1 rfl) ?_
                  refine lv_if_eq (tgt := 141) X.x X.b d_X_giveUp_111 (by decide) (fun c111 => ?_) (fun c111 => ?_)
                  · have c111 : 0 = 0 := (nI_eq (a := 0) (b := 0) (by omega) (by omega)).mp c111
                    refine lv_iinc (v := nI (j + 1)) (lv' := [(6, .int (nI (j + 1))), (8, .int (nI 0)), (7, .int (nI 0)), (5, .int b), (4, .int (ρ (44 + 6 * w + 3))), (3, .int (ρ (44 + 6 * w + 4))), (0, .ref (eA E 0)), (1, .int (nI w)), (2, .int (nI n))]) X.x X.b d_X_giveUp_141 hl (k := 2) rfl (by rw [show Int32.ofInt 1 = nI 1 from by decide, nI_add]) (by decide) rfl (fun ls hl => ?_)
                    refine lv_goto (tgt := 59) X.x X.b d_X_giveUp_144 (by decide) ?_
                    exact ih59 (j + 1) b ν (by omega) (by unfold gvS; rw [fo_succ]; rw [show fo (fun j b => if gvC (fun v => gotS ρ w 3 v n) (ρ (44 + 6 * w + 4)) (ρ (44 + 6 * w + 3)) j b then nI j else b) j (-1) = b from hb.symm]; exact (if_neg (fun z => c74 z.1.1)).symm) hν (by omega) _ _ _ hW (lv_sub hl [0, 3, 4, 5, 6, 7, 8] rfl)
                  · exact absurd (by decide) c111
                · refine lv_iconst (v := nI 1) X.x X.b d_X_giveUp_102 (by decide) ?_
                  refine lv_goto (tgt := 107) X.x X.b d_X_giveUp_103 (by decide) ?_
                  refine lv_istore (lv' := [(8, .int (nI 1)), (7, .int (nI 0)), (6, .int (nI j)), (5, .int b), (4, .int (ρ (44 + 6 * w + 3))), (3, .int (ρ (44 + 6 * w + 4))), (0, .ref (eA E 0)), (1, .int (nI w)), (2, .int (nI n))]) X.x X.b d_X_giveUp_107 hl (by decide) rfl (fun ls hl => ?_)
                  refine lv_iload X.x X.b d_X_giveUp_109 (lv_at hl 1 rfl) ?_
                  refine lv_if_eq (tgt := 141) X.x X.b d_X_giveUp_111 (by decide) (fun c111 => ?_) (fun c111 => ?_)
                  · have c111 : 0 = 0 := (nI_eq (a := 0) (b := 0) (by omega) (by omega)).mp c111
                    refine lv_iinc (v := nI (j + 1)) (lv' := [(6, .int (nI (j + 1))), (8, .int (nI 1)), (7, .int (nI 0)), (5, .int b), (4, .int (ρ (44 + 6 * w + 3))), (3, .int (ρ (44 + 6 * w + 4))), (0, .ref (eA E 0)), (1, .int (nI w)), (2, .int (nI n))]) X.x X.b d_X_giveUp_141 hl (k := 2) rfl (by rw [show Int32.ofInt 1 = nI 1 from by decide, nI_add]) (by decide) rfl (fun ls hl => ?_)
                    refine lv_goto (tgt := 59) X.x X.b d_X_giveUp_144 (by decide) ?_
                    exact ih59 (j + 1) b ν (by omega) (by unfold gvS; rw [fo_succ]; rw [show fo (fun j b => if gvC (fun v => gotS ρ w 3 v n) (ρ (44 + 6 * w + 4)) (ρ (44 + 6 * w + 3)) j b then nI j else b) j (-1) = b from hb.symm]; exact (if_neg (fun z => c74 z.1.1)).symm) hν (by omega) _ _ _ hW (lv_sub hl [0, 3, 4, 5, 6, 7, 8] rfl)
                  · exact absurd (by decide) c111
            · refine lv_iconst (v := nI 1) X.x X.b d_X_giveUp_77 (by decide) ?_
              refine lv_goto (tgt := 82) X.x X.b d_X_giveUp_78 (by decide) ?_
              refine lv_istore (lv' := [(7, .int (nI 1)), (6, .int (nI j)), (5, .int b), (4, .int (ρ (44 + 6 * w + 3))), (3, .int (ρ (44 + 6 * w + 4))), (0, .ref (eA E 0)), (1, .int (nI w)), (2, .int (nI n))]) X.x X.b d_X_giveUp_82 hl (by decide) rfl (fun ls hl => ?_)
              refine lv_iload X.x X.b d_X_giveUp_84 (lv_at hl 2 rfl) ?_
              refine lv_if_lt (tgt := 102) X.x X.b d_X_giveUp_86 (by decide) (fun c86 => ?_) (fun c86 => ?_)
              · refine lv_iconst (v := nI 1) X.x X.b d_X_giveUp_102 (by decide) ?_
                refine lv_goto (tgt := 107) X.x X.b d_X_giveUp_103 (by decide) ?_
                refine lv_istore (lv' := [(8, .int (nI 1)), (7, .int (nI 1)), (6, .int (nI j)), (5, .int b), (4, .int (ρ (44 + 6 * w + 3))), (3, .int (ρ (44 + 6 * w + 4))), (0, .ref (eA E 0)), (1, .int (nI w)), (2, .int (nI n))]) X.x X.b d_X_giveUp_107 hl (by decide) rfl (fun ls hl => ?_)
                refine lv_iload X.x X.b d_X_giveUp_109 (lv_at hl 1 rfl) ?_
                refine lv_if_eq (tgt := 141) X.x X.b d_X_giveUp_111 (by decide) (fun c111 => ?_) (fun c111 => ?_)
                · exact absurd c111 (by decide)
                · have c111 : ¬ 1 = 0 := fun z => c111 ((nI_eq (a := 1) (b := 0) (by omega) (by omega)).mpr z)
                  refine lv_iload X.x X.b d_X_giveUp_114 (lv_at hl 0 rfl) ?_
                  refine lv_if_eq (tgt := 141) X.x X.b d_X_giveUp_116 (by decide) (fun c116 => ?_) (fun c116 => ?_)
                  · exact absurd c116 (by decide)
                  · have c116 : ¬ 1 = 0 := fun z => c116 ((nI_eq (a := 1) (b := 0) (by omega) (by omega)).mpr z)
                    refine lv_aload_n X.x X.b d_X_giveUp_119 rfl (lv_at hl 6 rfl) ?_
                    refine lv_iload_n X.x X.b d_X_giveUp_120 rfl (lv_at hl 7 rfl) ?_
                    refine lv_iconst (v := nI 3) X.x X.b d_X_giveUp_121 (by decide) ?_
                    refine lv_iload X.x X.b d_X_giveUp_122 (lv_at hl 4 rfl) ?_
                    refine lv_iload X.x X.b d_X_giveUp_124 (lv_at hl 2 rfl) ?_
                    refine lv_iconst (v := (-1)) X.x X.b d_X_giveUp_126 (by decide) ?_
                    refine lv_ixor X.x X.b d_X_giveUp_127 ?_
                    refine lv_iand X.x X.b d_X_giveUp_128 ?_
                    refine lv_iload_n X.x X.b d_X_giveUp_129 rfl (lv_at hl 8 rfl) ?_
                    refine q_cvip X (c_X_gotWith l E (qr S 2 ν) ρ φ ν (by rw [qr_ne (by omega), hρ]) (by rw [qr_ne (by omega), hφ]) (by rw [qr_at]) hwf w 3 ((ρ (44 + 6 * w + 3)) &&& ((nI j) ^^^ (-1))) n (by omega) (by omega) (by omega) (WF_free hwf (by omega))) hW (q_recv X hW ds_X rfl) ok_X_gotWith mw_407 ⟨by decide, by decide⟩ (As := [.int (nI w), .int (nI 3), .int ((ρ (44 + 6 * w + 3)) &&& ((nI j) ^^^ (-1))), .int (nI n)]) rfl rfl (Nat.le_of_ble_eq_true rfl) (lv := [(8, .int (nI 1)), (7, .int (nI 1)), (6, .int (nI j)), (5, .int b), (4, .int (ρ (44 + 6 * w + 3))), (3, .int (ρ (44 + 6 * w + 4))), (0, .ref (eA E 0)), (1, .int (nI w)), (2, .int (nI n))]) hl ⟨Nat.le_refl 0, Nat.le_refl 0⟩ d_X_giveUp_130 (fun H locs Sq130 hP130 hW => ?_)
                    obtain ⟨τ130, hτ130, rfl⟩ := hP130
                    have hW : qWH E (qr S 2 τ130) s H locs := (by have h := hW; rw [qr_qr] at h; exact h)
                    refine lv_iload_n X.x X.b d_X_giveUp_133 rfl (lv_at hl 5 rfl) ?_
                    refine lv_icmp_le (tgt := 141) X.x X.b d_X_giveUp_134 (by decide) (fun c134 => ?_) (fun c134 => ?_)
                    · refine lv_iinc (v := nI (j + 1)) (lv' := [(6, .int (nI (j + 1))), (8, .int (nI 1)), (7, .int (nI 1)), (5, .int b), (4, .int (ρ (44 + 6 * w + 3))), (3, .int (ρ (44 + 6 * w + 4))), (0, .ref (eA E 0)), (1, .int (nI w)), (2, .int (nI n))]) X.x X.b d_X_giveUp_141 hl (k := 2) rfl (by rw [show Int32.ofInt 1 = nI 1 from by decide, nI_add]) (by decide) rfl (fun ls hl => ?_)
                      refine lv_goto (tgt := 59) X.x X.b d_X_giveUp_144 (by decide) ?_
                      exact ih59 (j + 1) b τ130 (by omega) (by unfold gvS; rw [fo_succ]; rw [show fo (fun j b => if gvC (fun v => gotS ρ w 3 v n) (ρ (44 + 6 * w + 4)) (ρ (44 + 6 * w + 3)) j b then nI j else b) j (-1) = b from hb.symm]; exact (if_neg (fun z => Int32.not_lt.mpr c134 z.2)).symm) hτ130 (by omega) _ _ _ hW (lv_sub hl [0, 3, 4, 5, 6, 7, 8] rfl)
                    · refine lv_iload X.x X.b d_X_giveUp_137 (lv_at hl 2 rfl) ?_
                      refine lv_istore (lv' := [(5, .int (nI j)), (8, .int (nI 1)), (7, .int (nI 1)), (6, .int (nI j)), (4, .int (ρ (44 + 6 * w + 3))), (3, .int (ρ (44 + 6 * w + 4))), (0, .ref (eA E 0)), (1, .int (nI w)), (2, .int (nI n))]) X.x X.b d_X_giveUp_139 hl (by decide) rfl (fun ls hl => ?_)
                      refine lv_iinc (v := nI (j + 1)) (lv' := [(6, .int (nI (j + 1))), (5, .int (nI j)), (8, .int (nI 1)), (7, .int (nI 1)), (4, .int (ρ (44 + 6 * w + 3))), (3, .int (ρ (44 + 6 * w + 4))), (0, .ref (eA E 0)), (1, .int (nI w)), (2, .int (nI n))]) X.x X.b d_X_giveUp_141 hl (k := 3) rfl (by rw [show Int32.ofInt 1 = nI 1 from by decide, nI_add]) (by decide) rfl (fun ls hl => ?_)
                      refine lv_goto (tgt := 59) X.x X.b d_X_giveUp_144 (by decide) ?_
                      exact ih59 (j + 1) (nI j) τ130 (by omega) (by unfold gvS; rw [fo_succ]; rw [show fo (fun j b => if gvC (fun v => gotS ρ w 3 v n) (ρ (44 + 6 * w + 4)) (ρ (44 + 6 * w + 3)) j b then nI j else b) j (-1) = b from hb.symm]; exact (if_pos ⟨⟨c74, Or.inl c86⟩, Int32.not_le.mp c134⟩).symm) hτ130 (by omega) _ _ _ hW (lv_sub hl [0, 1, 4, 5, 6, 7, 8] rfl)
              · refine lv_iload X.x X.b d_X_giveUp_89 (lv_at hl 1 rfl) ?_
                refine q_csi X (c_Ji_bitCount l E (qr S 2 ν) (nI j)) hW ok_Ji_bitCount mw_427 ⟨by decide, by decide⟩ (As := [.int (nI j)]) rfl rfl (Nat.le_of_ble_eq_true rfl) (lv := [(7, .int (nI 1)), (6, .int (nI j)), (5, .int b), (4, .int (ρ (44 + 6 * w + 3))), (3, .int (ρ (44 + 6 * w + 4))), (0, .ref (eA E 0)), (1, .int (nI w)), (2, .int (nI n))]) hl ⟨Nat.le_refl 0, Nat.le_refl 0⟩ d_X_giveUp_91 (fun H locs hW => ?_)
                refine lv_iload X.x X.b d_X_giveUp_94 (lv_at hl 2 rfl) ?_
                refine q_csi X (c_Ji_bitCount l E (qr S 2 ν) b) hW ok_Ji_bitCount mw_427 ⟨by decide, by decide⟩ (As := [.int b]) rfl rfl (Nat.le_of_ble_eq_true rfl) (lv := [(7, .int (nI 1)), (6, .int (nI j)), (5, .int b), (4, .int (ρ (44 + 6 * w + 3))), (3, .int (ρ (44 + 6 * w + 4))), (0, .ref (eA E 0)), (1, .int (nI w)), (2, .int (nI n))]) hl ⟨Nat.le_refl 0, Nat.le_refl 0⟩ d_X_giveUp_96 (fun H locs hW => ?_)
                refine lv_icmp_ge (tgt := 106) X.x X.b d_X_giveUp_99 (by decide) (fun c99 => ?_) (fun c99 => ?_)
                · refine lv_iconst (v := nI 0) X.x X.b d_X_giveUp_106 (by decide) ?_
                  refine lv_istore (lv' := [(8, .int (nI 0)), (7, .int (nI 1)), (6, .int (nI j)), (5, .int b), (4, .int (ρ (44 + 6 * w + 3))), (3, .int (ρ (44 + 6 * w + 4))), (0, .ref (eA E 0)), (1, .int (nI w)), (2, .int (nI n))]) X.x X.b d_X_giveUp_107 hl (by decide) rfl (fun ls hl => ?_)
                  refine lv_iload X.x X.b d_X_giveUp_109 (lv_at hl 1 rfl) ?_
                  refine lv_if_eq (tgt := 141) X.x X.b d_X_giveUp_111 (by decide) (fun c111 => ?_) (fun c111 => ?_)
                  · exact absurd c111 (by decide)
                  · have c111 : ¬ 1 = 0 := fun z => c111 ((nI_eq (a := 1) (b := 0) (by omega) (by omega)).mpr z)
                    refine lv_iload X.x X.b d_X_giveUp_114 (lv_at hl 0 rfl) ?_
                    refine lv_if_eq (tgt := 141) X.x X.b d_X_giveUp_116 (by decide) (fun c116 => ?_) (fun c116 => ?_)
                    · have c116 : 0 = 0 := (nI_eq (a := 0) (b := 0) (by omega) (by omega)).mp c116
                      refine lv_iinc (v := nI (j + 1)) (lv' := [(6, .int (nI (j + 1))), (8, .int (nI 0)), (7, .int (nI 1)), (5, .int b), (4, .int (ρ (44 + 6 * w + 3))), (3, .int (ρ (44 + 6 * w + 4))), (0, .ref (eA E 0)), (1, .int (nI w)), (2, .int (nI n))]) X.x X.b d_X_giveUp_141 hl (k := 2) rfl (by rw [show Int32.ofInt 1 = nI 1 from by decide, nI_add]) (by decide) rfl (fun ls hl => ?_)
                      refine lv_goto (tgt := 59) X.x X.b d_X_giveUp_144 (by decide) ?_
                      exact ih59 (j + 1) b ν (by omega) (by unfold gvS; rw [fo_succ]; rw [show fo (fun j b => if gvC (fun v => gotS ρ w 3 v n) (ρ (44 + 6 * w + 4)) (ρ (44 + 6 * w + 3)) j b then nI j else b) j (-1) = b from hb.symm]; exact (if_neg (fun z => z.1.2.elim c86 (fun q => Int32.not_lt.mpr c99 q))).symm) hν (by omega) _ _ _ hW (lv_sub hl [0, 3, 4, 5, 6, 7, 8] rfl)
                    · exact absurd (by decide) c116
                · refine lv_iconst (v := nI 1) X.x X.b d_X_giveUp_102 (by decide) ?_
                  refine lv_goto (tgt := 107) X.x X.b d_X_giveUp_103 (by decide) ?_
                  refine lv_istore (lv' := [(8, .int (nI 1)), (7, .int (nI 1)), (6, .int (nI j)), (5, .int b), (4, .int (ρ (44 + 6 * w + 3))), (3, .int (ρ (44 + 6 * w + 4))), (0, .ref (eA E 0)), (1, .int (nI w)), (2, .int (nI n))]) X.x X.b d_X_giveUp_107 hl (by decide) rfl (fun ls hl => ?_)
                  refine lv_iload X.x X.b d_X_giveUp_109 (lv_at hl 1 rfl) ?_
                  refine lv_if_eq (tgt := 141) X.x X.b d_X_giveUp_111 (by decide) (fun c111 => ?_) (fun c111 => ?_)
                  · exact absurd c111 (by decide)
                  · have c111 : ¬ 1 = 0 := fun z => c111 ((nI_eq (a := 1) (b := 0) (by omega) (by omega)).mpr z)
                    refine lv_iload X.x X.b d_X_giveUp_114 (lv_at hl 0 rfl) ?_
                    refine lv_if_eq (tgt := 141) X.x X.b d_X_giveUp_116 (by decide) (fun c116 => ?_) (fun c116 => ?_)
                    · exact absurd c116 (by decide)
                    · have c116 : ¬ 1 = 0 := fun z => c116 ((nI_eq (a := 1) (b := 0) (by omega) (by omega)).mpr z)
                      refine lv_aload_n X.x X.b d_X_giveUp_119 rfl (lv_at hl 6 rfl) ?_
                      refine lv_iload_n X.x X.b d_X_giveUp_120 rfl (lv_at hl 7 rfl) ?_
                      refine lv_iconst (v := nI 3) X.x X.b d_X_giveUp_121 (by decide) ?_
                      refine lv_iload X.x X.b d_X_giveUp_122 (lv_at hl 4 rfl) ?_
                      refine lv_iload X.x X.b d_X_giveUp_124 (lv_at hl 2 rfl) ?_
                      refine lv_iconst (v := (-1)) X.x X.b d_X_giveUp_126 (by decide) ?_
                      refine lv_ixor X.x X.b d_X_giveUp_127 ?_
                      refine lv_iand X.x X.b d_X_giveUp_128 ?_
                      refine lv_iload_n X.x X.b d_X_giveUp_129 rfl (lv_at hl 8 rfl) ?_
                      refine q_cvip X (c_X_gotWith l E (qr S 2 ν) ρ φ ν (by rw [qr_ne (by omega), hρ]) (by rw [qr_ne (by omega), hφ]) (by rw [qr_at]) hwf w 3 ((ρ (44 + 6 * w + 3)) &&& ((nI j) ^^^ (-1))) n (by omega) (by omega) (by omega) (WF_free hwf (by omega))) hW (q_recv X hW ds_X rfl) ok_X_gotWith mw_407 ⟨by decide, by decide⟩ (As := [.int (nI w), .int (nI 3), .int ((ρ (44 + 6 * w + 3)) &&& ((nI j) ^^^ (-1))), .int (nI n)]) rfl rfl (Nat.le_of_ble_eq_true rfl) (lv := [(8, .int (nI 1)), (7, .int (nI 1)), (6, .int (nI j)), (5, .int b), (4, .int (ρ (44 + 6 * w + 3))), (3, .int (ρ (44 + 6 * w + 4))), (0, .ref (eA E 0)), (1, .int (nI w)), (2, .int (nI n))]) hl ⟨Nat.le_refl 0, Nat.le_refl 0⟩ d_X_giveUp_130 (fun H locs Sq130 hP130 hW => ?_)
                      obtain ⟨τ130, hτ130, rfl⟩ := hP130
                      have hW : qWH E (qr S 2 τ130) s H locs := (by have h := hW; rw [qr_qr] at h; exact h)
                      refine lv_iload_n X.x X.b d_X_giveUp_133 rfl (lv_at hl 5 rfl) ?_
                      refine lv_icmp_le (tgt := 141) X.x X.b d_X_giveUp_134 (by decide) (fun c134 => ?_) (fun c134 => ?_)
                      · refine lv_iinc (v := nI (j + 1)) (lv' := [(6, .int (nI (j + 1))), (8, .int (nI 1)), (7, .int (nI 1)), (5, .int b), (4, .int (ρ (44 + 6 * w + 3))), (3, .int (ρ (44 + 6 * w + 4))), (0, .ref (eA E 0)), (1, .int (nI w)), (2, .int (nI n))]) X.x X.b d_X_giveUp_141 hl (k := 2) rfl (by rw [show Int32.ofInt 1 = nI 1 from by decide, nI_add]) (by decide) rfl (fun ls hl => ?_)
                        refine lv_goto (tgt := 59) X.x X.b d_X_giveUp_144 (by decide) ?_
                        exact ih59 (j + 1) b τ130 (by omega) (by unfold gvS; rw [fo_succ]; rw [show fo (fun j b => if gvC (fun v => gotS ρ w 3 v n) (ρ (44 + 6 * w + 4)) (ρ (44 + 6 * w + 3)) j b then nI j else b) j (-1) = b from hb.symm]; exact (if_neg (fun z => Int32.not_lt.mpr c134 z.2)).symm) hτ130 (by omega) _ _ _ hW (lv_sub hl [0, 3, 4, 5, 6, 7, 8] rfl)
                      · refine lv_iload X.x X.b d_X_giveUp_137 (lv_at hl 2 rfl) ?_
                        refine lv_istore (lv' := [(5, .int (nI j)), (8, .int (nI 1)), (7, .int (nI 1)), (6, .int (nI j)), (4, .int (ρ (44 + 6 * w + 3))), (3, .int (ρ (44 + 6 * w + 4))), (0, .ref (eA E 0)), (1, .int (nI w)), (2, .int (nI n))]) X.x X.b d_X_giveUp_139 hl (by decide) rfl (fun ls hl => ?_)
                        refine lv_iinc (v := nI (j + 1)) (lv' := [(6, .int (nI (j + 1))), (5, .int (nI j)), (8, .int (nI 1)), (7, .int (nI 1)), (4, .int (ρ (44 + 6 * w + 3))), (3, .int (ρ (44 + 6 * w + 4))), (0, .ref (eA E 0)), (1, .int (nI w)), (2, .int (nI n))]) X.x X.b d_X_giveUp_141 hl (k := 3) rfl (by rw [show Int32.ofInt 1 = nI 1 from by decide, nI_add]) (by decide) rfl (fun ls hl => ?_)
                        refine lv_goto (tgt := 59) X.x X.b d_X_giveUp_144 (by decide) ?_
                        exact ih59 (j + 1) (nI j) τ130 (by omega) (by unfold gvS; rw [fo_succ]; rw [show fo (fun j b => if gvC (fun v => gotS ρ w 3 v n) (ρ (44 + 6 * w + 4)) (ρ (44 + 6 * w + 3)) j b then nI j else b) j (-1) = b from hb.symm]; exact (if_pos ⟨⟨c74, Or.inr (Int32.not_le.mp c99)⟩, Int32.not_le.mp c134⟩).symm) hτ130 (by omega) _ _ _ hW (lv_sub hl [0, 1, 4, 5, 6, 7, 8] rfl)
      exact loop59 (256 - 0 + 1) 0 (-1) τ (by omega) rfl hτw (Nat.lt_succ_self _) _ _ _ hW (lv_sub hl [0, 1, 2, 3, 4, 5, 6] rfl)
    · have c18 := b2i_e c18
      have c18 := mt (inR_i (by omega) (by decide)).mpr c18
      omega
set_option maxHeartbeats 1000000 in
set_option maxRecDepth 20000 in
theorem c_X_giveUp_b (l : Launch) (E : QE) (S : QM) (ρ φ : Nat → Int32) (hρ : S 0 = ρ) (hφ : S 14 = φ) (hwf : WF ρ) (x y : Int32) (h : ¬ (isW ρ x ∧ inR 0 20 y)) : qCI E l y_X_giveUp prog_1_method_23_code 9 .int 3 [.ref (eA E 0), .int x, .int y] S (-1000001) (qr S 14 (fnS φ 0)) := by
  refine qCI_of (by decide) (Nat.le_of_ble_eq_true rfl) (fun p e s m below meth c ls X hW hl => ?_)
  have hl : lv_has ls 9 [(0, .ref (eA E 0)), (1, .int x), (2, .int y)] := hl
  have htl := hwf.tl
  have hwl := hwf.wl
  have hdl := hwf.dl
  refine lv_aload_n X.x X.b d_X_giveUp_0 rfl (lv_at hl 0 rfl) ?_
  refine q_getr X hW qj3 rfl _ ds_X 0 (by decide) mw_183 rfl (c1 := cB 0) rfl d_X_giveUp_1 ?_
  refine lv_iload_n X.x X.b d_X_giveUp_4 rfl (lv_at hl 1 rfl) ?_
  refine q_cvi X (c_Cm_hasWalker l E 0 (by decide) S ρ (by rw [hρ]) hwf x) hW (q_recv X hW (ds_cm (k := 0) (by decide)) rfl) ok_Cm_hasWalker mw_265 ⟨by decide, by decide⟩ (As := [.int x]) rfl rfl (Nat.le_of_ble_eq_true rfl) (lv := [(0, .ref (eA E 0)), (1, .int x), (2, .int y)]) hl ⟨Nat.le_refl 0, Nat.le_refl 0⟩ d_X_giveUp_5 (fun H locs hW => ?_)
  refine lv_if_eq (tgt := 21) X.x X.b d_X_giveUp_8 (by decide) (fun c8 => ?_) (fun c8 => ?_)
  · have c8 := b2i_e c8
    refine lv_aload_n X.x X.b d_X_giveUp_21 rfl (lv_at hl 0 rfl) ?_
    refine lv_ldc (v := (-1000001)) X.x X.b X.ow (X.ts _ mw_212) d_X_giveUp_22 ?_
    refine q_cvi X (c_X_told_0 l E S φ (by rw [hφ])) hW (q_recv X hW ds_X rfl) ok_X_told mw_213 ⟨by decide, by decide⟩ (As := [.int (-1000001)]) rfl rfl (Nat.le_of_ble_eq_true rfl) (lv := [(0, .ref (eA E 0)), (1, .int x), (2, .int y)]) hl ⟨Nat.le_refl 0, Nat.le_refl 0⟩ d_X_giveUp_24 (fun H locs hW => ?_)
    have hW : qWH E (qr S 14 (fnS φ 0)) s H locs := hW
    exact q_zret X rfl hW ⟨rfl, rfl⟩ d_X_giveUp_27
  · have c8 := b2i_n c8
    refine lv_iload_n X.x X.b d_X_giveUp_11 rfl (lv_at hl 2 rfl) ?_
    refine lv_iconst (v := nI 0) X.x X.b d_X_giveUp_12 (by decide) ?_
    refine lv_bipush (v := nI 20) X.x X.b d_X_giveUp_13 (by decide) ?_
    refine q_csi X (c_X_within l E S y (nI 0) (nI 20)) hW ok_X_within mw_209 ⟨by decide, by decide⟩ (As := [.int y, .int (nI 0), .int (nI 20)]) rfl rfl (Nat.le_of_ble_eq_true rfl) (lv := [(0, .ref (eA E 0)), (1, .int x), (2, .int y)]) hl ⟨Nat.le_refl 0, Nat.le_refl 0⟩ d_X_giveUp_15 (fun H locs hW => ?_)
    refine lv_if_ne (tgt := 28) X.x X.b d_X_giveUp_18 (by decide) (fun c18 => ?_) (fun c18 => ?_)
    · have c18 := b2i_n c18
      exact absurd ⟨c8, c18⟩ h
    · have c18 := b2i_e c18
      refine lv_aload_n X.x X.b d_X_giveUp_21 rfl (lv_at hl 0 rfl) ?_
      refine lv_ldc (v := (-1000001)) X.x X.b X.ow (X.ts _ mw_212) d_X_giveUp_22 ?_
      refine q_cvi X (c_X_told_0 l E S φ (by rw [hφ])) hW (q_recv X hW ds_X rfl) ok_X_told mw_213 ⟨by decide, by decide⟩ (As := [.int (-1000001)]) rfl rfl (Nat.le_of_ble_eq_true rfl) (lv := [(0, .ref (eA E 0)), (1, .int x), (2, .int y)]) hl ⟨Nat.le_refl 0, Nat.le_refl 0⟩ d_X_giveUp_24 (fun H locs hW => ?_)
      have hW : qWH E (qr S 14 (fnS φ 0)) s H locs := hW
      exact q_zret X rfl hW ⟨rfl, rfl⟩ d_X_giveUp_27
set_option maxHeartbeats 1000000 in
set_option maxRecDepth 20000 in
theorem c_X_odds_0 (l : Launch) (E : QE) (S : QM) (ρ φ τ : Nat → Int32) (hρ : S 0 = ρ) (hφ : S 14 = φ) (hτ : S 2 = τ) (hwf : WF ρ) (w t n : Nat) (hw : w < nW ρ) (ht : t < nT ρ) (hn : n ≤ 15) : qCPl E l y_X_odds prog_1_method_27_code 7 4 [.ref (eA E 0), .int (nI w), .int (nI t), .int (nI n), .int (nI 0)] S (pwS (nI (redF (cntS ρ w t 16) 16).1).toInt64 n) (any S 2 WF) := by
  refine qCPl_of (by decide) (Nat.le_of_ble_eq_true rfl) (fun p e s m below meth c ls X hW hl => ?_)
  have hl : lv_has ls 7 [(0, .ref (eA E 0)), (1, .int (nI w)), (2, .int (nI t)), (3, .int (nI n)), (4, .int (nI 0))] := hl
  have htl := hwf.tl
  have hwl := hwf.wl
  have hdl := hwf.dl
  have hbw : WF (becS τ ρ) := becS_wf hwf
  have hbe : eqv (becS τ ρ) ρ := becS_e hwf
  refine lv_aload_n X.x X.b d_X_odds_0 rfl (lv_at hl 0 rfl) ?_
  refine q_getr X hW qj3 rfl _ ds_X 0 (by decide) mw_183 rfl (c1 := cB 0) rfl d_X_odds_1 ?_
  refine lv_iload_n X.x X.b d_X_odds_4 rfl (lv_at hl 1 rfl) ?_
  refine q_cvi X (c_Cm_hasWalker l E 0 (by decide) S ρ (by rw [hρ]) hwf (nI w)) hW (q_recv X hW (ds_cm (k := 0) (by decide)) rfl) ok_Cm_hasWalker mw_265 ⟨by decide, by decide⟩ (As := [.int (nI w)]) rfl rfl (Nat.le_of_ble_eq_true rfl) (lv := [(0, .ref (eA E 0)), (1, .int (nI w)), (2, .int (nI t)), (3, .int (nI n)), (4, .int (nI 0))]) hl ⟨Nat.le_refl 0, Nat.le_refl 0⟩ d_X_odds_5 (fun H locs hW => ?_)
  refine lv_if_eq (tgt := 42) X.x X.b d_X_odds_8 (by decide) (fun c8 => ?_) (fun c8 => ?_)
  · have c8 := b2i_e c8
    have c8 := mt (isW_i hwf (by omega)).mpr c8
    omega
  · have c8 := b2i_n c8
    have c8 := (isW_i hwf (by omega)).mp c8
    refine lv_aload_n X.x X.b d_X_odds_11 rfl (lv_at hl 0 rfl) ?_
    refine q_getr X hW qj3 rfl _ ds_X 0 (by decide) mw_183 rfl (c1 := cB 0) rfl d_X_odds_12 ?_
    refine lv_iload_n X.x X.b d_X_odds_15 rfl (lv_at hl 2 rfl) ?_
    refine q_cvi X (c_Cm_hasThing l E 0 (by decide) S ρ (by rw [hρ]) hwf (nI t)) hW (q_recv X hW (ds_cm (k := 0) (by decide)) rfl) ok_Cm_hasThing mw_244 ⟨by decide, by decide⟩ (As := [.int (nI t)]) rfl rfl (Nat.le_of_ble_eq_true rfl) (lv := [(0, .ref (eA E 0)), (1, .int (nI w)), (2, .int (nI t)), (3, .int (nI n)), (4, .int (nI 0))]) hl ⟨Nat.le_refl 0, Nat.le_refl 0⟩ d_X_odds_16 (fun H locs hW => ?_)
    refine lv_if_eq (tgt := 42) X.x X.b d_X_odds_19 (by decide) (fun c19 => ?_) (fun c19 => ?_)
    · have c19 := b2i_e c19
      have c19 := mt (isT_i hwf (by omega)).mpr c19
      omega
    · have c19 := b2i_n c19
      have c19 := (isT_i hwf (by omega)).mp c19
      refine lv_iload_n X.x X.b d_X_odds_22 rfl (lv_at hl 3 rfl) ?_
      refine lv_iconst (v := nI 0) X.x X.b d_X_odds_23 (by decide) ?_
      refine lv_bipush (v := nI 15) X.x X.b d_X_odds_24 (by decide) ?_
      refine q_csi X (c_X_within l E S (nI n) (nI 0) (nI 15)) hW ok_X_within mw_209 ⟨by decide, by decide⟩ (As := [.int (nI n), .int (nI 0), .int (nI 15)]) rfl rfl (Nat.le_of_ble_eq_true rfl) (lv := [(0, .ref (eA E 0)), (1, .int (nI w)), (2, .int (nI t)), (3, .int (nI n)), (4, .int (nI 0))]) hl ⟨Nat.le_refl 0, Nat.le_refl 0⟩ d_X_odds_26 (fun H locs hW => ?_)
      refine lv_if_eq (tgt := 42) X.x X.b d_X_odds_29 (by decide) (fun c29 => ?_) (fun c29 => ?_)
      · have c29 := b2i_e c29
        have c29 := mt (inR_i (by omega) (by decide)).mpr c29
        omega
      · have c29 := b2i_n c29
        have c29 := (inR_i (by omega) (by decide)).mp c29
        refine lv_iload X.x X.b d_X_odds_32 (lv_at hl 4 rfl) ?_
        refine lv_iconst (v := nI 0) X.x X.b d_X_odds_34 (by decide) ?_
        refine lv_iconst (v := nI 1) X.x X.b d_X_odds_35 (by decide) ?_
        refine q_csi X (c_X_within l E S (nI 0) (nI 0) (nI 1)) hW ok_X_within mw_209 ⟨by decide, by decide⟩ (As := [.int (nI 0), .int (nI 0), .int (nI 1)]) rfl rfl (Nat.le_of_ble_eq_true rfl) (lv := [(0, .ref (eA E 0)), (1, .int (nI w)), (2, .int (nI t)), (3, .int (nI n)), (4, .int (nI 0))]) hl ⟨Nat.le_refl 0, Nat.le_refl 0⟩ d_X_odds_36 (fun H locs hW => ?_)
        refine lv_if_ne (tgt := 50) X.x X.b d_X_odds_39 (by decide) (fun c39 => ?_) (fun c39 => ?_)
        · have c39 := b2i_n c39
          have c39 := (inR_i (by omega) (by decide)).mp c39
          refine lv_aload_n X.x X.b d_X_odds_50 rfl (lv_at hl 0 rfl) ?_
          refine q_getr X hW qj3 rfl _ ds_X 2 (by decide) mw_185 rfl (c1 := cB 2) rfl d_X_odds_51 ?_
          refine lv_aload_n X.x X.b d_X_odds_54 rfl (lv_at hl 0 rfl) ?_
          refine q_getr X hW qj3 rfl _ ds_X 0 (by decide) mw_183 rfl (c1 := cB 0) rfl d_X_odds_55 ?_
          refine q_cvv X (c_Cm_become l E 2 0 (by decide) (by decide) (by decide) S τ ρ (by rw [hτ]) (by rw [hρ]) hwf) hW (q_recv X hW (ds_cm (k := 2) (by decide)) rfl) ok_Cm_become mw_371 ⟨by decide, by decide⟩ (As := [.ref (eA E (cB 0))]) rfl rfl (Nat.le_of_ble_eq_true rfl) (lv := [(0, .ref (eA E 0)), (1, .int (nI w)), (2, .int (nI t)), (3, .int (nI n)), (4, .int (nI 0))]) hl ⟨Nat.le_refl 0, Nat.le_refl 0⟩ d_X_odds_58 (fun H locs hW => ?_)
          have hW : qWH E (qr S 2 (becS τ ρ)) s H locs := hW
          refine lv_iconst (v := nI 0) X.x X.b d_X_odds_61 (by decide) ?_
          refine lv_istore (lv' := [(5, .int (nI 0)), (0, .ref (eA E 0)), (1, .int (nI w)), (2, .int (nI t)), (3, .int (nI n)), (4, .int (nI 0))]) X.x X.b d_X_odds_62 hl (by decide) rfl (fun ls hl => ?_)
          refine lv_iconst (v := nI 0) X.x X.b d_X_odds_64 (by decide) ?_
          refine lv_istore (lv' := [(6, .int (nI 0)), (5, .int (nI 0)), (0, .ref (eA E 0)), (1, .int (nI w)), (2, .int (nI t)), (3, .int (nI n)), (4, .int (nI 0))]) X.x X.b d_X_odds_65 hl (by decide) rfl (fun ls hl => ?_)
          have loop67 : ∀ (fu67 : Nat) (j : Nat) (q : Nat) (ν : Nat → Int32), j ≤ 16 → q = cntS ρ w t j → WF ν → eqv (upd ν (44 + 6 * w) (nI 0)) (upd ρ (44 + 6 * w) (nI 0)) → 16 - j < fu67 → ∀ (H : Heap) (locs : List Loc) (ls : Array Slot), qWH E (qr S 2 ν) s H locs → lv_has ls 7 [(6, .int (nI j)), (5, .int (nI q)), (0, .ref (eA E 0)), (1, .int (nI w)), (2, .int (nI t)), (3, .int (nI n)), (4, .int (nI 0))] → W p l e (qRm 4) s m ([.ref (eA E 0), .int (nI w), .int (nI t), .int (nI n), .int (nI 0)] : List Value).toArray below meth c H locs 0 0 (MQ below (qQpl E (pwS (nI (redF (cntS ρ w t 16) 16).1).toInt64 n) (any S 2 WF) s.heap.size) ([.ref (eA E 0), .int (nI w), .int (nI t), .int (nI n), .int (nI 0)] : List Value).toArray s 0 0 (qAA E s.heap.size)) (F0 m 67 ls []) := by
            intro fu67
            induction fu67 with
            | zero =>
              intro j q ν hj hq hν hνe hfu
              exact absurd hfu (Nat.not_lt_zero _)
            | succ fu67 ih67 =>
              intro j q ν hj hq hν hνe hfu H locs ls hW hl
              have hql := cntS_le (ρ := ρ) (w := w) (t := t) j
              refine lv_iload X.x X.b d_X_odds_67 (lv_at hl 0 rfl) ?_
              refine lv_bipush (v := nI 16) X.x X.b d_X_odds_69 (by decide) ?_
              refine lv_icmp_ge (tgt := 115) X.x X.b d_X_odds_71 (by decide) (fun c71 => ?_) (fun c71 => ?_)
              · have c71 : 16 ≤ j := (nI_leI (a := 16) (b := j) (by omega) (by omega)).mp c71
                refine lv_bipush (v := nI 16) X.x X.b d_X_odds_115 (by decide) ?_
                refine lv_istore (lv' := [(6, .int (nI 16)), (5, .int (nI q)), (0, .ref (eA E 0)), (1, .int (nI w)), (2, .int (nI t)), (3, .int (nI n)), (4, .int (nI 0))]) X.x X.b d_X_odds_117 hl (by decide) rfl (fun ls hl => ?_)
                have loop119 : ∀ (fu119 : Nat) (a : Nat) (b : Nat), a ≤ 16 → b ≤ 16 → redF a b = redF (cntS ρ w t 16) 16 → b < fu119 → ∀ (H : Heap) (locs : List Loc) (ls : Array Slot), qWH E (qr S 2 ν) s H locs → lv_has ls 7 [(6, .int (nI b)), (5, .int (nI a)), (0, .ref (eA E 0)), (1, .int (nI w)), (2, .int (nI t)), (3, .int (nI n)), (4, .int (nI 0))] → W p l e (qRm 4) s m ([.ref (eA E 0), .int (nI w), .int (nI t), .int (nI n), .int (nI 0)] : List Value).toArray below meth c H locs 0 0 (MQ below (qQpl E (pwS (nI (redF (cntS ρ w t 16) 16).1).toInt64 n) (any S 2 WF) s.heap.size) ([.ref (eA E 0), .int (nI w), .int (nI t), .int (nI n), .int (nI 0)] : List Value).toArray s 0 0 (qAA E s.heap.size)) (F0 m 119 ls []) := by
                  intro fu119
                  induction fu119 with
                  | zero =>
                    intro a b ha hb hr hfu
                    exact absurd hfu (Nat.not_lt_zero _)
                  | succ fu119 ih119 =>
                    intro a b ha hb hr hfu H locs ls hW hl
                    refine lv_iload X.x X.b d_X_odds_119 (lv_at hl 0 rfl) ?_
                    refine lv_iconst (v := nI 1) X.x X.b d_X_odds_121 (by decide) ?_
                    refine lv_icmp_le (tgt := 147) X.x X.b d_X_odds_122 (by decide) (fun c122 => ?_) (fun c122 => ?_)
                    · have c122 : b ≤ 1 := (nI_leI (a := b) (b := 1) (by omega) (by omega)).mp c122
                      refine lv_iload X.x X.b d_X_odds_147 (lv_at hl 6 rfl) ?_
                      refine lv_if_ne (tgt := 158) X.x X.b d_X_odds_149 (by decide) (fun c149 => ?_) (fun c149 => ?_)
                      · exact absurd (by decide) c149
                      · have c149 : 0 = 0 := (nI_eq (a := 0) (b := 0) (by omega) (by omega)).mp c149
                        refine lv_iload X.x X.b d_X_odds_152 (lv_at hl 1 rfl) ?_
                        refine lv_i2l (v := (nI a).toInt64) X.x X.b d_X_odds_154 rfl ?_
                        refine lv_goto (tgt := 161) X.x X.b d_X_odds_155 (by decide) ?_
                        refine lv_iload_n X.x X.b d_X_odds_161 rfl (lv_at hl 5 rfl) ?_
                        refine q_csl X (c_X_power l E (qr S 2 ν) ((nI a).toInt64) n (by omega)) hW ok_X_power mw_463 ⟨by decide, by decide⟩ (As := [.long ((nI a).toInt64), .int (nI n)]) rfl rfl (Nat.le_of_ble_eq_true rfl) (lv := [(6, .int (nI b)), (5, .int (nI a)), (0, .ref (eA E 0)), (1, .int (nI w)), (2, .int (nI t)), (3, .int (nI n)), (4, .int (nI 0))]) hl ⟨Nat.le_refl 0, Nat.le_refl 0⟩ d_X_odds_162 (fun H locs hW => ?_)
                        exact q_plret X hW ⟨by rw [← hr, redF_e (by omega)], ⟨_, hν, rfl⟩⟩ d_X_odds_165
                    · have c122 : ¬ b ≤ 1 := fun z => c122 ((nI_leI (a := b) (b := 1) (by omega) (by omega)).mpr z)
                      refine lv_iload X.x X.b d_X_odds_125 (lv_at hl 1 rfl) ?_
                      refine lv_iconst (v := nI 2) X.x X.b d_X_odds_127 (by decide) ?_
                      refine lv_irem X.x X.b d_X_odds_128 (by decide) ?_
                      rw [pk_rem (by omega) (by decide) (by decide)]
                      refine lv_if_ne (tgt := 147) X.x X.b d_X_odds_129 (by decide) (fun c129 => ?_) (fun c129 => ?_)
                      · have c129 : ¬ (a % 2) = 0 := fun z => c129 ((nI_eq (a := (a % 2)) (b := 0) (by omega) (by omega)).mpr z)
                        refine lv_iload X.x X.b d_X_odds_147 (lv_at hl 6 rfl) ?_
                        refine lv_if_ne (tgt := 158) X.x X.b d_X_odds_149 (by decide) (fun c149 => ?_) (fun c149 => ?_)
                        · exact absurd (by decide) c149
                        · have c149 : 0 = 0 := (nI_eq (a := 0) (b := 0) (by omega) (by omega)).mp c149
                          refine lv_iload X.x X.b d_X_odds_152 (lv_at hl 1 rfl) ?_
                          refine lv_i2l (v := (nI a).toInt64) X.x X.b d_X_odds_154 rfl ?_
                          refine lv_goto (tgt := 161) X.x X.b d_X_odds_155 (by decide) ?_
                          refine lv_iload_n X.x X.b d_X_odds_161 rfl (lv_at hl 5 rfl) ?_
                          refine q_csl X (c_X_power l E (qr S 2 ν) ((nI a).toInt64) n (by omega)) hW ok_X_power mw_463 ⟨by decide, by decide⟩ (As := [.long ((nI a).toInt64), .int (nI n)]) rfl rfl (Nat.le_of_ble_eq_true rfl) (lv := [(6, .int (nI b)), (5, .int (nI a)), (0, .ref (eA E 0)), (1, .int (nI w)), (2, .int (nI t)), (3, .int (nI n)), (4, .int (nI 0))]) hl ⟨Nat.le_refl 0, Nat.le_refl 0⟩ d_X_odds_162 (fun H locs hW => ?_)
                          exact q_plret X hW ⟨by rw [← hr, redF_e (by omega)], ⟨_, hν, rfl⟩⟩ d_X_odds_165
                      · have c129 : (a % 2) = 0 := (nI_eq (a := (a % 2)) (b := 0) (by omega) (by omega)).mp c129
                        refine lv_iload X.x X.b d_X_odds_132 (lv_at hl 1 rfl) ?_
                        refine lv_iconst (v := nI 2) X.x X.b d_X_odds_134 (by decide) ?_
                        refine lv_idiv X.x X.b d_X_odds_135 (by decide) ?_
                        rw [pk_div (by omega) (by decide) (by decide)]
                        refine lv_istore (lv' := [(5, .int (nI (a / 2))), (6, .int (nI b)), (0, .ref (eA E 0)), (1, .int (nI w)), (2, .int (nI t)), (3, .int (nI n)), (4, .int (nI 0))]) X.x X.b d_X_odds_136 hl (by decide) rfl (fun ls hl => ?_)
                        refine lv_iload X.x X.b d_X_odds_138 (lv_at hl 1 rfl) ?_
                        refine lv_iconst (v := nI 2) X.x X.b d_X_odds_140 (by decide) ?_
                        refine lv_idiv X.x X.b d_X_odds_141 (by decide) ?_
                        rw [pk_div (by omega) (by decide) (by decide)]
                        refine lv_istore (lv' := [(6, .int (nI (b / 2))), (5, .int (nI (a / 2))), (0, .ref (eA E 0)), (1, .int (nI w)), (2, .int (nI t)), (3, .int (nI n)), (4, .int (nI 0))]) X.x X.b d_X_odds_142 hl (by decide) rfl (fun ls hl => ?_)
                        refine lv_goto (tgt := 119) X.x X.b d_X_odds_144 (by decide) ?_
                        exact ih119 (a / 2) (b / 2) (by omega) (by omega) (by rw [← hr]; exact (redF_s ha hb ⟨by omega, c129⟩).symm) (by omega) _ _ _ hW (lv_sub hl [0, 1, 2, 3, 4, 5, 6] rfl)
                exact loop119 (16 + 1) q 16 (by omega) (by omega) (by rw [hq, show j = 16 by omega]) (Nat.lt_succ_self _) _ _ _ hW (lv_sub hl [0, 1, 2, 3, 4, 5, 6] rfl)
              · have c71 : ¬ 16 ≤ j := fun z => c71 ((nI_leI (a := 16) (b := j) (by omega) (by omega)).mpr z)
                refine lv_aload_n X.x X.b d_X_odds_74 rfl (lv_at hl 2 rfl) ?_
                refine q_getr X hW qj3 rfl _ ds_X 2 (by decide) mw_185 rfl (c1 := cB 2) rfl d_X_odds_75 ?_
                refine q_getr X hW qj0 rfl _ (ds_cm (k := 2) (by decide)) 2 (by decide) mw_106 rfl (c1 := cB 2 + 3) rfl d_X_odds_78 ?_
                refine lv_iload_n X.x X.b d_X_odds_81 rfl (lv_at hl 3 rfl) ?_
                refine g_wk (show 2 < 3 by decide) X hW (show w < 6 by omega) d_X_odds_82 ?_
                refine lv_iconst (v := nI 0) X.x X.b d_X_odds_83 (by decide) ?_
                refine lv_iload X.x X.b d_X_odds_84 (lv_at hl 0 rfl) ?_
                refine g_ast X hW (ds_w (w := w) (k := 2) (by decide) (by omega)) (q_in (by omega) (by decide)) (p0 := 44 + 6 * w) (q_tn (by omega) (by omega)) (ρ := ν) (by rw [qr_at]) d_X_odds_86 (fun H locs hW => ?_)
                obtain ⟨r86, er86⟩ : ∃ z, z = upd ν (44 + 6 * w) (nI j) := ⟨_, rfl⟩
                rw [← er86] at hW
                rw [qr_qr] at hW
                have hw86 : WF r86 := by rw [er86, ← upd_upd (x := nI 0)]; exact WF_e (hνe.up _ (by omega) (by omega)) (by rw [upd_upd]; exact WF_wc hwf (by omega) (by omega))
                have he86 : eqv r86 (upd ρ (44 + 6 * w) (nI j)) := by rw [er86, ← upd_upd (x := nI 0), ← upd_upd (f := ρ) (x := nI 0)]; exact hνe.up _ (by omega) (by omega)
                have hn86 : nW r86 = nW ρ ∧ nT r86 = nT ρ := ⟨by rw [he86.nW, nW_up (by omega)], by rw [he86.nT, nT_up (by omega)]⟩
                refine lv_iload X.x X.b d_X_odds_87 (lv_at hl 1 rfl) ?_
                refine lv_aload_n X.x X.b d_X_odds_89 rfl (lv_at hl 2 rfl) ?_
                refine q_getr X hW qj3 rfl _ ds_X 2 (by decide) mw_185 rfl (c1 := cB 2) rfl d_X_odds_90 ?_
                refine lv_iload_n X.x X.b d_X_odds_93 rfl (lv_at hl 3 rfl) ?_
                refine lv_iload_n X.x X.b d_X_odds_94 rfl (lv_at hl 4 rfl) ?_
                refine q_cvi X (c_Cm_canSee l E 2 (by decide) (qr S 2 r86) r86 (by rw [qr_at]) hw86 w t (by omega) (by omega)) hW (q_recv X hW (ds_cm (k := 2) (by decide)) rfl) ok_Cm_canSee mw_281 ⟨by decide, by decide⟩ (As := [.int (nI w), .int (nI t)]) rfl rfl (Nat.le_of_ble_eq_true rfl) (lv := [(6, .int (nI j)), (5, .int (nI q)), (0, .ref (eA E 0)), (1, .int (nI w)), (2, .int (nI t)), (3, .int (nI n)), (4, .int (nI 0))]) hl ⟨Nat.le_refl 0, Nat.le_refl 0⟩ d_X_odds_95 (fun H locs hW => ?_)
                rw [show b2i (see r86 w t) = b2i (see (upd ρ (44 + 6 * w) (nI j)) w t) from b2i_c (see_e he86 (by omega) (by omega))]
                refine lv_if_eq (tgt := 105) X.x X.b d_X_odds_98 (by decide) (fun c98 => ?_) (fun c98 => ?_)
                · have c98 := b2i_e c98
                  refine lv_iconst (v := nI 0) X.x X.b d_X_odds_105 (by decide) ?_
                  refine lv_iadd X.x X.b d_X_odds_106 ?_
                  rw [nI_add]
                  refine lv_istore (lv' := [(5, .int (nI (q + 0))), (6, .int (nI j)), (0, .ref (eA E 0)), (1, .int (nI w)), (2, .int (nI t)), (3, .int (nI n)), (4, .int (nI 0))]) X.x X.b d_X_odds_107 hl (by decide) rfl (fun ls hl => ?_)
                  refine lv_iinc (v := nI (j + 1)) (lv' := [(6, .int (nI (j + 1))), (5, .int (nI (q + 0))), (0, .ref (eA E 0)), (1, .int (nI w)), (2, .int (nI t)), (3, .int (nI n)), (4, .int (nI 0))]) X.x X.b d_X_odds_109 hl (k := 1) rfl (by rw [show Int32.ofInt 1 = nI 1 from by decide, nI_add]) (by decide) rfl (fun ls hl => ?_)
                  refine lv_goto (tgt := 67) X.x X.b d_X_odds_112 (by decide) ?_
                  exact ih67 (j + 1) (q + 0) r86 (by omega) (by show _ = (if see (upd ρ (44 + 6 * w) (nI j)) w t then cntS ρ w t j + 1 else cntS ρ w t j); rw [← hq]; first | exact (if_pos c98).symm | exact (if_neg c98).symm) hw86 (by rw [er86, upd_upd]; exact hνe) (by omega) _ _ _ hW (lv_sub hl [0, 1, 2, 3, 4, 5, 6] rfl)
                · have c98 := b2i_n c98
                  refine lv_iconst (v := nI 1) X.x X.b d_X_odds_101 (by decide) ?_
                  refine lv_goto (tgt := 106) X.x X.b d_X_odds_102 (by decide) ?_
                  refine lv_iadd X.x X.b d_X_odds_106 ?_
                  rw [nI_add]
                  refine lv_istore (lv' := [(5, .int (nI (q + 1))), (6, .int (nI j)), (0, .ref (eA E 0)), (1, .int (nI w)), (2, .int (nI t)), (3, .int (nI n)), (4, .int (nI 0))]) X.x X.b d_X_odds_107 hl (by decide) rfl (fun ls hl => ?_)
                  refine lv_iinc (v := nI (j + 1)) (lv' := [(6, .int (nI (j + 1))), (5, .int (nI (q + 1))), (0, .ref (eA E 0)), (1, .int (nI w)), (2, .int (nI t)), (3, .int (nI n)), (4, .int (nI 0))]) X.x X.b d_X_odds_109 hl (k := 1) rfl (by rw [show Int32.ofInt 1 = nI 1 from by decide, nI_add]) (by decide) rfl (fun ls hl => ?_)
                  refine lv_goto (tgt := 67) X.x X.b d_X_odds_112 (by decide) ?_
                  exact ih67 (j + 1) (q + 1) r86 (by omega) (by show _ = (if see (upd ρ (44 + 6 * w) (nI j)) w t then cntS ρ w t j + 1 else cntS ρ w t j); rw [← hq]; first | exact (if_pos c98).symm | exact (if_neg c98).symm) hw86 (by rw [er86, upd_upd]; exact hνe) (by omega) _ _ _ hW (lv_sub hl [0, 1, 2, 3, 4, 5, 6] rfl)
          exact loop67 (16 - 0 + 1) 0 0 (becS τ ρ) (by omega) rfl hbw (hbe.up _ (by omega) (by omega)) (Nat.lt_succ_self _) _ _ _ hW (lv_sub hl [0, 1, 2, 3, 4, 5, 6] rfl)
        · have c39 := b2i_e c39
          have c39 := mt (inR_i (by omega) (by decide)).mpr c39
          omega
set_option maxHeartbeats 1000000 in
set_option maxRecDepth 20000 in
theorem c_X_odds_1 (l : Launch) (E : QE) (S : QM) (ρ φ τ : Nat → Int32) (hρ : S 0 = ρ) (hφ : S 14 = φ) (hτ : S 2 = τ) (hwf : WF ρ) (w t n : Nat) (hw : w < nW ρ) (ht : t < nT ρ) (hn : n ≤ 15) : qCPl E l y_X_odds prog_1_method_27_code 7 4 [.ref (eA E 0), .int (nI w), .int (nI t), .int (nI n), .int (nI 1)] S (pwS (nI (redF (cntS ρ w t 16) 16).2).toInt64 n) (any S 2 WF) := by
  refine qCPl_of (by decide) (Nat.le_of_ble_eq_true rfl) (fun p e s m below meth c ls X hW hl => ?_)
  have hl : lv_has ls 7 [(0, .ref (eA E 0)), (1, .int (nI w)), (2, .int (nI t)), (3, .int (nI n)), (4, .int (nI 1))] := hl
  have htl := hwf.tl
  have hwl := hwf.wl
  have hdl := hwf.dl
  have hbw : WF (becS τ ρ) := becS_wf hwf
  have hbe : eqv (becS τ ρ) ρ := becS_e hwf
  refine lv_aload_n X.x X.b d_X_odds_0 rfl (lv_at hl 0 rfl) ?_
  refine q_getr X hW qj3 rfl _ ds_X 0 (by decide) mw_183 rfl (c1 := cB 0) rfl d_X_odds_1 ?_
  refine lv_iload_n X.x X.b d_X_odds_4 rfl (lv_at hl 1 rfl) ?_
  refine q_cvi X (c_Cm_hasWalker l E 0 (by decide) S ρ (by rw [hρ]) hwf (nI w)) hW (q_recv X hW (ds_cm (k := 0) (by decide)) rfl) ok_Cm_hasWalker mw_265 ⟨by decide, by decide⟩ (As := [.int (nI w)]) rfl rfl (Nat.le_of_ble_eq_true rfl) (lv := [(0, .ref (eA E 0)), (1, .int (nI w)), (2, .int (nI t)), (3, .int (nI n)), (4, .int (nI 1))]) hl ⟨Nat.le_refl 0, Nat.le_refl 0⟩ d_X_odds_5 (fun H locs hW => ?_)
  refine lv_if_eq (tgt := 42) X.x X.b d_X_odds_8 (by decide) (fun c8 => ?_) (fun c8 => ?_)
  · have c8 := b2i_e c8
    have c8 := mt (isW_i hwf (by omega)).mpr c8
    omega
  · have c8 := b2i_n c8
    have c8 := (isW_i hwf (by omega)).mp c8
    refine lv_aload_n X.x X.b d_X_odds_11 rfl (lv_at hl 0 rfl) ?_
    refine q_getr X hW qj3 rfl _ ds_X 0 (by decide) mw_183 rfl (c1 := cB 0) rfl d_X_odds_12 ?_
    refine lv_iload_n X.x X.b d_X_odds_15 rfl (lv_at hl 2 rfl) ?_
    refine q_cvi X (c_Cm_hasThing l E 0 (by decide) S ρ (by rw [hρ]) hwf (nI t)) hW (q_recv X hW (ds_cm (k := 0) (by decide)) rfl) ok_Cm_hasThing mw_244 ⟨by decide, by decide⟩ (As := [.int (nI t)]) rfl rfl (Nat.le_of_ble_eq_true rfl) (lv := [(0, .ref (eA E 0)), (1, .int (nI w)), (2, .int (nI t)), (3, .int (nI n)), (4, .int (nI 1))]) hl ⟨Nat.le_refl 0, Nat.le_refl 0⟩ d_X_odds_16 (fun H locs hW => ?_)
    refine lv_if_eq (tgt := 42) X.x X.b d_X_odds_19 (by decide) (fun c19 => ?_) (fun c19 => ?_)
    · have c19 := b2i_e c19
      have c19 := mt (isT_i hwf (by omega)).mpr c19
      omega
    · have c19 := b2i_n c19
      have c19 := (isT_i hwf (by omega)).mp c19
      refine lv_iload_n X.x X.b d_X_odds_22 rfl (lv_at hl 3 rfl) ?_
      refine lv_iconst (v := nI 0) X.x X.b d_X_odds_23 (by decide) ?_
      refine lv_bipush (v := nI 15) X.x X.b d_X_odds_24 (by decide) ?_
      refine q_csi X (c_X_within l E S (nI n) (nI 0) (nI 15)) hW ok_X_within mw_209 ⟨by decide, by decide⟩ (As := [.int (nI n), .int (nI 0), .int (nI 15)]) rfl rfl (Nat.le_of_ble_eq_true rfl) (lv := [(0, .ref (eA E 0)), (1, .int (nI w)), (2, .int (nI t)), (3, .int (nI n)), (4, .int (nI 1))]) hl ⟨Nat.le_refl 0, Nat.le_refl 0⟩ d_X_odds_26 (fun H locs hW => ?_)
      refine lv_if_eq (tgt := 42) X.x X.b d_X_odds_29 (by decide) (fun c29 => ?_) (fun c29 => ?_)
      · have c29 := b2i_e c29
        have c29 := mt (inR_i (by omega) (by decide)).mpr c29
        omega
      · have c29 := b2i_n c29
        have c29 := (inR_i (by omega) (by decide)).mp c29
        refine lv_iload X.x X.b d_X_odds_32 (lv_at hl 4 rfl) ?_
        refine lv_iconst (v := nI 0) X.x X.b d_X_odds_34 (by decide) ?_
        refine lv_iconst (v := nI 1) X.x X.b d_X_odds_35 (by decide) ?_
        refine q_csi X (c_X_within l E S (nI 1) (nI 0) (nI 1)) hW ok_X_within mw_209 ⟨by decide, by decide⟩ (As := [.int (nI 1), .int (nI 0), .int (nI 1)]) rfl rfl (Nat.le_of_ble_eq_true rfl) (lv := [(0, .ref (eA E 0)), (1, .int (nI w)), (2, .int (nI t)), (3, .int (nI n)), (4, .int (nI 1))]) hl ⟨Nat.le_refl 0, Nat.le_refl 0⟩ d_X_odds_36 (fun H locs hW => ?_)
        refine lv_if_ne (tgt := 50) X.x X.b d_X_odds_39 (by decide) (fun c39 => ?_) (fun c39 => ?_)
        · have c39 := b2i_n c39
          have c39 := (inR_i (by omega) (by decide)).mp c39
          refine lv_aload_n X.x X.b d_X_odds_50 rfl (lv_at hl 0 rfl) ?_
          refine q_getr X hW qj3 rfl _ ds_X 2 (by decide) mw_185 rfl (c1 := cB 2) rfl d_X_odds_51 ?_
          refine lv_aload_n X.x X.b d_X_odds_54 rfl (lv_at hl 0 rfl) ?_
          refine q_getr X hW qj3 rfl _ ds_X 0 (by decide) mw_183 rfl (c1 := cB 0) rfl d_X_odds_55 ?_
          refine q_cvv X (c_Cm_become l E 2 0 (by decide) (by decide) (by decide) S τ ρ (by rw [hτ]) (by rw [hρ]) hwf) hW (q_recv X hW (ds_cm (k := 2) (by decide)) rfl) ok_Cm_become mw_371 ⟨by decide, by decide⟩ (As := [.ref (eA E (cB 0))]) rfl rfl (Nat.le_of_ble_eq_true rfl) (lv := [(0, .ref (eA E 0)), (1, .int (nI w)), (2, .int (nI t)), (3, .int (nI n)), (4, .int (nI 1))]) hl ⟨Nat.le_refl 0, Nat.le_refl 0⟩ d_X_odds_58 (fun H locs hW => ?_)
          have hW : qWH E (qr S 2 (becS τ ρ)) s H locs := hW
          refine lv_iconst (v := nI 0) X.x X.b d_X_odds_61 (by decide) ?_
          refine lv_istore (lv' := [(5, .int (nI 0)), (0, .ref (eA E 0)), (1, .int (nI w)), (2, .int (nI t)), (3, .int (nI n)), (4, .int (nI 1))]) X.x X.b d_X_odds_62 hl (by decide) rfl (fun ls hl => ?_)
          refine lv_iconst (v := nI 0) X.x X.b d_X_odds_64 (by decide) ?_
          refine lv_istore (lv' := [(6, .int (nI 0)), (5, .int (nI 0)), (0, .ref (eA E 0)), (1, .int (nI w)), (2, .int (nI t)), (3, .int (nI n)), (4, .int (nI 1))]) X.x X.b d_X_odds_65 hl (by decide) rfl (fun ls hl => ?_)
          have loop67 : ∀ (fu67 : Nat) (j : Nat) (q : Nat) (ν : Nat → Int32), j ≤ 16 → q = cntS ρ w t j → WF ν → eqv (upd ν (44 + 6 * w) (nI 0)) (upd ρ (44 + 6 * w) (nI 0)) → 16 - j < fu67 → ∀ (H : Heap) (locs : List Loc) (ls : Array Slot), qWH E (qr S 2 ν) s H locs → lv_has ls 7 [(6, .int (nI j)), (5, .int (nI q)), (0, .ref (eA E 0)), (1, .int (nI w)), (2, .int (nI t)), (3, .int (nI n)), (4, .int (nI 1))] → W p l e (qRm 4) s m ([.ref (eA E 0), .int (nI w), .int (nI t), .int (nI n), .int (nI 1)] : List Value).toArray below meth c H locs 0 0 (MQ below (qQpl E (pwS (nI (redF (cntS ρ w t 16) 16).2).toInt64 n) (any S 2 WF) s.heap.size) ([.ref (eA E 0), .int (nI w), .int (nI t), .int (nI n), .int (nI 1)] : List Value).toArray s 0 0 (qAA E s.heap.size)) (F0 m 67 ls []) := by
            intro fu67
            induction fu67 with
            | zero =>
              intro j q ν hj hq hν hνe hfu
              exact absurd hfu (Nat.not_lt_zero _)
            | succ fu67 ih67 =>
              intro j q ν hj hq hν hνe hfu H locs ls hW hl
              have hql := cntS_le (ρ := ρ) (w := w) (t := t) j
              refine lv_iload X.x X.b d_X_odds_67 (lv_at hl 0 rfl) ?_
              refine lv_bipush (v := nI 16) X.x X.b d_X_odds_69 (by decide) ?_
              refine lv_icmp_ge (tgt := 115) X.x X.b d_X_odds_71 (by decide) (fun c71 => ?_) (fun c71 => ?_)
              · have c71 : 16 ≤ j := (nI_leI (a := 16) (b := j) (by omega) (by omega)).mp c71
                refine lv_bipush (v := nI 16) X.x X.b d_X_odds_115 (by decide) ?_
                refine lv_istore (lv' := [(6, .int (nI 16)), (5, .int (nI q)), (0, .ref (eA E 0)), (1, .int (nI w)), (2, .int (nI t)), (3, .int (nI n)), (4, .int (nI 1))]) X.x X.b d_X_odds_117 hl (by decide) rfl (fun ls hl => ?_)
                have loop119 : ∀ (fu119 : Nat) (a : Nat) (b : Nat), a ≤ 16 → b ≤ 16 → redF a b = redF (cntS ρ w t 16) 16 → b < fu119 → ∀ (H : Heap) (locs : List Loc) (ls : Array Slot), qWH E (qr S 2 ν) s H locs → lv_has ls 7 [(6, .int (nI b)), (5, .int (nI a)), (0, .ref (eA E 0)), (1, .int (nI w)), (2, .int (nI t)), (3, .int (nI n)), (4, .int (nI 1))] → W p l e (qRm 4) s m ([.ref (eA E 0), .int (nI w), .int (nI t), .int (nI n), .int (nI 1)] : List Value).toArray below meth c H locs 0 0 (MQ below (qQpl E (pwS (nI (redF (cntS ρ w t 16) 16).2).toInt64 n) (any S 2 WF) s.heap.size) ([.ref (eA E 0), .int (nI w), .int (nI t), .int (nI n), .int (nI 1)] : List Value).toArray s 0 0 (qAA E s.heap.size)) (F0 m 119 ls []) := by
                  intro fu119
                  induction fu119 with
                  | zero =>
                    intro a b ha hb hr hfu
                    exact absurd hfu (Nat.not_lt_zero _)
                  | succ fu119 ih119 =>
                    intro a b ha hb hr hfu H locs ls hW hl
                    refine lv_iload X.x X.b d_X_odds_119 (lv_at hl 0 rfl) ?_
                    refine lv_iconst (v := nI 1) X.x X.b d_X_odds_121 (by decide) ?_
                    refine lv_icmp_le (tgt := 147) X.x X.b d_X_odds_122 (by decide) (fun c122 => ?_) (fun c122 => ?_)
                    · have c122 : b ≤ 1 := (nI_leI (a := b) (b := 1) (by omega) (by omega)).mp c122
                      refine lv_iload X.x X.b d_X_odds_147 (lv_at hl 6 rfl) ?_
                      refine lv_if_ne (tgt := 158) X.x X.b d_X_odds_149 (by decide) (fun c149 => ?_) (fun c149 => ?_)
                      · have c149 : ¬ 1 = 0 := fun z => c149 ((nI_eq (a := 1) (b := 0) (by omega) (by omega)).mpr z)
                        refine lv_iload X.x X.b d_X_odds_158 (lv_at hl 0 rfl) ?_
                        refine lv_i2l (v := (nI b).toInt64) X.x X.b d_X_odds_160 rfl ?_
                        refine lv_iload_n X.x X.b d_X_odds_161 rfl (lv_at hl 5 rfl) ?_
                        refine q_csl X (c_X_power l E (qr S 2 ν) ((nI b).toInt64) n (by omega)) hW ok_X_power mw_463 ⟨by decide, by decide⟩ (As := [.long ((nI b).toInt64), .int (nI n)]) rfl rfl (Nat.le_of_ble_eq_true rfl) (lv := [(6, .int (nI b)), (5, .int (nI a)), (0, .ref (eA E 0)), (1, .int (nI w)), (2, .int (nI t)), (3, .int (nI n)), (4, .int (nI 1))]) hl ⟨Nat.le_refl 0, Nat.le_refl 0⟩ d_X_odds_162 (fun H locs hW => ?_)
                        exact q_plret X hW ⟨by rw [← hr, redF_e (by omega)], ⟨_, hν, rfl⟩⟩ d_X_odds_165
                      · exact absurd c149 (by decide)
                    · have c122 : ¬ b ≤ 1 := fun z => c122 ((nI_leI (a := b) (b := 1) (by omega) (by omega)).mpr z)
                      refine lv_iload X.x X.b d_X_odds_125 (lv_at hl 1 rfl) ?_
                      refine lv_iconst (v := nI 2) X.x X.b d_X_odds_127 (by decide) ?_
                      refine lv_irem X.x X.b d_X_odds_128 (by decide) ?_
                      rw [pk_rem (by omega) (by decide) (by decide)]
                      refine lv_if_ne (tgt := 147) X.x X.b d_X_odds_129 (by decide) (fun c129 => ?_) (fun c129 => ?_)
                      · have c129 : ¬ (a % 2) = 0 := fun z => c129 ((nI_eq (a := (a % 2)) (b := 0) (by omega) (by omega)).mpr z)
                        refine lv_iload X.x X.b d_X_odds_147 (lv_at hl 6 rfl) ?_
                        refine lv_if_ne (tgt := 158) X.x X.b d_X_odds_149 (by decide) (fun c149 => ?_) (fun c149 => ?_)
                        · have c149 : ¬ 1 = 0 := fun z => c149 ((nI_eq (a := 1) (b := 0) (by omega) (by omega)).mpr z)
                          refine lv_iload X.x X.b d_X_odds_158 (lv_at hl 0 rfl) ?_
                          refine lv_i2l (v := (nI b).toInt64) X.x X.b d_X_odds_160 rfl ?_
                          refine lv_iload_n X.x X.b d_X_odds_161 rfl (lv_at hl 5 rfl) ?_
                          refine q_csl X (c_X_power l E (qr S 2 ν) ((nI b).toInt64) n (by omega)) hW ok_X_power mw_463 ⟨by decide, by decide⟩ (As := [.long ((nI b).toInt64), .int (nI n)]) rfl rfl (Nat.le_of_ble_eq_true rfl) (lv := [(6, .int (nI b)), (5, .int (nI a)), (0, .ref (eA E 0)), (1, .int (nI w)), (2, .int (nI t)), (3, .int (nI n)), (4, .int (nI 1))]) hl ⟨Nat.le_refl 0, Nat.le_refl 0⟩ d_X_odds_162 (fun H locs hW => ?_)
                          exact q_plret X hW ⟨by rw [← hr, redF_e (by omega)], ⟨_, hν, rfl⟩⟩ d_X_odds_165
                        · exact absurd c149 (by decide)
                      · have c129 : (a % 2) = 0 := (nI_eq (a := (a % 2)) (b := 0) (by omega) (by omega)).mp c129
                        refine lv_iload X.x X.b d_X_odds_132 (lv_at hl 1 rfl) ?_
                        refine lv_iconst (v := nI 2) X.x X.b d_X_odds_134 (by decide) ?_
                        refine lv_idiv X.x X.b d_X_odds_135 (by decide) ?_
                        rw [pk_div (by omega) (by decide) (by decide)]
                        refine lv_istore (lv' := [(5, .int (nI (a / 2))), (6, .int (nI b)), (0, .ref (eA E 0)), (1, .int (nI w)), (2, .int (nI t)), (3, .int (nI n)), (4, .int (nI 1))]) X.x X.b d_X_odds_136 hl (by decide) rfl (fun ls hl => ?_)
                        refine lv_iload X.x X.b d_X_odds_138 (lv_at hl 1 rfl) ?_
                        refine lv_iconst (v := nI 2) X.x X.b d_X_odds_140 (by decide) ?_
                        refine lv_idiv X.x X.b d_X_odds_141 (by decide) ?_
                        rw [pk_div (by omega) (by decide) (by decide)]
                        refine lv_istore (lv' := [(6, .int (nI (b / 2))), (5, .int (nI (a / 2))), (0, .ref (eA E 0)), (1, .int (nI w)), (2, .int (nI t)), (3, .int (nI n)), (4, .int (nI 1))]) X.x X.b d_X_odds_142 hl (by decide) rfl (fun ls hl => ?_)
                        refine lv_goto (tgt := 119) X.x X.b d_X_odds_144 (by decide) ?_
                        exact ih119 (a / 2) (b / 2) (by omega) (by omega) (by rw [← hr]; exact (redF_s ha hb ⟨by omega, c129⟩).symm) (by omega) _ _ _ hW (lv_sub hl [0, 1, 2, 3, 4, 5, 6] rfl)
                exact loop119 (16 + 1) q 16 (by omega) (by omega) (by rw [hq, show j = 16 by omega]) (Nat.lt_succ_self _) _ _ _ hW (lv_sub hl [0, 1, 2, 3, 4, 5, 6] rfl)
              · have c71 : ¬ 16 ≤ j := fun z => c71 ((nI_leI (a := 16) (b := j) (by omega) (by omega)).mpr z)
                refine lv_aload_n X.x X.b d_X_odds_74 rfl (lv_at hl 2 rfl) ?_
                refine q_getr X hW qj3 rfl _ ds_X 2 (by decide) mw_185 rfl (c1 := cB 2) rfl d_X_odds_75 ?_
                refine q_getr X hW qj0 rfl _ (ds_cm (k := 2) (by decide)) 2 (by decide) mw_106 rfl (c1 := cB 2 + 3) rfl d_X_odds_78 ?_
                refine lv_iload_n X.x X.b d_X_odds_81 rfl (lv_at hl 3 rfl) ?_
                refine g_wk (show 2 < 3 by decide) X hW (show w < 6 by omega) d_X_odds_82 ?_
                refine lv_iconst (v := nI 0) X.x X.b d_X_odds_83 (by decide) ?_
                refine lv_iload X.x X.b d_X_odds_84 (lv_at hl 0 rfl) ?_
                refine g_ast X hW (ds_w (w := w) (k := 2) (by decide) (by omega)) (q_in (by omega) (by decide)) (p0 := 44 + 6 * w) (q_tn (by omega) (by omega)) (ρ := ν) (by rw [qr_at]) d_X_odds_86 (fun H locs hW => ?_)
                obtain ⟨r86, er86⟩ : ∃ z, z = upd ν (44 + 6 * w) (nI j) := ⟨_, rfl⟩
                rw [← er86] at hW
                rw [qr_qr] at hW
                have hw86 : WF r86 := by rw [er86, ← upd_upd (x := nI 0)]; exact WF_e (hνe.up _ (by omega) (by omega)) (by rw [upd_upd]; exact WF_wc hwf (by omega) (by omega))
                have he86 : eqv r86 (upd ρ (44 + 6 * w) (nI j)) := by rw [er86, ← upd_upd (x := nI 0), ← upd_upd (f := ρ) (x := nI 0)]; exact hνe.up _ (by omega) (by omega)
                have hn86 : nW r86 = nW ρ ∧ nT r86 = nT ρ := ⟨by rw [he86.nW, nW_up (by omega)], by rw [he86.nT, nT_up (by omega)]⟩
                refine lv_iload X.x X.b d_X_odds_87 (lv_at hl 1 rfl) ?_
                refine lv_aload_n X.x X.b d_X_odds_89 rfl (lv_at hl 2 rfl) ?_
                refine q_getr X hW qj3 rfl _ ds_X 2 (by decide) mw_185 rfl (c1 := cB 2) rfl d_X_odds_90 ?_
                refine lv_iload_n X.x X.b d_X_odds_93 rfl (lv_at hl 3 rfl) ?_
                refine lv_iload_n X.x X.b d_X_odds_94 rfl (lv_at hl 4 rfl) ?_
                refine q_cvi X (c_Cm_canSee l E 2 (by decide) (qr S 2 r86) r86 (by rw [qr_at]) hw86 w t (by omega) (by omega)) hW (q_recv X hW (ds_cm (k := 2) (by decide)) rfl) ok_Cm_canSee mw_281 ⟨by decide, by decide⟩ (As := [.int (nI w), .int (nI t)]) rfl rfl (Nat.le_of_ble_eq_true rfl) (lv := [(6, .int (nI j)), (5, .int (nI q)), (0, .ref (eA E 0)), (1, .int (nI w)), (2, .int (nI t)), (3, .int (nI n)), (4, .int (nI 1))]) hl ⟨Nat.le_refl 0, Nat.le_refl 0⟩ d_X_odds_95 (fun H locs hW => ?_)
                rw [show b2i (see r86 w t) = b2i (see (upd ρ (44 + 6 * w) (nI j)) w t) from b2i_c (see_e he86 (by omega) (by omega))]
                refine lv_if_eq (tgt := 105) X.x X.b d_X_odds_98 (by decide) (fun c98 => ?_) (fun c98 => ?_)
                · have c98 := b2i_e c98
                  refine lv_iconst (v := nI 0) X.x X.b d_X_odds_105 (by decide) ?_
                  refine lv_iadd X.x X.b d_X_odds_106 ?_
                  rw [nI_add]
                  refine lv_istore (lv' := [(5, .int (nI (q + 0))), (6, .int (nI j)), (0, .ref (eA E 0)), (1, .int (nI w)), (2, .int (nI t)), (3, .int (nI n)), (4, .int (nI 1))]) X.x X.b d_X_odds_107 hl (by decide) rfl (fun ls hl => ?_)
                  refine lv_iinc (v := nI (j + 1)) (lv' := [(6, .int (nI (j + 1))), (5, .int (nI (q + 0))), (0, .ref (eA E 0)), (1, .int (nI w)), (2, .int (nI t)), (3, .int (nI n)), (4, .int (nI 1))]) X.x X.b d_X_odds_109 hl (k := 1) rfl (by rw [show Int32.ofInt 1 = nI 1 from by decide, nI_add]) (by decide) rfl (fun ls hl => ?_)
                  refine lv_goto (tgt := 67) X.x X.b d_X_odds_112 (by decide) ?_
                  exact ih67 (j + 1) (q + 0) r86 (by omega) (by show _ = (if see (upd ρ (44 + 6 * w) (nI j)) w t then cntS ρ w t j + 1 else cntS ρ w t j); rw [← hq]; first | exact (if_pos c98).symm | exact (if_neg c98).symm) hw86 (by rw [er86, upd_upd]; exact hνe) (by omega) _ _ _ hW (lv_sub hl [0, 1, 2, 3, 4, 5, 6] rfl)
                · have c98 := b2i_n c98
                  refine lv_iconst (v := nI 1) X.x X.b d_X_odds_101 (by decide) ?_
                  refine lv_goto (tgt := 106) X.x X.b d_X_odds_102 (by decide) ?_
                  refine lv_iadd X.x X.b d_X_odds_106 ?_
                  rw [nI_add]
                  refine lv_istore (lv' := [(5, .int (nI (q + 1))), (6, .int (nI j)), (0, .ref (eA E 0)), (1, .int (nI w)), (2, .int (nI t)), (3, .int (nI n)), (4, .int (nI 1))]) X.x X.b d_X_odds_107 hl (by decide) rfl (fun ls hl => ?_)
                  refine lv_iinc (v := nI (j + 1)) (lv' := [(6, .int (nI (j + 1))), (5, .int (nI (q + 1))), (0, .ref (eA E 0)), (1, .int (nI w)), (2, .int (nI t)), (3, .int (nI n)), (4, .int (nI 1))]) X.x X.b d_X_odds_109 hl (k := 1) rfl (by rw [show Int32.ofInt 1 = nI 1 from by decide, nI_add]) (by decide) rfl (fun ls hl => ?_)
                  refine lv_goto (tgt := 67) X.x X.b d_X_odds_112 (by decide) ?_
                  exact ih67 (j + 1) (q + 1) r86 (by omega) (by show _ = (if see (upd ρ (44 + 6 * w) (nI j)) w t then cntS ρ w t j + 1 else cntS ρ w t j); rw [← hq]; first | exact (if_pos c98).symm | exact (if_neg c98).symm) hw86 (by rw [er86, upd_upd]; exact hνe) (by omega) _ _ _ hW (lv_sub hl [0, 1, 2, 3, 4, 5, 6] rfl)
          exact loop67 (16 - 0 + 1) 0 0 (becS τ ρ) (by omega) rfl hbw (hbe.up _ (by omega) (by omega)) (Nat.lt_succ_self _) _ _ _ hW (lv_sub hl [0, 1, 2, 3, 4, 5, 6] rfl)
        · have c39 := b2i_e c39
          have c39 := mt (inR_i (by omega) (by decide)).mpr c39
          omega
set_option maxHeartbeats 1000000 in
set_option maxRecDepth 20000 in
theorem c_X_odds_b (l : Launch) (E : QE) (S : QM) (ρ φ : Nat → Int32) (hρ : S 0 = ρ) (hφ : S 14 = φ) (hwf : WF ρ) (x y z u : Int32) (h : ¬ (isW ρ x ∧ isT ρ y ∧ inR 0 15 z ∧ inR 0 1 u)) : qCL E l y_X_odds prog_1_method_27_code 7 3 [.ref (eA E 0), .int x, .int y, .int z, .int u] S ((-1000001 : Int32).toInt64) (qr S 14 (fnS φ 0)) := by
  refine qCL_of (by decide) (Nat.le_of_ble_eq_true rfl) (fun p e s m below meth c ls X hW hl => ?_)
  have hl : lv_has ls 7 [(0, .ref (eA E 0)), (1, .int x), (2, .int y), (3, .int z), (4, .int u)] := hl
  have htl := hwf.tl
  have hwl := hwf.wl
  have hdl := hwf.dl
  refine lv_aload_n X.x X.b d_X_odds_0 rfl (lv_at hl 0 rfl) ?_
  refine q_getr X hW qj3 rfl _ ds_X 0 (by decide) mw_183 rfl (c1 := cB 0) rfl d_X_odds_1 ?_
  refine lv_iload_n X.x X.b d_X_odds_4 rfl (lv_at hl 1 rfl) ?_
  refine q_cvi X (c_Cm_hasWalker l E 0 (by decide) S ρ (by rw [hρ]) hwf x) hW (q_recv X hW (ds_cm (k := 0) (by decide)) rfl) ok_Cm_hasWalker mw_265 ⟨by decide, by decide⟩ (As := [.int x]) rfl rfl (Nat.le_of_ble_eq_true rfl) (lv := [(0, .ref (eA E 0)), (1, .int x), (2, .int y), (3, .int z), (4, .int u)]) hl ⟨Nat.le_refl 0, Nat.le_refl 0⟩ d_X_odds_5 (fun H locs hW => ?_)
  refine lv_if_eq (tgt := 42) X.x X.b d_X_odds_8 (by decide) (fun c8 => ?_) (fun c8 => ?_)
  · have c8 := b2i_e c8
    refine lv_aload_n X.x X.b d_X_odds_42 rfl (lv_at hl 0 rfl) ?_
    refine lv_ldc (v := (-1000001)) X.x X.b X.ow (X.ts _ mw_212) d_X_odds_43 ?_
    refine q_cvi X (c_X_told_0 l E S φ (by rw [hφ])) hW (q_recv X hW ds_X rfl) ok_X_told mw_213 ⟨by decide, by decide⟩ (As := [.int (-1000001)]) rfl rfl (Nat.le_of_ble_eq_true rfl) (lv := [(0, .ref (eA E 0)), (1, .int x), (2, .int y), (3, .int z), (4, .int u)]) hl ⟨Nat.le_refl 0, Nat.le_refl 0⟩ d_X_odds_45 (fun H locs hW => ?_)
    have hW : qWH E (qr S 14 (fnS φ 0)) s H locs := hW
    refine lv_i2l (v := (-1000001).toInt64) X.x X.b d_X_odds_48 rfl ?_
    exact q_lret X hW ⟨rfl, rfl⟩ d_X_odds_49
  · have c8 := b2i_n c8
    refine lv_aload_n X.x X.b d_X_odds_11 rfl (lv_at hl 0 rfl) ?_
    refine q_getr X hW qj3 rfl _ ds_X 0 (by decide) mw_183 rfl (c1 := cB 0) rfl d_X_odds_12 ?_
    refine lv_iload_n X.x X.b d_X_odds_15 rfl (lv_at hl 2 rfl) ?_
    refine q_cvi X (c_Cm_hasThing l E 0 (by decide) S ρ (by rw [hρ]) hwf y) hW (q_recv X hW (ds_cm (k := 0) (by decide)) rfl) ok_Cm_hasThing mw_244 ⟨by decide, by decide⟩ (As := [.int y]) rfl rfl (Nat.le_of_ble_eq_true rfl) (lv := [(0, .ref (eA E 0)), (1, .int x), (2, .int y), (3, .int z), (4, .int u)]) hl ⟨Nat.le_refl 0, Nat.le_refl 0⟩ d_X_odds_16 (fun H locs hW => ?_)
    refine lv_if_eq (tgt := 42) X.x X.b d_X_odds_19 (by decide) (fun c19 => ?_) (fun c19 => ?_)
    · have c19 := b2i_e c19
      refine lv_aload_n X.x X.b d_X_odds_42 rfl (lv_at hl 0 rfl) ?_
      refine lv_ldc (v := (-1000001)) X.x X.b X.ow (X.ts _ mw_212) d_X_odds_43 ?_
      refine q_cvi X (c_X_told_0 l E S φ (by rw [hφ])) hW (q_recv X hW ds_X rfl) ok_X_told mw_213 ⟨by decide, by decide⟩ (As := [.int (-1000001)]) rfl rfl (Nat.le_of_ble_eq_true rfl) (lv := [(0, .ref (eA E 0)), (1, .int x), (2, .int y), (3, .int z), (4, .int u)]) hl ⟨Nat.le_refl 0, Nat.le_refl 0⟩ d_X_odds_45 (fun H locs hW => ?_)
      have hW : qWH E (qr S 14 (fnS φ 0)) s H locs := hW
      refine lv_i2l (v := (-1000001).toInt64) X.x X.b d_X_odds_48 rfl ?_
      exact q_lret X hW ⟨rfl, rfl⟩ d_X_odds_49
    · have c19 := b2i_n c19
      refine lv_iload_n X.x X.b d_X_odds_22 rfl (lv_at hl 3 rfl) ?_
      refine lv_iconst (v := nI 0) X.x X.b d_X_odds_23 (by decide) ?_
      refine lv_bipush (v := nI 15) X.x X.b d_X_odds_24 (by decide) ?_
      refine q_csi X (c_X_within l E S z (nI 0) (nI 15)) hW ok_X_within mw_209 ⟨by decide, by decide⟩ (As := [.int z, .int (nI 0), .int (nI 15)]) rfl rfl (Nat.le_of_ble_eq_true rfl) (lv := [(0, .ref (eA E 0)), (1, .int x), (2, .int y), (3, .int z), (4, .int u)]) hl ⟨Nat.le_refl 0, Nat.le_refl 0⟩ d_X_odds_26 (fun H locs hW => ?_)
      refine lv_if_eq (tgt := 42) X.x X.b d_X_odds_29 (by decide) (fun c29 => ?_) (fun c29 => ?_)
      · have c29 := b2i_e c29
        refine lv_aload_n X.x X.b d_X_odds_42 rfl (lv_at hl 0 rfl) ?_
        refine lv_ldc (v := (-1000001)) X.x X.b X.ow (X.ts _ mw_212) d_X_odds_43 ?_
        refine q_cvi X (c_X_told_0 l E S φ (by rw [hφ])) hW (q_recv X hW ds_X rfl) ok_X_told mw_213 ⟨by decide, by decide⟩ (As := [.int (-1000001)]) rfl rfl (Nat.le_of_ble_eq_true rfl) (lv := [(0, .ref (eA E 0)), (1, .int x), (2, .int y), (3, .int z), (4, .int u)]) hl ⟨Nat.le_refl 0, Nat.le_refl 0⟩ d_X_odds_45 (fun H locs hW => ?_)
        have hW : qWH E (qr S 14 (fnS φ 0)) s H locs := hW
        refine lv_i2l (v := (-1000001).toInt64) X.x X.b d_X_odds_48 rfl ?_
        exact q_lret X hW ⟨rfl, rfl⟩ d_X_odds_49
      · have c29 := b2i_n c29
        refine lv_iload X.x X.b d_X_odds_32 (lv_at hl 4 rfl) ?_
        refine lv_iconst (v := nI 0) X.x X.b d_X_odds_34 (by decide) ?_
        refine lv_iconst (v := nI 1) X.x X.b d_X_odds_35 (by decide) ?_
        refine q_csi X (c_X_within l E S u (nI 0) (nI 1)) hW ok_X_within mw_209 ⟨by decide, by decide⟩ (As := [.int u, .int (nI 0), .int (nI 1)]) rfl rfl (Nat.le_of_ble_eq_true rfl) (lv := [(0, .ref (eA E 0)), (1, .int x), (2, .int y), (3, .int z), (4, .int u)]) hl ⟨Nat.le_refl 0, Nat.le_refl 0⟩ d_X_odds_36 (fun H locs hW => ?_)
        refine lv_if_ne (tgt := 50) X.x X.b d_X_odds_39 (by decide) (fun c39 => ?_) (fun c39 => ?_)
        · have c39 := b2i_n c39
          exact absurd ⟨c8, c19, c29, c39⟩ h
        · have c39 := b2i_e c39
          refine lv_aload_n X.x X.b d_X_odds_42 rfl (lv_at hl 0 rfl) ?_
          refine lv_ldc (v := (-1000001)) X.x X.b X.ow (X.ts _ mw_212) d_X_odds_43 ?_
          refine q_cvi X (c_X_told_0 l E S φ (by rw [hφ])) hW (q_recv X hW ds_X rfl) ok_X_told mw_213 ⟨by decide, by decide⟩ (As := [.int (-1000001)]) rfl rfl (Nat.le_of_ble_eq_true rfl) (lv := [(0, .ref (eA E 0)), (1, .int x), (2, .int y), (3, .int z), (4, .int u)]) hl ⟨Nat.le_refl 0, Nat.le_refl 0⟩ d_X_odds_45 (fun H locs hW => ?_)
          have hW : qWH E (qr S 14 (fnS φ 0)) s H locs := hW
          refine lv_i2l (v := (-1000001).toInt64) X.x X.b d_X_odds_48 rfl ?_
          exact q_lret X hW ⟨rfl, rfl⟩ d_X_odds_49
set_option maxHeartbeats 1000000 in
set_option maxRecDepth 20000 in
theorem c_X_morning_s (l : Launch) (E : QE) (S : QM) (ρ φ : Nat → Int32) (hρ : S 0 = ρ) (hφ : S 14 = φ) (hwf : WF ρ) (n : Nat) (h1 : 1 ≤ n) (hn : n ≤ 20) (hs : ¬ nD ρ ≤ 99999 - n) : qCI E l y_X_morning prog_1_method_26_code 5 .int 5 [.ref (eA E 0), .int (nI n)] S (-1000005) (qr S 14 (fnS φ 4)) := by
  refine qCI_of (by decide) (Nat.le_of_ble_eq_true rfl) (fun p e s m below meth c ls X hW hl => ?_)
  have hl : lv_has ls 5 [(0, .ref (eA E 0)), (1, .int (nI n))] := hl
  have htl := hwf.tl
  have hwl := hwf.wl
  have hdl := hwf.dl
  refine lv_iload_n X.x X.b d_X_morning_0 rfl (lv_at hl 1 rfl) ?_
  refine lv_iconst (v := nI 1) X.x X.b d_X_morning_1 (by decide) ?_
  refine lv_bipush (v := nI 20) X.x X.b d_X_morning_2 (by decide) ?_
  refine q_csi X (c_X_within l E S (nI n) (nI 1) (nI 20)) hW ok_X_within mw_209 ⟨by decide, by decide⟩ (As := [.int (nI n), .int (nI 1), .int (nI 20)]) rfl rfl (Nat.le_of_ble_eq_true rfl) (lv := [(0, .ref (eA E 0)), (1, .int (nI n))]) hl ⟨Nat.le_refl 0, Nat.le_refl 0⟩ d_X_morning_4 (fun H locs hW => ?_)
  refine lv_if_ne (tgt := 17) X.x X.b d_X_morning_7 (by decide) (fun c7 => ?_) (fun c7 => ?_)
  · have c7 := b2i_n c7
    have c7 := (inR_i (by omega) (by decide)).mp c7
    refine lv_aload_n X.x X.b d_X_morning_17 rfl (lv_at hl 0 rfl) ?_
    refine q_getr X hW qj3 rfl _ ds_X 0 (by decide) mw_183 rfl (c1 := cB 0) rfl d_X_morning_18 ?_
    refine g_geti X hW qj0 rfl _ (ds_cm (k := 0) (by decide)) 6 (by decide) mw_116 rfl (r0 := 0) (p0 := 0) rfl (v := ρ 0) (by rw [hρ]) d_X_morning_21 ?_
    rw [hwf.d]
    refine lv_ldc (v := nI 99999) X.x X.b X.ow (X.ts _ mw_303) d_X_morning_24 ?_
    refine lv_iload_n X.x X.b d_X_morning_26 rfl (lv_at hl 1 rfl) ?_
    refine lv_isub X.x X.b d_X_morning_27 ?_
    rw [pk_sub (by omega)]
    refine lv_icmp_le (tgt := 38) X.x X.b d_X_morning_28 (by decide) (fun c28 => ?_) (fun c28 => ?_)
    · have c28 : (nD ρ) ≤ (99999 - n) := (nI_leI (a := (nD ρ)) (b := (99999 - n)) (by omega) (by omega)).mp c28
      omega
    · have c28 : ¬ (nD ρ) ≤ (99999 - n) := fun z => c28 ((nI_leI (a := (nD ρ)) (b := (99999 - n)) (by omega) (by omega)).mpr z)
      refine lv_aload_n X.x X.b d_X_morning_31 rfl (lv_at hl 0 rfl) ?_
      refine lv_ldc (v := (-1000005)) X.x X.b X.ow (X.ts _ mw_304) d_X_morning_32 ?_
      refine q_cvi X (c_X_told_4 l E S φ (by rw [hφ])) hW (q_recv X hW ds_X rfl) ok_X_told mw_213 ⟨by decide, by decide⟩ (As := [.int (-1000005)]) rfl rfl (Nat.le_of_ble_eq_true rfl) (lv := [(0, .ref (eA E 0)), (1, .int (nI n))]) hl ⟨Nat.le_refl 0, Nat.le_refl 0⟩ d_X_morning_34 (fun H locs hW => ?_)
      have hW : qWH E (qr S 14 (fnS φ 4)) s H locs := hW
      exact q_zret X rfl hW ⟨rfl, rfl⟩ d_X_morning_37
  · have c7 := b2i_e c7
    have c7 := mt (inR_i (by omega) (by decide)).mpr c7
    omega
set_option maxHeartbeats 1000000 in
set_option maxRecDepth 20000 in
theorem c_X_morning_g (l : Launch) (E : QE) (S : QM) (ρ φ : Nat → Int32) (hρ : S 0 = ρ) (hφ : S 14 = φ) (hwf : WF ρ) (n : Nat) (h1 : 1 ≤ n) (hn : n ≤ 20) (hs : nD ρ ≤ 99999 - n) : qCI E l y_X_morning prog_1_method_26_code 5 .int 5 [.ref (eA E 0), .int (nI n)] S (sumS (fo (fun _ => mrnS) n ρ) 4) (qr S 0 (fo (fun _ => mrnS) n ρ)) := by
  refine qCI_of (by decide) (Nat.le_of_ble_eq_true rfl) (fun p e s m below meth c ls X hW hl => ?_)
  have hl : lv_has ls 5 [(0, .ref (eA E 0)), (1, .int (nI n))] := hl
  have htl := hwf.tl
  have hwl := hwf.wl
  have hdl := hwf.dl
  refine lv_iload_n X.x X.b d_X_morning_0 rfl (lv_at hl 1 rfl) ?_
  refine lv_iconst (v := nI 1) X.x X.b d_X_morning_1 (by decide) ?_
  refine lv_bipush (v := nI 20) X.x X.b d_X_morning_2 (by decide) ?_
  refine q_csi X (c_X_within l E S (nI n) (nI 1) (nI 20)) hW ok_X_within mw_209 ⟨by decide, by decide⟩ (As := [.int (nI n), .int (nI 1), .int (nI 20)]) rfl rfl (Nat.le_of_ble_eq_true rfl) (lv := [(0, .ref (eA E 0)), (1, .int (nI n))]) hl ⟨Nat.le_refl 0, Nat.le_refl 0⟩ d_X_morning_4 (fun H locs hW => ?_)
  refine lv_if_ne (tgt := 17) X.x X.b d_X_morning_7 (by decide) (fun c7 => ?_) (fun c7 => ?_)
  · have c7 := b2i_n c7
    have c7 := (inR_i (by omega) (by decide)).mp c7
    refine lv_aload_n X.x X.b d_X_morning_17 rfl (lv_at hl 0 rfl) ?_
    refine q_getr X hW qj3 rfl _ ds_X 0 (by decide) mw_183 rfl (c1 := cB 0) rfl d_X_morning_18 ?_
    refine g_geti X hW qj0 rfl _ (ds_cm (k := 0) (by decide)) 6 (by decide) mw_116 rfl (r0 := 0) (p0 := 0) rfl (v := ρ 0) (by rw [hρ]) d_X_morning_21 ?_
    rw [hwf.d]
    refine lv_ldc (v := nI 99999) X.x X.b X.ow (X.ts _ mw_303) d_X_morning_24 ?_
    refine lv_iload_n X.x X.b d_X_morning_26 rfl (lv_at hl 1 rfl) ?_
    refine lv_isub X.x X.b d_X_morning_27 ?_
    rw [pk_sub (by omega)]
    refine lv_icmp_le (tgt := 38) X.x X.b d_X_morning_28 (by decide) (fun c28 => ?_) (fun c28 => ?_)
    · have c28 : (nD ρ) ≤ (99999 - n) := (nI_leI (a := (nD ρ)) (b := (99999 - n)) (by omega) (by omega)).mp c28
      refine lv_iconst (v := nI 0) X.x X.b d_X_morning_38 (by decide) ?_
      refine lv_istore_n (lv' := [(2, .int (nI 0)), (0, .ref (eA E 0)), (1, .int (nI n))]) X.x X.b d_X_morning_39 rfl hl (by decide) rfl (fun ls hl => ?_)
      have hW : qWH E (qr S 0 ρ) s H locs := by rw [← hρ, qr_self]; exact hW
      have loop40 : ∀ (fu40 : Nat) (j : Nat) (μ : Nat → Int32), j ≤ n → μ = fo (fun _ => mrnS) j ρ → n - j < fu40 → ∀ (H : Heap) (locs : List Loc) (ls : Array Slot), qWH E (qr S 0 μ) s H locs → lv_has ls 5 [(2, .int (nI j)), (0, .ref (eA E 0)), (1, .int (nI n))] → W p l e (qRm 5) s m ([.ref (eA E 0), .int (nI n)] : List Value).toArray below meth c H locs 0 0 (MQ below (qQi E (sumS (fo (fun _ => mrnS) n ρ) 4) (qr S 0 (fo (fun _ => mrnS) n ρ)) s.heap.size) ([.ref (eA E 0), .int (nI n)] : List Value).toArray s 0 0 (qAA E s.heap.size)) (F0 m 40 ls []) := by
        intro fu40
        induction fu40 with
        | zero =>
          intro j μ hj hm hfu
          exact absurd hfu (Nat.not_lt_zero _)
        | succ fu40 ih40 =>
          intro j μ hj hm hfu H locs ls hW hl
          have hμ : WF μ := hm ▸ mrns_ok hwf j
          refine lv_iload_n X.x X.b d_X_morning_40 rfl (lv_at hl 0 rfl) ?_
          refine lv_iload_n X.x X.b d_X_morning_41 rfl (lv_at hl 2 rfl) ?_
          refine lv_icmp_ge (tgt := 106) X.x X.b d_X_morning_42 (by decide) (fun c42 => ?_) (fun c42 => ?_)
          · have c42 : n ≤ j := (nI_leI (a := n) (b := j) (by omega) (by omega)).mp c42
            refine lv_aload_n X.x X.b d_X_morning_106 rfl (lv_at hl 1 rfl) ?_
            refine q_getr X hW qj3 rfl _ ds_X 0 (by decide) mw_183 rfl (c1 := cB 0) rfl d_X_morning_107 ?_
            refine lv_iconst (v := nI 4) X.x X.b d_X_morning_110 (by decide) ?_
            refine q_cvi X (c_Cm_sumOf l E 0 (by decide) (qr S 0 μ) μ (by rw [qr_at]) hμ 4 (by omega)) hW (q_recv X hW (ds_cm (k := 0) (by decide)) rfl) ok_Cm_sumOf mw_338 ⟨by decide, by decide⟩ (As := [.int (nI 4)]) rfl rfl (Nat.le_of_ble_eq_true rfl) (lv := [(2, .int (nI j)), (0, .ref (eA E 0)), (1, .int (nI n))]) hl ⟨Nat.le_refl 0, Nat.le_refl 0⟩ d_X_morning_111 (fun H locs hW => ?_)
            exact q_zret X rfl hW ⟨by rw [hm, show j = n by omega], by rw [hm, show j = n by omega]⟩ d_X_morning_114
          · have c42 : ¬ n ≤ j := fun z => c42 ((nI_leI (a := n) (b := j) (by omega) (by omega)).mpr z)
            refine lv_aload_n X.x X.b d_X_morning_45 rfl (lv_at hl 1 rfl) ?_
            refine q_getr X hW qj3 rfl _ ds_X 0 (by decide) mw_183 rfl (c1 := cB 0) rfl d_X_morning_46 ?_
            refine q_cvi X (c_Cm_draw l E 0 (by decide) (qr S 0 μ) μ (by rw [qr_at]) hμ) hW (q_recv X hW (ds_cm (k := 0) (by decide)) rfl) ok_Cm_draw mw_454 ⟨by decide, by decide⟩ (As := []) rfl rfl (Nat.le_of_ble_eq_true rfl) (lv := [(2, .int (nI j)), (0, .ref (eA E 0)), (1, .int (nI n))]) hl ⟨Nat.le_refl 0, Nat.le_refl 0⟩ d_X_morning_49 (fun H locs hW => ?_)
            have hW : qWH E (qr S 0 (upd μ 2 (nxt (μ 2)))) s H locs := (by have h := hW; rw [qr_qr] at h; exact h)
            refine lv_bipush (v := nI 6) X.x X.b d_X_morning_52 (by decide) ?_
            refine lv_irem X.x X.b d_X_morning_54 (by decide) ?_
            refine lv_istore_n (lv' := [(3, .int ((drw (nxt (μ 2))) - (drw (nxt (μ 2))) / (nI 6) * (nI 6))), (2, .int (nI j)), (0, .ref (eA E 0)), (1, .int (nI n))]) X.x X.b d_X_morning_55 rfl hl (by decide) rfl (fun ls hl => ?_)
            refine lv_aload_n X.x X.b d_X_morning_56 rfl (lv_at hl 2 rfl) ?_
            refine q_getr X hW qj3 rfl _ ds_X 0 (by decide) mw_183 rfl (c1 := cB 0) rfl d_X_morning_57 ?_
            refine q_cvi X (c_Cm_draw l E 0 (by decide) (qr S 0 (upd μ 2 (nxt (μ 2)))) (upd μ 2 (nxt (μ 2))) (by rw [qr_at]) (WF_free hμ (by omega))) hW (q_recv X hW (ds_cm (k := 0) (by decide)) rfl) ok_Cm_draw mw_454 ⟨by decide, by decide⟩ (As := []) rfl rfl (Nat.le_of_ble_eq_true rfl) (lv := [(3, .int ((drw (nxt (μ 2))) - (drw (nxt (μ 2))) / (nI 6) * (nI 6))), (2, .int (nI j)), (0, .ref (eA E 0)), (1, .int (nI n))]) hl ⟨Nat.le_refl 0, Nat.le_refl 0⟩ d_X_morning_60 (fun H locs hW => ?_)
            have hW : qWH E (qr S 0 (upd (upd μ 2 (nxt (μ 2))) 2 (nxt ((upd μ 2 (nxt (μ 2))) 2)))) s H locs := (by have h := hW; rw [qr_qr] at h; exact h)
            rw [show (upd μ 2 (nxt (μ 2))) 2 = nxt (μ 2) from upd_at] at hW ⊢
            refine lv_bipush (v := nI 8) X.x X.b d_X_morning_63 (by decide) ?_
            refine lv_irem X.x X.b d_X_morning_65 (by decide) ?_
            refine lv_istore (lv' := [(4, .int ((drw (nxt (nxt (μ 2)))) - (drw (nxt (nxt (μ 2)))) / (nI 8) * (nI 8))), (3, .int ((drw (nxt (μ 2))) - (drw (nxt (μ 2))) / (nI 6) * (nI 6))), (2, .int (nI j)), (0, .ref (eA E 0)), (1, .int (nI n))]) X.x X.b d_X_morning_66 hl (by decide) rfl (fun ls hl => ?_)
            refine lv_aload_n X.x X.b d_X_morning_68 rfl (lv_at hl 3 rfl) ?_
            refine q_getr X hW qj3 rfl _ ds_X 0 (by decide) mw_183 rfl (c1 := cB 0) rfl d_X_morning_69 ?_
            refine q_getr X hW qj0 rfl _ (ds_cm (k := 0) (by decide)) 0 (by decide) mw_100 rfl (c1 := cB 0 + 1) rfl d_X_morning_72 ?_
            refine lv_aload_n X.x X.b d_X_morning_75 rfl (lv_at hl 3 rfl) ?_
            refine q_getr X hW qj3 rfl _ ds_X 0 (by decide) mw_183 rfl (c1 := cB 0) rfl d_X_morning_76 ?_
            refine g_geti X hW qj0 rfl _ (ds_cm (k := 0) (by decide)) 6 (by decide) mw_116 rfl (r0 := 0) (p0 := 0) rfl (v := (upd (upd μ 2 (nxt (μ 2))) 2 (nxt (nxt (μ 2)))) 0) (by rw [qr_at]) d_X_morning_79 ?_
            have hdμ := hμ.dl
            rw [show (upd (upd μ 2 (nxt (μ 2))) 2 (nxt (nxt (μ 2)))) 0 = nI (nD μ) from by rw [upN (by omega), upN (by omega)]; exact hμ.d]
            refine lv_bipush (v := nI 6) X.x X.b d_X_morning_82 (by decide) ?_
            refine lv_irem X.x X.b d_X_morning_84 (by decide) ?_
            rw [pk_rem (by omega) (by decide) (by decide)]
            refine lv_bipush (v := nI 10) X.x X.b d_X_morning_85 (by decide) ?_
            refine lv_iload_n X.x X.b d_X_morning_87 rfl (lv_at hl 1 rfl) ?_
            refine lv_imul X.x X.b d_X_morning_88 ?_
            refine lv_iload X.x X.b d_X_morning_89 (lv_at hl 0 rfl) ?_
            refine lv_iadd X.x X.b d_X_morning_91 ?_
            refine g_ast X hW (ds_ls (k := 0) (by decide)) (q_in (by omega) (by decide)) (p0 := 4 + ((nD μ) % 6)) (q_tn (by omega) (by omega)) (ρ := upd (upd μ 2 (nxt (μ 2))) 2 (nxt (nxt (μ 2)))) (by rw [qr_at]) d_X_morning_92 (fun H locs hW => ?_)
            obtain ⟨r92, er92⟩ : ∃ z, z = upd (upd (upd μ 2 (nxt (μ 2))) 2 (nxt (nxt (μ 2)))) (4 + ((nD μ) % 6)) (((nI 10) * ((drw (nxt (μ 2))) - (drw (nxt (μ 2))) / (nI 6) * (nI 6))) + ((drw (nxt (nxt (μ 2)))) - (drw (nxt (nxt (μ 2)))) / (nI 8) * (nI 8))) := ⟨_, rfl⟩
            rw [← er92] at hW
            rw [qr_qr] at hW
            have hw92 : WF r92 := by rw [er92]; exact mrn_wf hμ
            refine lv_aload_n X.x X.b d_X_morning_93 rfl (lv_at hl 3 rfl) ?_
            refine q_getr X hW qj3 rfl _ ds_X 0 (by decide) mw_183 rfl (c1 := cB 0) rfl d_X_morning_94 ?_
            refine q_cvv X (c_Cm_passDay l E 0 (by decide) (qr S 0 r92) r92 (by rw [qr_at]) hw92) hW (q_recv X hW (ds_cm (k := 0) (by decide)) rfl) ok_Cm_passDay mw_305 ⟨by decide, by decide⟩ (As := []) rfl rfl (Nat.le_of_ble_eq_true rfl) (lv := [(4, .int ((drw (nxt (nxt (μ 2)))) - (drw (nxt (nxt (μ 2)))) / (nI 8) * (nI 8))), (3, .int ((drw (nxt (μ 2))) - (drw (nxt (μ 2))) / (nI 6) * (nI 6))), (2, .int (nI j)), (0, .ref (eA E 0)), (1, .int (nI n))]) hl ⟨Nat.le_refl 0, Nat.le_refl 0⟩ d_X_morning_97 (fun H locs hW => ?_)
            have hW : qWH E (qr S 0 (dayS r92)) s H locs := (by have h := hW; rw [qr_qr] at h; exact h)
            refine lv_iinc (v := nI (j + 1)) (lv' := [(2, .int (nI (j + 1))), (4, .int ((drw (nxt (nxt (μ 2)))) - (drw (nxt (nxt (μ 2)))) / (nI 8) * (nI 8))), (3, .int ((drw (nxt (μ 2))) - (drw (nxt (μ 2))) / (nI 6) * (nI 6))), (0, .ref (eA E 0)), (1, .int (nI n))]) X.x X.b d_X_morning_100 hl (k := 2) rfl (by rw [show Int32.ofInt 1 = nI 1 from by decide, nI_add]) (by decide) rfl (fun ls hl => ?_)
            refine lv_goto (tgt := 40) X.x X.b d_X_morning_103 (by decide) ?_
            exact ih40 (j + 1) (dayS r92) (by omega) (by rw [fo_succ, ← hm, er92]; rfl) (by omega) _ _ _ hW (lv_sub hl [0, 3, 4] rfl)
      exact loop40 (n - 0 + 1) 0 ρ (by omega) rfl (Nat.lt_succ_self _) _ _ _ hW (lv_sub hl [0, 1, 2] rfl)
    · have c28 : ¬ (nD ρ) ≤ (99999 - n) := fun z => c28 ((nI_leI (a := (nD ρ)) (b := (99999 - n)) (by omega) (by omega)).mpr z)
      omega
  · have c7 := b2i_e c7
    have c7 := mt (inR_i (by omega) (by decide)).mpr c7
    omega
set_option maxHeartbeats 1000000 in
set_option maxRecDepth 20000 in
theorem c_X_morning_b (l : Launch) (E : QE) (S : QM) (ρ φ : Nat → Int32) (hρ : S 0 = ρ) (hφ : S 14 = φ) (hwf : WF ρ) (x : Int32) (h : ¬ (inR 1 20 x)) : qCI E l y_X_morning prog_1_method_26_code 5 .int 3 [.ref (eA E 0), .int x] S (-1000001) (qr S 14 (fnS φ 0)) := by
  refine qCI_of (by decide) (Nat.le_of_ble_eq_true rfl) (fun p e s m below meth c ls X hW hl => ?_)
  have hl : lv_has ls 5 [(0, .ref (eA E 0)), (1, .int x)] := hl
  have htl := hwf.tl
  have hwl := hwf.wl
  have hdl := hwf.dl
  refine lv_iload_n X.x X.b d_X_morning_0 rfl (lv_at hl 1 rfl) ?_
  refine lv_iconst (v := nI 1) X.x X.b d_X_morning_1 (by decide) ?_
  refine lv_bipush (v := nI 20) X.x X.b d_X_morning_2 (by decide) ?_
  refine q_csi X (c_X_within l E S x (nI 1) (nI 20)) hW ok_X_within mw_209 ⟨by decide, by decide⟩ (As := [.int x, .int (nI 1), .int (nI 20)]) rfl rfl (Nat.le_of_ble_eq_true rfl) (lv := [(0, .ref (eA E 0)), (1, .int x)]) hl ⟨Nat.le_refl 0, Nat.le_refl 0⟩ d_X_morning_4 (fun H locs hW => ?_)
  refine lv_if_ne (tgt := 17) X.x X.b d_X_morning_7 (by decide) (fun c7 => ?_) (fun c7 => ?_)
  · have c7 := b2i_n c7
    exact absurd c7 h
  · have c7 := b2i_e c7
    refine lv_aload_n X.x X.b d_X_morning_10 rfl (lv_at hl 0 rfl) ?_
    refine lv_ldc (v := (-1000001)) X.x X.b X.ow (X.ts _ mw_212) d_X_morning_11 ?_
    refine q_cvi X (c_X_told_0 l E S φ (by rw [hφ])) hW (q_recv X hW ds_X rfl) ok_X_told mw_213 ⟨by decide, by decide⟩ (As := [.int (-1000001)]) rfl rfl (Nat.le_of_ble_eq_true rfl) (lv := [(0, .ref (eA E 0)), (1, .int x)]) hl ⟨Nat.le_refl 0, Nat.le_refl 0⟩ d_X_morning_13 (fun H locs hW => ?_)
    have hW : qWH E (qr S 14 (fnS φ 0)) s H locs := hW
    exact q_zret X rfl hW ⟨rfl, rfl⟩ d_X_morning_16
set_option maxHeartbeats 1000000 in
set_option maxRecDepth 20000 in
theorem c_X_seed (l : Launch) (E : QE) (S : QM) (ρ φ : Nat → Int32) (hρ : S 0 = ρ) (hφ : S 14 = φ) (hwf : WF ρ) (v : Int32) : qCI E l y_X_seed prog_1_method_28_code 3 .int 1 [.ref (eA E 0), .int v] S (ρ 2) (qr S 0 (upd ρ 2 v)) := by
  refine qCI_of (by decide) (Nat.le_of_ble_eq_true rfl) (fun p e s m below meth c ls X hW hl => ?_)
  have hl : lv_has ls 3 [(0, .ref (eA E 0)), (1, .int v)] := hl
  have htl := hwf.tl
  have hwl := hwf.wl
  have hdl := hwf.dl
  refine lv_aload_n X.x X.b d_X_seed_0 rfl (lv_at hl 0 rfl) ?_
  refine q_getr X hW qj3 rfl _ ds_X 0 (by decide) mw_183 rfl (c1 := cB 0) rfl d_X_seed_1 ?_
  refine g_geti X hW qj0 rfl _ (ds_cm (k := 0) (by decide)) 7 (by decide) mw_118 rfl (r0 := 0) (p0 := 2) rfl (v := ρ 2) (by rw [hρ]) d_X_seed_4 ?_
  refine lv_istore_n (lv' := [(2, .int (ρ 2)), (0, .ref (eA E 0)), (1, .int v)]) X.x X.b d_X_seed_7 rfl hl (by decide) rfl (fun ls hl => ?_)
  refine lv_aload_n X.x X.b d_X_seed_8 rfl (lv_at hl 1 rfl) ?_
  refine q_getr X hW qj3 rfl _ ds_X 0 (by decide) mw_183 rfl (c1 := cB 0) rfl d_X_seed_9 ?_
  refine lv_iload_n X.x X.b d_X_seed_12 rfl (lv_at hl 2 rfl) ?_
  refine g_puti X hW qj0 qp0 qn0 rfl _ (ds_cm (k := 0) (by decide)) 7 (by decide) mw_118 rfl rfl (r0 := 0) (p0 := 2) rfl rfl rfl (ρ := ρ) (by rw [hρ]) d_X_seed_13 (fun H locs hW => ?_)
  obtain ⟨r13, er13⟩ : ∃ z, z = upd ρ 2 v := ⟨_, rfl⟩
  rw [← er13] at hW
  refine lv_iload_n X.x X.b d_X_seed_16 rfl (lv_at hl 0 rfl) ?_
  exact q_zret X rfl hW ⟨rfl, by rw [er13]⟩ d_X_seed_17
set_option maxHeartbeats 1000000 in
set_option maxRecDepth 20000 in
theorem c_X_hold_g (l : Launch) (E : QE) (S : QM) (ρ φ : Nat → Int32) (hρ : S 0 = ρ) (hφ : S 14 = φ) (hwf : WF ρ) (i t : Nat) (hi : i ≤ 9) (ht : t < nT ρ) : qCI E l y_X_hold prog_1_method_32_code 3 .int 3 [.ref (eA E 0), .int (nI i), .int (nI t)] S (nI 1) (qr S 0 (upd ρ (10 + i) (nI t))) := by
  refine qCI_of (by decide) (Nat.le_of_ble_eq_true rfl) (fun p e s m below meth c ls X hW hl => ?_)
  have hl : lv_has ls 3 [(0, .ref (eA E 0)), (1, .int (nI i)), (2, .int (nI t))] := hl
  have htl := hwf.tl
  have hwl := hwf.wl
  have hdl := hwf.dl
  refine lv_iload_n X.x X.b d_X_hold_0 rfl (lv_at hl 1 rfl) ?_
  refine lv_iconst (v := nI 0) X.x X.b d_X_hold_1 (by decide) ?_
  refine lv_bipush (v := nI 9) X.x X.b d_X_hold_2 (by decide) ?_
  refine q_csi X (c_X_within l E S (nI i) (nI 0) (nI 9)) hW ok_X_within mw_209 ⟨by decide, by decide⟩ (As := [.int (nI i), .int (nI 0), .int (nI 9)]) rfl rfl (Nat.le_of_ble_eq_true rfl) (lv := [(0, .ref (eA E 0)), (1, .int (nI i)), (2, .int (nI t))]) hl ⟨Nat.le_refl 0, Nat.le_refl 0⟩ d_X_hold_4 (fun H locs hW => ?_)
  refine lv_if_eq (tgt := 26) X.x X.b d_X_hold_7 (by decide) (fun c7 => ?_) (fun c7 => ?_)
  · have c7 := b2i_e c7
    have c7 := mt (inR_i (by omega) (by decide)).mpr c7
    omega
  · have c7 := b2i_n c7
    have c7 := (inR_i (by omega) (by decide)).mp c7
    refine lv_iload_n X.x X.b d_X_hold_10 rfl (lv_at hl 2 rfl) ?_
    refine lv_iconst (v := (-1)) X.x X.b d_X_hold_11 (by decide) ?_
    refine lv_icmp_eq (tgt := 33) X.x X.b d_X_hold_12 (by decide) (fun c12 => ?_) (fun c12 => ?_)
    · exact absurd c12 (nI_nm (by omega))
    · refine lv_aload_n X.x X.b d_X_hold_15 rfl (lv_at hl 0 rfl) ?_
      refine q_getr X hW qj3 rfl _ ds_X 0 (by decide) mw_183 rfl (c1 := cB 0) rfl d_X_hold_16 ?_
      refine lv_iload_n X.x X.b d_X_hold_19 rfl (lv_at hl 2 rfl) ?_
      refine q_cvi X (c_Cm_hasThing l E 0 (by decide) S ρ (by rw [hρ]) hwf (nI t)) hW (q_recv X hW (ds_cm (k := 0) (by decide)) rfl) ok_Cm_hasThing mw_244 ⟨by decide, by decide⟩ (As := [.int (nI t)]) rfl rfl (Nat.le_of_ble_eq_true rfl) (lv := [(0, .ref (eA E 0)), (1, .int (nI i)), (2, .int (nI t))]) hl ⟨Nat.le_refl 0, Nat.le_refl 0⟩ d_X_hold_20 (fun H locs hW => ?_)
      refine lv_if_ne (tgt := 33) X.x X.b d_X_hold_23 (by decide) (fun c23 => ?_) (fun c23 => ?_)
      · have c23 := b2i_n c23
        have c23 := (isT_i hwf (by omega)).mp c23
        refine lv_aload_n X.x X.b d_X_hold_33 rfl (lv_at hl 0 rfl) ?_
        refine q_getr X hW qj3 rfl _ ds_X 0 (by decide) mw_183 rfl (c1 := cB 0) rfl d_X_hold_34 ?_
        refine q_getr X hW qj0 rfl _ (ds_cm (k := 0) (by decide)) 3 (by decide) mw_108 rfl (c1 := cB 0 + 4) rfl d_X_hold_37 ?_
        refine lv_iload_n X.x X.b d_X_hold_40 rfl (lv_at hl 1 rfl) ?_
        refine lv_iload_n X.x X.b d_X_hold_41 rfl (lv_at hl 2 rfl) ?_
        refine g_ast X hW (ds_sp (k := 0) (by decide)) (q_in (by omega) (by decide)) (p0 := 10 + i) (q_tn (by omega) (by omega)) (ρ := ρ) (by rw [hρ]) d_X_hold_42 (fun H locs hW => ?_)
        obtain ⟨r42, er42⟩ : ∃ z, z = upd ρ (10 + i) (nI t) := ⟨_, rfl⟩
        rw [← er42] at hW
        refine lv_iconst (v := nI 1) X.x X.b d_X_hold_43 (by decide) ?_
        exact q_zret X rfl hW ⟨rfl, by rw [er42]⟩ d_X_hold_44
      · have c23 := b2i_e c23
        have c23 := mt (isT_i hwf (by omega)).mpr c23
        omega
set_option maxHeartbeats 1000000 in
set_option maxRecDepth 20000 in
theorem c_X_hold_m (l : Launch) (E : QE) (S : QM) (ρ φ : Nat → Int32) (hρ : S 0 = ρ) (hφ : S 14 = φ) (hwf : WF ρ) (i : Nat) (hi : i ≤ 9) : qCI E l y_X_hold prog_1_method_32_code 3 .int 3 [.ref (eA E 0), .int (nI i), .int (-1)] S (nI 1) (qr S 0 (upd ρ (10 + i) (-1))) := by
  refine qCI_of (by decide) (Nat.le_of_ble_eq_true rfl) (fun p e s m below meth c ls X hW hl => ?_)
  have hl : lv_has ls 3 [(0, .ref (eA E 0)), (1, .int (nI i)), (2, .int (-1))] := hl
  have htl := hwf.tl
  have hwl := hwf.wl
  have hdl := hwf.dl
  refine lv_iload_n X.x X.b d_X_hold_0 rfl (lv_at hl 1 rfl) ?_
  refine lv_iconst (v := nI 0) X.x X.b d_X_hold_1 (by decide) ?_
  refine lv_bipush (v := nI 9) X.x X.b d_X_hold_2 (by decide) ?_
  refine q_csi X (c_X_within l E S (nI i) (nI 0) (nI 9)) hW ok_X_within mw_209 ⟨by decide, by decide⟩ (As := [.int (nI i), .int (nI 0), .int (nI 9)]) rfl rfl (Nat.le_of_ble_eq_true rfl) (lv := [(0, .ref (eA E 0)), (1, .int (nI i)), (2, .int (-1))]) hl ⟨Nat.le_refl 0, Nat.le_refl 0⟩ d_X_hold_4 (fun H locs hW => ?_)
  refine lv_if_eq (tgt := 26) X.x X.b d_X_hold_7 (by decide) (fun c7 => ?_) (fun c7 => ?_)
  · have c7 := b2i_e c7
    have c7 := mt (inR_i (by omega) (by decide)).mpr c7
    omega
  · have c7 := b2i_n c7
    have c7 := (inR_i (by omega) (by decide)).mp c7
    refine lv_iload_n X.x X.b d_X_hold_10 rfl (lv_at hl 2 rfl) ?_
    refine lv_iconst (v := (-1)) X.x X.b d_X_hold_11 (by decide) ?_
    refine lv_icmp_eq (tgt := 33) X.x X.b d_X_hold_12 (by decide) (fun c12 => ?_) (fun c12 => ?_)
    · refine lv_aload_n X.x X.b d_X_hold_33 rfl (lv_at hl 0 rfl) ?_
      refine q_getr X hW qj3 rfl _ ds_X 0 (by decide) mw_183 rfl (c1 := cB 0) rfl d_X_hold_34 ?_
      refine q_getr X hW qj0 rfl _ (ds_cm (k := 0) (by decide)) 3 (by decide) mw_108 rfl (c1 := cB 0 + 4) rfl d_X_hold_37 ?_
      refine lv_iload_n X.x X.b d_X_hold_40 rfl (lv_at hl 1 rfl) ?_
      refine lv_iload_n X.x X.b d_X_hold_41 rfl (lv_at hl 2 rfl) ?_
      refine g_ast X hW (ds_sp (k := 0) (by decide)) (q_in (by omega) (by decide)) (p0 := 10 + i) (q_tn (by omega) (by omega)) (ρ := ρ) (by rw [hρ]) d_X_hold_42 (fun H locs hW => ?_)
      obtain ⟨r42, er42⟩ : ∃ z, z = upd ρ (10 + i) (-1) := ⟨_, rfl⟩
      rw [← er42] at hW
      refine lv_iconst (v := nI 1) X.x X.b d_X_hold_43 (by decide) ?_
      exact q_zret X rfl hW ⟨rfl, by rw [er42]⟩ d_X_hold_44
    · exact absurd rfl c12
set_option maxHeartbeats 1000000 in
set_option maxRecDepth 20000 in
theorem c_X_hold_b (l : Launch) (E : QE) (S : QM) (ρ φ : Nat → Int32) (hρ : S 0 = ρ) (hφ : S 14 = φ) (hwf : WF ρ) (x y : Int32) (h : ¬ (inR 0 9 x ∧ (y = -1 ∨ isT ρ y))) : qCI E l y_X_hold prog_1_method_32_code 3 .int 3 [.ref (eA E 0), .int x, .int y] S (-1000001) (qr S 14 (fnS φ 0)) := by
  refine qCI_of (by decide) (Nat.le_of_ble_eq_true rfl) (fun p e s m below meth c ls X hW hl => ?_)
  have hl : lv_has ls 3 [(0, .ref (eA E 0)), (1, .int x), (2, .int y)] := hl
  have htl := hwf.tl
  have hwl := hwf.wl
  have hdl := hwf.dl
  refine lv_iload_n X.x X.b d_X_hold_0 rfl (lv_at hl 1 rfl) ?_
  refine lv_iconst (v := nI 0) X.x X.b d_X_hold_1 (by decide) ?_
  refine lv_bipush (v := nI 9) X.x X.b d_X_hold_2 (by decide) ?_
  refine q_csi X (c_X_within l E S x (nI 0) (nI 9)) hW ok_X_within mw_209 ⟨by decide, by decide⟩ (As := [.int x, .int (nI 0), .int (nI 9)]) rfl rfl (Nat.le_of_ble_eq_true rfl) (lv := [(0, .ref (eA E 0)), (1, .int x), (2, .int y)]) hl ⟨Nat.le_refl 0, Nat.le_refl 0⟩ d_X_hold_4 (fun H locs hW => ?_)
  refine lv_if_eq (tgt := 26) X.x X.b d_X_hold_7 (by decide) (fun c7 => ?_) (fun c7 => ?_)
  · have c7 := b2i_e c7
    refine lv_aload_n X.x X.b d_X_hold_26 rfl (lv_at hl 0 rfl) ?_
    refine lv_ldc (v := (-1000001)) X.x X.b X.ow (X.ts _ mw_212) d_X_hold_27 ?_
    refine q_cvi X (c_X_told_0 l E S φ (by rw [hφ])) hW (q_recv X hW ds_X rfl) ok_X_told mw_213 ⟨by decide, by decide⟩ (As := [.int (-1000001)]) rfl rfl (Nat.le_of_ble_eq_true rfl) (lv := [(0, .ref (eA E 0)), (1, .int x), (2, .int y)]) hl ⟨Nat.le_refl 0, Nat.le_refl 0⟩ d_X_hold_29 (fun H locs hW => ?_)
    have hW : qWH E (qr S 14 (fnS φ 0)) s H locs := hW
    exact q_zret X rfl hW ⟨rfl, rfl⟩ d_X_hold_32
  · have c7 := b2i_n c7
    refine lv_iload_n X.x X.b d_X_hold_10 rfl (lv_at hl 2 rfl) ?_
    refine lv_iconst (v := (-1)) X.x X.b d_X_hold_11 (by decide) ?_
    refine lv_icmp_eq (tgt := 33) X.x X.b d_X_hold_12 (by decide) (fun c12 => ?_) (fun c12 => ?_)
    · exact absurd ⟨c7, Or.inl c12⟩ h
    · refine lv_aload_n X.x X.b d_X_hold_15 rfl (lv_at hl 0 rfl) ?_
      refine q_getr X hW qj3 rfl _ ds_X 0 (by decide) mw_183 rfl (c1 := cB 0) rfl d_X_hold_16 ?_
      refine lv_iload_n X.x X.b d_X_hold_19 rfl (lv_at hl 2 rfl) ?_
      refine q_cvi X (c_Cm_hasThing l E 0 (by decide) S ρ (by rw [hρ]) hwf y) hW (q_recv X hW (ds_cm (k := 0) (by decide)) rfl) ok_Cm_hasThing mw_244 ⟨by decide, by decide⟩ (As := [.int y]) rfl rfl (Nat.le_of_ble_eq_true rfl) (lv := [(0, .ref (eA E 0)), (1, .int x), (2, .int y)]) hl ⟨Nat.le_refl 0, Nat.le_refl 0⟩ d_X_hold_20 (fun H locs hW => ?_)
      refine lv_if_ne (tgt := 33) X.x X.b d_X_hold_23 (by decide) (fun c23 => ?_) (fun c23 => ?_)
      · have c23 := b2i_n c23
        exact absurd ⟨c7, Or.inr c23⟩ h
      · have c23 := b2i_e c23
        refine lv_aload_n X.x X.b d_X_hold_26 rfl (lv_at hl 0 rfl) ?_
        refine lv_ldc (v := (-1000001)) X.x X.b X.ow (X.ts _ mw_212) d_X_hold_27 ?_
        refine q_cvi X (c_X_told_0 l E S φ (by rw [hφ])) hW (q_recv X hW ds_X rfl) ok_X_told mw_213 ⟨by decide, by decide⟩ (As := [.int (-1000001)]) rfl rfl (Nat.le_of_ble_eq_true rfl) (lv := [(0, .ref (eA E 0)), (1, .int x), (2, .int y)]) hl ⟨Nat.le_refl 0, Nat.le_refl 0⟩ d_X_hold_29 (fun H locs hW => ?_)
        have hW : qWH E (qr S 14 (fnS φ 0)) s H locs := hW
        exact q_zret X rfl hW ⟨rfl, rfl⟩ d_X_hold_32
set_option maxHeartbeats 1000000 in
set_option maxRecDepth 20000 in
theorem c_X_as_g (l : Launch) (E : QE) (S : QM) (ρ φ : Nat → Int32) (hρ : S 0 = ρ) (hφ : S 14 = φ) (hwf : WF ρ) (i k2 q : Nat) (hi : i ≤ 9) (hk : k2 ≤ 6) (hq : q < nT ρ) (hs : ρ (10 + i) = nI q) (kd : Nat) (hkd : kd ≤ 6) (hkq : ρ (20 + 3 * q) = nI kd) (hu : und kd k2) : qCI E l y_X_as prog_1_method_33_code 4 .int 3 [.ref (eA E 0), .int (nI i), .int (nI k2)] S (nI q) S := by
  refine qCI_of (by decide) (Nat.le_of_ble_eq_true rfl) (fun p e s m below meth c ls X hW hl => ?_)
  have hl : lv_has ls 4 [(0, .ref (eA E 0)), (1, .int (nI i)), (2, .int (nI k2))] := hl
  have htl := hwf.tl
  have hwl := hwf.wl
  have hdl := hwf.dl
  refine lv_iload_n X.x X.b d_X_as_0 rfl (lv_at hl 1 rfl) ?_
  refine lv_iconst (v := nI 0) X.x X.b d_X_as_1 (by decide) ?_
  refine lv_bipush (v := nI 9) X.x X.b d_X_as_2 (by decide) ?_
  refine q_csi X (c_X_within l E S (nI i) (nI 0) (nI 9)) hW ok_X_within mw_209 ⟨by decide, by decide⟩ (As := [.int (nI i), .int (nI 0), .int (nI 9)]) rfl rfl (Nat.le_of_ble_eq_true rfl) (lv := [(0, .ref (eA E 0)), (1, .int (nI i)), (2, .int (nI k2))]) hl ⟨Nat.le_refl 0, Nat.le_refl 0⟩ d_X_as_4 (fun H locs hW => ?_)
  refine lv_if_eq (tgt := 23) X.x X.b d_X_as_7 (by decide) (fun c7 => ?_) (fun c7 => ?_)
  · have c7 := b2i_e c7
    have c7 := mt (inR_i (by omega) (by decide)).mpr c7
    omega
  · have c7 := b2i_n c7
    have c7 := (inR_i (by omega) (by decide)).mp c7
    refine lv_iload_n X.x X.b d_X_as_10 rfl (lv_at hl 2 rfl) ?_
    refine lv_iconst (v := nI 0) X.x X.b d_X_as_11 (by decide) ?_
    refine q_gets X hW X.Z.1 mw_225 d_X_as_12 ?_
    refine lv_iconst (v := nI 0) X.x X.b d_X_as_15 (by decide) ?_
    refine g_zald X hW X.Z.1 (q_in (show 0 < 3 by omega) (by decide)) (q_tn (by omega) (Nat.zero_add _)) d_X_as_16 ?_
    rw [show zt0.getD 0 0 = nI 6 from by decide]
    refine q_csi X (c_X_within l E S (nI k2) (nI 0) (nI 6)) hW ok_X_within mw_209 ⟨by decide, by decide⟩ (As := [.int (nI k2), .int (nI 0), .int (nI 6)]) rfl rfl (Nat.le_of_ble_eq_true rfl) (lv := [(0, .ref (eA E 0)), (1, .int (nI i)), (2, .int (nI k2))]) hl ⟨Nat.le_refl 0, Nat.le_refl 0⟩ d_X_as_17 (fun H locs hW => ?_)
    refine lv_if_ne (tgt := 30) X.x X.b d_X_as_20 (by decide) (fun c20 => ?_) (fun c20 => ?_)
    · have c20 := b2i_n c20
      have c20 := (inR_i (by omega) (by decide)).mp c20
      refine lv_aload_n X.x X.b d_X_as_30 rfl (lv_at hl 0 rfl) ?_
      refine q_getr X hW qj3 rfl _ ds_X 0 (by decide) mw_183 rfl (c1 := cB 0) rfl d_X_as_31 ?_
      refine q_getr X hW qj0 rfl _ (ds_cm (k := 0) (by decide)) 3 (by decide) mw_108 rfl (c1 := cB 0 + 4) rfl d_X_as_34 ?_
      refine lv_iload_n X.x X.b d_X_as_37 rfl (lv_at hl 1 rfl) ?_
      refine g_ald X hW (ds_sp (k := 0) (by decide)) (q_in (by omega) (by decide)) (p0 := 10 + i) (q_tn (by omega) (by omega)) (v := ρ (10 + i)) (by rw [hρ]) d_X_as_38 ?_
      rw [hs]
      refine lv_istore_n (lv' := [(3, .int (nI q)), (0, .ref (eA E 0)), (1, .int (nI i)), (2, .int (nI k2))]) X.x X.b d_X_as_39 rfl hl (by decide) rfl (fun ls hl => ?_)
      refine lv_aload_n X.x X.b d_X_as_40 rfl (lv_at hl 1 rfl) ?_
      refine q_getr X hW qj3 rfl _ ds_X 0 (by decide) mw_183 rfl (c1 := cB 0) rfl d_X_as_41 ?_
      refine lv_iload_n X.x X.b d_X_as_44 rfl (lv_at hl 0 rfl) ?_
      refine q_cvi X (c_Cm_hasThing l E 0 (by decide) S ρ (by rw [hρ]) hwf (nI q)) hW (q_recv X hW (ds_cm (k := 0) (by decide)) rfl) ok_Cm_hasThing mw_244 ⟨by decide, by decide⟩ (As := [.int (nI q)]) rfl rfl (Nat.le_of_ble_eq_true rfl) (lv := [(3, .int (nI q)), (0, .ref (eA E 0)), (1, .int (nI i)), (2, .int (nI k2))]) hl ⟨Nat.le_refl 0, Nat.le_refl 0⟩ d_X_as_45 (fun H locs hW => ?_)
      refine lv_if_ne (tgt := 58) X.x X.b d_X_as_48 (by decide) (fun c48 => ?_) (fun c48 => ?_)
      · have c48 := b2i_n c48
        have c48 := (isT_i hwf (by omega)).mp c48
        refine lv_aload_n X.x X.b d_X_as_58 rfl (lv_at hl 1 rfl) ?_
        refine q_getr X hW qj3 rfl _ ds_X 0 (by decide) mw_183 rfl (c1 := cB 0) rfl d_X_as_59 ?_
        refine q_getr X hW qj0 rfl _ (ds_cm (k := 0) (by decide)) 1 (by decide) mw_103 rfl (c1 := cB 0 + 2) rfl d_X_as_62 ?_
        refine lv_iload_n X.x X.b d_X_as_65 rfl (lv_at hl 0 rfl) ?_
        refine g_th (show 0 < 3 by decide) X hW (show q < 8 by omega) d_X_as_66 ?_
        refine lv_iconst (v := nI 0) X.x X.b d_X_as_67 (by decide) ?_
        refine g_ald X hW (ds_t (t := q) (k := 0) (by decide) (by omega)) (q_in (by omega) (by decide)) (p0 := 20 + 3 * q) (q_tn (by omega) (by omega)) (v := ρ (20 + 3 * q)) (by rw [hρ]) d_X_as_68 ?_
        rw [hkq]
        refine lv_iload_n X.x X.b d_X_as_69 rfl (lv_at hl 3 rfl) ?_
        refine q_csi X (c_Kd_isUnder l E S kd k2 (by omega) (by omega)) hW ok_Kd_isUnder mw_606 ⟨by decide, by decide⟩ (As := [.int (nI kd), .int (nI k2)]) rfl rfl (Nat.le_of_ble_eq_true rfl) (lv := [(3, .int (nI q)), (0, .ref (eA E 0)), (1, .int (nI i)), (2, .int (nI k2))]) hl ⟨Nat.le_refl 0, Nat.le_refl 0⟩ d_X_as_70 (fun H locs hW => ?_)
        refine lv_if_eq (tgt := 80) X.x X.b d_X_as_73 (by decide) (fun c73 => ?_) (fun c73 => ?_)
        · have c73 := b2i_e c73
          exact absurd hu c73
        · have c73 := b2i_n c73
          refine lv_iload_n X.x X.b d_X_as_76 rfl (lv_at hl 0 rfl) ?_
          refine lv_goto (tgt := 86) X.x X.b d_X_as_77 (by decide) ?_
          exact q_zret X rfl hW ⟨rfl, rfl⟩ d_X_as_86
      · have c48 := b2i_e c48
        have c48 := mt (isT_i hwf (by omega)).mpr c48
        omega
    · have c20 := b2i_e c20
      have c20 := mt (inR_i (by omega) (by decide)).mpr c20
      omega
set_option maxHeartbeats 1000000 in
set_option maxRecDepth 20000 in
theorem c_X_as_k (l : Launch) (E : QE) (S : QM) (ρ φ : Nat → Int32) (hρ : S 0 = ρ) (hφ : S 14 = φ) (hwf : WF ρ) (i k2 q : Nat) (hi : i ≤ 9) (hk : k2 ≤ 6) (hq : q < nT ρ) (hs : ρ (10 + i) = nI q) (kd : Nat) (hkd : kd ≤ 6) (hkq : ρ (20 + 3 * q) = nI kd) (hu : ¬ und kd k2) : qCI E l y_X_as prog_1_method_33_code 4 .int 3 [.ref (eA E 0), .int (nI i), .int (nI k2)] S (-1000003) (qr S 14 (fnS φ 2)) := by
  refine qCI_of (by decide) (Nat.le_of_ble_eq_true rfl) (fun p e s m below meth c ls X hW hl => ?_)
  have hl : lv_has ls 4 [(0, .ref (eA E 0)), (1, .int (nI i)), (2, .int (nI k2))] := hl
  have htl := hwf.tl
  have hwl := hwf.wl
  have hdl := hwf.dl
  refine lv_iload_n X.x X.b d_X_as_0 rfl (lv_at hl 1 rfl) ?_
  refine lv_iconst (v := nI 0) X.x X.b d_X_as_1 (by decide) ?_
  refine lv_bipush (v := nI 9) X.x X.b d_X_as_2 (by decide) ?_
  refine q_csi X (c_X_within l E S (nI i) (nI 0) (nI 9)) hW ok_X_within mw_209 ⟨by decide, by decide⟩ (As := [.int (nI i), .int (nI 0), .int (nI 9)]) rfl rfl (Nat.le_of_ble_eq_true rfl) (lv := [(0, .ref (eA E 0)), (1, .int (nI i)), (2, .int (nI k2))]) hl ⟨Nat.le_refl 0, Nat.le_refl 0⟩ d_X_as_4 (fun H locs hW => ?_)
  refine lv_if_eq (tgt := 23) X.x X.b d_X_as_7 (by decide) (fun c7 => ?_) (fun c7 => ?_)
  · have c7 := b2i_e c7
    have c7 := mt (inR_i (by omega) (by decide)).mpr c7
    omega
  · have c7 := b2i_n c7
    have c7 := (inR_i (by omega) (by decide)).mp c7
    refine lv_iload_n X.x X.b d_X_as_10 rfl (lv_at hl 2 rfl) ?_
    refine lv_iconst (v := nI 0) X.x X.b d_X_as_11 (by decide) ?_
    refine q_gets X hW X.Z.1 mw_225 d_X_as_12 ?_
    refine lv_iconst (v := nI 0) X.x X.b d_X_as_15 (by decide) ?_
    refine g_zald X hW X.Z.1 (q_in (show 0 < 3 by omega) (by decide)) (q_tn (by omega) (Nat.zero_add _)) d_X_as_16 ?_
    rw [show zt0.getD 0 0 = nI 6 from by decide]
    refine q_csi X (c_X_within l E S (nI k2) (nI 0) (nI 6)) hW ok_X_within mw_209 ⟨by decide, by decide⟩ (As := [.int (nI k2), .int (nI 0), .int (nI 6)]) rfl rfl (Nat.le_of_ble_eq_true rfl) (lv := [(0, .ref (eA E 0)), (1, .int (nI i)), (2, .int (nI k2))]) hl ⟨Nat.le_refl 0, Nat.le_refl 0⟩ d_X_as_17 (fun H locs hW => ?_)
    refine lv_if_ne (tgt := 30) X.x X.b d_X_as_20 (by decide) (fun c20 => ?_) (fun c20 => ?_)
    · have c20 := b2i_n c20
      have c20 := (inR_i (by omega) (by decide)).mp c20
      refine lv_aload_n X.x X.b d_X_as_30 rfl (lv_at hl 0 rfl) ?_
      refine q_getr X hW qj3 rfl _ ds_X 0 (by decide) mw_183 rfl (c1 := cB 0) rfl d_X_as_31 ?_
      refine q_getr X hW qj0 rfl _ (ds_cm (k := 0) (by decide)) 3 (by decide) mw_108 rfl (c1 := cB 0 + 4) rfl d_X_as_34 ?_
      refine lv_iload_n X.x X.b d_X_as_37 rfl (lv_at hl 1 rfl) ?_
      refine g_ald X hW (ds_sp (k := 0) (by decide)) (q_in (by omega) (by decide)) (p0 := 10 + i) (q_tn (by omega) (by omega)) (v := ρ (10 + i)) (by rw [hρ]) d_X_as_38 ?_
      rw [hs]
      refine lv_istore_n (lv' := [(3, .int (nI q)), (0, .ref (eA E 0)), (1, .int (nI i)), (2, .int (nI k2))]) X.x X.b d_X_as_39 rfl hl (by decide) rfl (fun ls hl => ?_)
      refine lv_aload_n X.x X.b d_X_as_40 rfl (lv_at hl 1 rfl) ?_
      refine q_getr X hW qj3 rfl _ ds_X 0 (by decide) mw_183 rfl (c1 := cB 0) rfl d_X_as_41 ?_
      refine lv_iload_n X.x X.b d_X_as_44 rfl (lv_at hl 0 rfl) ?_
      refine q_cvi X (c_Cm_hasThing l E 0 (by decide) S ρ (by rw [hρ]) hwf (nI q)) hW (q_recv X hW (ds_cm (k := 0) (by decide)) rfl) ok_Cm_hasThing mw_244 ⟨by decide, by decide⟩ (As := [.int (nI q)]) rfl rfl (Nat.le_of_ble_eq_true rfl) (lv := [(3, .int (nI q)), (0, .ref (eA E 0)), (1, .int (nI i)), (2, .int (nI k2))]) hl ⟨Nat.le_refl 0, Nat.le_refl 0⟩ d_X_as_45 (fun H locs hW => ?_)
      refine lv_if_ne (tgt := 58) X.x X.b d_X_as_48 (by decide) (fun c48 => ?_) (fun c48 => ?_)
      · have c48 := b2i_n c48
        have c48 := (isT_i hwf (by omega)).mp c48
        refine lv_aload_n X.x X.b d_X_as_58 rfl (lv_at hl 1 rfl) ?_
        refine q_getr X hW qj3 rfl _ ds_X 0 (by decide) mw_183 rfl (c1 := cB 0) rfl d_X_as_59 ?_
        refine q_getr X hW qj0 rfl _ (ds_cm (k := 0) (by decide)) 1 (by decide) mw_103 rfl (c1 := cB 0 + 2) rfl d_X_as_62 ?_
        refine lv_iload_n X.x X.b d_X_as_65 rfl (lv_at hl 0 rfl) ?_
        refine g_th (show 0 < 3 by decide) X hW (show q < 8 by omega) d_X_as_66 ?_
        refine lv_iconst (v := nI 0) X.x X.b d_X_as_67 (by decide) ?_
        refine g_ald X hW (ds_t (t := q) (k := 0) (by decide) (by omega)) (q_in (by omega) (by decide)) (p0 := 20 + 3 * q) (q_tn (by omega) (by omega)) (v := ρ (20 + 3 * q)) (by rw [hρ]) d_X_as_68 ?_
        rw [hkq]
        refine lv_iload_n X.x X.b d_X_as_69 rfl (lv_at hl 3 rfl) ?_
        refine q_csi X (c_Kd_isUnder l E S kd k2 (by omega) (by omega)) hW ok_Kd_isUnder mw_606 ⟨by decide, by decide⟩ (As := [.int (nI kd), .int (nI k2)]) rfl rfl (Nat.le_of_ble_eq_true rfl) (lv := [(3, .int (nI q)), (0, .ref (eA E 0)), (1, .int (nI i)), (2, .int (nI k2))]) hl ⟨Nat.le_refl 0, Nat.le_refl 0⟩ d_X_as_70 (fun H locs hW => ?_)
        refine lv_if_eq (tgt := 80) X.x X.b d_X_as_73 (by decide) (fun c73 => ?_) (fun c73 => ?_)
        · have c73 := b2i_e c73
          refine lv_aload_n X.x X.b d_X_as_80 rfl (lv_at hl 1 rfl) ?_
          refine lv_ldc (v := (-1000003)) X.x X.b X.ow (X.ts _ mw_611) d_X_as_81 ?_
          refine q_cvi X (c_X_told_2 l E S φ (by rw [hφ])) hW (q_recv X hW ds_X rfl) ok_X_told mw_213 ⟨by decide, by decide⟩ (As := [.int (-1000003)]) rfl rfl (Nat.le_of_ble_eq_true rfl) (lv := [(3, .int (nI q)), (0, .ref (eA E 0)), (1, .int (nI i)), (2, .int (nI k2))]) hl ⟨Nat.le_refl 0, Nat.le_refl 0⟩ d_X_as_83 (fun H locs hW => ?_)
          have hW : qWH E (qr S 14 (fnS φ 2)) s H locs := hW
          exact q_zret X rfl hW ⟨rfl, rfl⟩ d_X_as_86
        · have c73 := b2i_n c73
          exact absurd c73 hu
      · have c48 := b2i_e c48
        have c48 := mt (isT_i hwf (by omega)).mpr c48
        omega
    · have c20 := b2i_e c20
      have c20 := mt (inR_i (by omega) (by decide)).mpr c20
      omega
set_option maxHeartbeats 1000000 in
set_option maxRecDepth 20000 in
theorem c_X_as_m (l : Launch) (E : QE) (S : QM) (ρ φ : Nat → Int32) (hρ : S 0 = ρ) (hφ : S 14 = φ) (hwf : WF ρ) (i k2 : Nat) (hi : i ≤ 9) (hk : k2 ≤ 6) (hs : ρ (10 + i) = -1) : qCI E l y_X_as prog_1_method_33_code 4 .int 3 [.ref (eA E 0), .int (nI i), .int (nI k2)] S (-1000006) (qr S 14 (fnS φ 5)) := by
  refine qCI_of (by decide) (Nat.le_of_ble_eq_true rfl) (fun p e s m below meth c ls X hW hl => ?_)
  have hl : lv_has ls 4 [(0, .ref (eA E 0)), (1, .int (nI i)), (2, .int (nI k2))] := hl
  have htl := hwf.tl
  have hwl := hwf.wl
  have hdl := hwf.dl
  refine lv_iload_n X.x X.b d_X_as_0 rfl (lv_at hl 1 rfl) ?_
  refine lv_iconst (v := nI 0) X.x X.b d_X_as_1 (by decide) ?_
  refine lv_bipush (v := nI 9) X.x X.b d_X_as_2 (by decide) ?_
  refine q_csi X (c_X_within l E S (nI i) (nI 0) (nI 9)) hW ok_X_within mw_209 ⟨by decide, by decide⟩ (As := [.int (nI i), .int (nI 0), .int (nI 9)]) rfl rfl (Nat.le_of_ble_eq_true rfl) (lv := [(0, .ref (eA E 0)), (1, .int (nI i)), (2, .int (nI k2))]) hl ⟨Nat.le_refl 0, Nat.le_refl 0⟩ d_X_as_4 (fun H locs hW => ?_)
  refine lv_if_eq (tgt := 23) X.x X.b d_X_as_7 (by decide) (fun c7 => ?_) (fun c7 => ?_)
  · have c7 := b2i_e c7
    have c7 := mt (inR_i (by omega) (by decide)).mpr c7
    omega
  · have c7 := b2i_n c7
    have c7 := (inR_i (by omega) (by decide)).mp c7
    refine lv_iload_n X.x X.b d_X_as_10 rfl (lv_at hl 2 rfl) ?_
    refine lv_iconst (v := nI 0) X.x X.b d_X_as_11 (by decide) ?_
    refine q_gets X hW X.Z.1 mw_225 d_X_as_12 ?_
    refine lv_iconst (v := nI 0) X.x X.b d_X_as_15 (by decide) ?_
    refine g_zald X hW X.Z.1 (q_in (show 0 < 3 by omega) (by decide)) (q_tn (by omega) (Nat.zero_add _)) d_X_as_16 ?_
    rw [show zt0.getD 0 0 = nI 6 from by decide]
    refine q_csi X (c_X_within l E S (nI k2) (nI 0) (nI 6)) hW ok_X_within mw_209 ⟨by decide, by decide⟩ (As := [.int (nI k2), .int (nI 0), .int (nI 6)]) rfl rfl (Nat.le_of_ble_eq_true rfl) (lv := [(0, .ref (eA E 0)), (1, .int (nI i)), (2, .int (nI k2))]) hl ⟨Nat.le_refl 0, Nat.le_refl 0⟩ d_X_as_17 (fun H locs hW => ?_)
    refine lv_if_ne (tgt := 30) X.x X.b d_X_as_20 (by decide) (fun c20 => ?_) (fun c20 => ?_)
    · have c20 := b2i_n c20
      have c20 := (inR_i (by omega) (by decide)).mp c20
      refine lv_aload_n X.x X.b d_X_as_30 rfl (lv_at hl 0 rfl) ?_
      refine q_getr X hW qj3 rfl _ ds_X 0 (by decide) mw_183 rfl (c1 := cB 0) rfl d_X_as_31 ?_
      refine q_getr X hW qj0 rfl _ (ds_cm (k := 0) (by decide)) 3 (by decide) mw_108 rfl (c1 := cB 0 + 4) rfl d_X_as_34 ?_
      refine lv_iload_n X.x X.b d_X_as_37 rfl (lv_at hl 1 rfl) ?_
      refine g_ald X hW (ds_sp (k := 0) (by decide)) (q_in (by omega) (by decide)) (p0 := 10 + i) (q_tn (by omega) (by omega)) (v := ρ (10 + i)) (by rw [hρ]) d_X_as_38 ?_
      rw [hs]
      refine lv_istore_n (lv' := [(3, .int (-1)), (0, .ref (eA E 0)), (1, .int (nI i)), (2, .int (nI k2))]) X.x X.b d_X_as_39 rfl hl (by decide) rfl (fun ls hl => ?_)
      refine lv_aload_n X.x X.b d_X_as_40 rfl (lv_at hl 1 rfl) ?_
      refine q_getr X hW qj3 rfl _ ds_X 0 (by decide) mw_183 rfl (c1 := cB 0) rfl d_X_as_41 ?_
      refine lv_iload_n X.x X.b d_X_as_44 rfl (lv_at hl 0 rfl) ?_
      refine q_cvi X (c_Cm_hasThing l E 0 (by decide) S ρ (by rw [hρ]) hwf (-1)) hW (q_recv X hW (ds_cm (k := 0) (by decide)) rfl) ok_Cm_hasThing mw_244 ⟨by decide, by decide⟩ (As := [.int (-1)]) rfl rfl (Nat.le_of_ble_eq_true rfl) (lv := [(3, .int (-1)), (0, .ref (eA E 0)), (1, .int (nI i)), (2, .int (nI k2))]) hl ⟨Nat.le_refl 0, Nat.le_refl 0⟩ d_X_as_45 (fun H locs hW => ?_)
      refine lv_if_ne (tgt := 58) X.x X.b d_X_as_48 (by decide) (fun c48 => ?_) (fun c48 => ?_)
      · have c48 := b2i_n c48
        exact absurd c48.1 (by decide)
      · have c48 := b2i_e c48
        refine lv_aload_n X.x X.b d_X_as_51 rfl (lv_at hl 1 rfl) ?_
        refine lv_ldc (v := (-1000006)) X.x X.b X.ow (X.ts _ mw_441) d_X_as_52 ?_
        refine q_cvi X (c_X_told_5 l E S φ (by rw [hφ])) hW (q_recv X hW ds_X rfl) ok_X_told mw_213 ⟨by decide, by decide⟩ (As := [.int (-1000006)]) rfl rfl (Nat.le_of_ble_eq_true rfl) (lv := [(3, .int (-1)), (0, .ref (eA E 0)), (1, .int (nI i)), (2, .int (nI k2))]) hl ⟨Nat.le_refl 0, Nat.le_refl 0⟩ d_X_as_54 (fun H locs hW => ?_)
        have hW : qWH E (qr S 14 (fnS φ 5)) s H locs := hW
        exact q_zret X rfl hW ⟨rfl, rfl⟩ d_X_as_57
    · have c20 := b2i_e c20
      have c20 := mt (inR_i (by omega) (by decide)).mpr c20
      omega
set_option maxHeartbeats 1000000 in
set_option maxRecDepth 20000 in
theorem c_X_as_b (l : Launch) (E : QE) (S : QM) (ρ φ : Nat → Int32) (hρ : S 0 = ρ) (hφ : S 14 = φ) (hwf : WF ρ) (x y : Int32) (h : ¬ (inR 0 9 x ∧ inR 0 6 y)) : qCI E l y_X_as prog_1_method_33_code 4 .int 3 [.ref (eA E 0), .int x, .int y] S (-1000001) (qr S 14 (fnS φ 0)) := by
  refine qCI_of (by decide) (Nat.le_of_ble_eq_true rfl) (fun p e s m below meth c ls X hW hl => ?_)
  have hl : lv_has ls 4 [(0, .ref (eA E 0)), (1, .int x), (2, .int y)] := hl
  have htl := hwf.tl
  have hwl := hwf.wl
  have hdl := hwf.dl
  refine lv_iload_n X.x X.b d_X_as_0 rfl (lv_at hl 1 rfl) ?_
  refine lv_iconst (v := nI 0) X.x X.b d_X_as_1 (by decide) ?_
  refine lv_bipush (v := nI 9) X.x X.b d_X_as_2 (by decide) ?_
  refine q_csi X (c_X_within l E S x (nI 0) (nI 9)) hW ok_X_within mw_209 ⟨by decide, by decide⟩ (As := [.int x, .int (nI 0), .int (nI 9)]) rfl rfl (Nat.le_of_ble_eq_true rfl) (lv := [(0, .ref (eA E 0)), (1, .int x), (2, .int y)]) hl ⟨Nat.le_refl 0, Nat.le_refl 0⟩ d_X_as_4 (fun H locs hW => ?_)
  refine lv_if_eq (tgt := 23) X.x X.b d_X_as_7 (by decide) (fun c7 => ?_) (fun c7 => ?_)
  · have c7 := b2i_e c7
    refine lv_aload_n X.x X.b d_X_as_23 rfl (lv_at hl 0 rfl) ?_
    refine lv_ldc (v := (-1000001)) X.x X.b X.ow (X.ts _ mw_212) d_X_as_24 ?_
    refine q_cvi X (c_X_told_0 l E S φ (by rw [hφ])) hW (q_recv X hW ds_X rfl) ok_X_told mw_213 ⟨by decide, by decide⟩ (As := [.int (-1000001)]) rfl rfl (Nat.le_of_ble_eq_true rfl) (lv := [(0, .ref (eA E 0)), (1, .int x), (2, .int y)]) hl ⟨Nat.le_refl 0, Nat.le_refl 0⟩ d_X_as_26 (fun H locs hW => ?_)
    have hW : qWH E (qr S 14 (fnS φ 0)) s H locs := hW
    exact q_zret X rfl hW ⟨rfl, rfl⟩ d_X_as_29
  · have c7 := b2i_n c7
    refine lv_iload_n X.x X.b d_X_as_10 rfl (lv_at hl 2 rfl) ?_
    refine lv_iconst (v := nI 0) X.x X.b d_X_as_11 (by decide) ?_
    refine q_gets X hW X.Z.1 mw_225 d_X_as_12 ?_
    refine lv_iconst (v := nI 0) X.x X.b d_X_as_15 (by decide) ?_
    refine g_zald X hW X.Z.1 (q_in (show 0 < 3 by omega) (by decide)) (q_tn (by omega) (Nat.zero_add _)) d_X_as_16 ?_
    rw [show zt0.getD 0 0 = nI 6 from by decide]
    refine q_csi X (c_X_within l E S y (nI 0) (nI 6)) hW ok_X_within mw_209 ⟨by decide, by decide⟩ (As := [.int y, .int (nI 0), .int (nI 6)]) rfl rfl (Nat.le_of_ble_eq_true rfl) (lv := [(0, .ref (eA E 0)), (1, .int x), (2, .int y)]) hl ⟨Nat.le_refl 0, Nat.le_refl 0⟩ d_X_as_17 (fun H locs hW => ?_)
    refine lv_if_ne (tgt := 30) X.x X.b d_X_as_20 (by decide) (fun c20 => ?_) (fun c20 => ?_)
    · have c20 := b2i_n c20
      exact absurd ⟨c7, c20⟩ h
    · have c20 := b2i_e c20
      refine lv_aload_n X.x X.b d_X_as_23 rfl (lv_at hl 0 rfl) ?_
      refine lv_ldc (v := (-1000001)) X.x X.b X.ow (X.ts _ mw_212) d_X_as_24 ?_
      refine q_cvi X (c_X_told_0 l E S φ (by rw [hφ])) hW (q_recv X hW ds_X rfl) ok_X_told mw_213 ⟨by decide, by decide⟩ (As := [.int (-1000001)]) rfl rfl (Nat.le_of_ble_eq_true rfl) (lv := [(0, .ref (eA E 0)), (1, .int x), (2, .int y)]) hl ⟨Nat.le_refl 0, Nat.le_refl 0⟩ d_X_as_26 (fun H locs hW => ?_)
      have hW : qWH E (qr S 14 (fnS φ 0)) s H locs := hW
      exact q_zret X rfl hW ⟨rfl, rfl⟩ d_X_as_29
