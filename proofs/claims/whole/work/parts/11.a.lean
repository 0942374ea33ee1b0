theorem d_X_told_0 : decode prog_1_method_46_code 0 = .ok (.ldc 48, 2) := by decide +kernel
theorem d_X_told_2 : decode prog_1_method_46_code 2 = .ok (.iload_n 1, 1) := by decide +kernel
theorem d_X_told_3 : decode prog_1_method_46_code 3 = .ok (.isub, 1) := by decide +kernel
theorem d_X_told_4 : decode prog_1_method_46_code 4 = .ok (.istore_n 2, 1) := by decide +kernel
theorem d_X_told_5 : decode prog_1_method_46_code 5 = .ok (.iload_n 2, 1) := by decide +kernel
theorem d_X_told_6 : decode prog_1_method_46_code 6 = .ok (.iconst 0, 1) := by decide +kernel
theorem d_X_told_7 : decode prog_1_method_46_code 7 = .ok (.bipush 6, 2) := by decide +kernel
theorem d_X_told_9 : decode prog_1_method_46_code 9 = .ok (.invokestatic 44, 3) := by decide +kernel
theorem d_X_told_12 : decode prog_1_method_46_code 12 = .ok (.ifCond .eq 13, 3) := by decide +kernel
theorem d_X_told_15 : decode prog_1_method_46_code 15 = .ok (.aload_n 0, 1) := by decide +kernel
theorem d_X_told_16 : decode prog_1_method_46_code 16 = .ok (.getfield 40, 3) := by decide +kernel
theorem d_X_told_19 : decode prog_1_method_46_code 19 = .ok (.iload_n 2, 1) := by decide +kernel
theorem d_X_told_20 : decode prog_1_method_46_code 20 = .ok (.dup2, 1) := by decide +kernel
theorem d_X_told_21 : decode prog_1_method_46_code 21 = .ok (.iaload, 1) := by decide +kernel
theorem d_X_told_22 : decode prog_1_method_46_code 22 = .ok (.iconst 1, 1) := by decide +kernel
theorem d_X_told_23 : decode prog_1_method_46_code 23 = .ok (.iadd, 1) := by decide +kernel
theorem d_X_told_24 : decode prog_1_method_46_code 24 = .ok (.iastore, 1) := by decide +kernel
theorem d_X_told_25 : decode prog_1_method_46_code 25 = .ok (.iload_n 1, 1) := by decide +kernel
theorem d_X_told_26 : decode prog_1_method_46_code 26 = .ok (.ireturn, 1) := by decide +kernel
theorem d_X_turn_0 : decode prog_1_method_2_code 0 = .ok (.iload_n 1, 1) := by decide +kernel
theorem d_X_turn_1 : decode prog_1_method_2_code 1 = .ok (.iconst 0, 1) := by decide +kernel
theorem d_X_turn_2 : decode prog_1_method_2_code 2 = .ok (.iconst 5, 1) := by decide +kernel
theorem d_X_turn_3 : decode prog_1_method_2_code 3 = .ok (.invokestatic 44, 3) := by decide +kernel
theorem d_X_turn_6 : decode prog_1_method_2_code 6 = .ok (.ifCond .eq 22, 3) := by decide +kernel
theorem d_X_turn_9 : decode prog_1_method_2_code 9 = .ok (.iload_n 2, 1) := by decide +kernel
theorem d_X_turn_10 : decode prog_1_method_2_code 10 = .ok (.iconst 0, 1) := by decide +kernel
theorem d_X_turn_11 : decode prog_1_method_2_code 11 = .ok (.iconst 5, 1) := by decide +kernel
theorem d_X_turn_12 : decode prog_1_method_2_code 12 = .ok (.invokestatic 44, 3) := by decide +kernel
theorem d_X_turn_15 : decode prog_1_method_2_code 15 = .ok (.ifCond .eq 13, 3) := by decide +kernel
theorem d_X_turn_18 : decode prog_1_method_2_code 18 = .ok (.iload_n 3, 1) := by decide +kernel
theorem d_X_turn_19 : decode prog_1_method_2_code 19 = .ok (.iconst 0, 1) := by decide +kernel
theorem d_X_turn_20 : decode prog_1_method_2_code 20 = .ok (.bipush 7, 2) := by decide +kernel
theorem d_X_turn_22 : decode prog_1_method_2_code 22 = .ok (.invokestatic 44, 3) := by decide +kernel
theorem d_X_turn_25 : decode prog_1_method_2_code 25 = .ok (.ifCond .ne 10, 3) := by decide +kernel
theorem d_X_turn_35 : decode prog_1_method_2_code 35 = .ok (.aload_n 0, 1) := by decide +kernel
theorem d_X_turn_36 : decode prog_1_method_2_code 36 = .ok (.getfield 12, 3) := by decide +kernel
theorem d_X_turn_39 : decode prog_1_method_2_code 39 = .ok (.getfield 53, 3) := by decide +kernel
theorem d_X_turn_42 : decode prog_1_method_2_code 42 = .ok (.iload_n 1, 1) := by decide +kernel
theorem d_X_turn_43 : decode prog_1_method_2_code 43 = .ok (.iaload, 1) := by decide +kernel
theorem d_X_turn_44 : decode prog_1_method_2_code 44 = .ok (.istore 4, 2) := by decide +kernel
theorem d_X_turn_46 : decode prog_1_method_2_code 46 = .ok (.aload_n 0, 1) := by decide +kernel
theorem d_X_turn_47 : decode prog_1_method_2_code 47 = .ok (.getfield 12, 3) := by decide +kernel
theorem d_X_turn_50 : decode prog_1_method_2_code 50 = .ok (.getfield 53, 3) := by decide +kernel
theorem d_X_turn_53 : decode prog_1_method_2_code 53 = .ok (.iload_n 1, 1) := by decide +kernel
theorem d_X_turn_54 : decode prog_1_method_2_code 54 = .ok (.bipush 10, 2) := by decide +kernel
theorem d_X_turn_56 : decode prog_1_method_2_code 56 = .ok (.iload_n 2, 1) := by decide +kernel
theorem d_X_turn_57 : decode prog_1_method_2_code 57 = .ok (.imul, 1) := by decide +kernel
theorem d_X_turn_58 : decode prog_1_method_2_code 58 = .ok (.iload_n 3, 1) := by decide +kernel
theorem d_X_turn_59 : decode prog_1_method_2_code 59 = .ok (.iadd, 1) := by decide +kernel
theorem d_X_turn_60 : decode prog_1_method_2_code 60 = .ok (.iastore, 1) := by decide +kernel
theorem d_X_turn_61 : decode prog_1_method_2_code 61 = .ok (.iload 4, 2) := by decide +kernel
theorem d_X_turn_63 : decode prog_1_method_2_code 63 = .ok (.ireturn, 1) := by decide +kernel
theorem d_X_turn_28 : decode prog_1_method_2_code 28 = .ok (.aload_n 0, 1) := by decide +kernel
theorem d_X_turn_29 : decode prog_1_method_2_code 29 = .ok (.ldc 48, 2) := by decide +kernel
theorem d_X_turn_31 : decode prog_1_method_2_code 31 = .ok (.invokevirtual 49, 3) := by decide +kernel
theorem d_X_turn_34 : decode prog_1_method_2_code 34 = .ok (.ireturn, 1) := by decide +kernel
theorem d_X_listed_0 : decode prog_1_method_3_code 0 = .ok (.iload_n 1, 1) := by decide +kernel
theorem d_X_listed_1 : decode prog_1_method_3_code 1 = .ok (.iconst 0, 1) := by decide +kernel
theorem d_X_listed_2 : decode prog_1_method_3_code 2 = .ok (.iconst 5, 1) := by decide +kernel
theorem d_X_listed_3 : decode prog_1_method_3_code 3 = .ok (.invokestatic 44, 3) := by decide +kernel
theorem d_X_listed_6 : decode prog_1_method_3_code 6 = .ok (.ifCond .eq 15, 3) := by decide +kernel
theorem d_X_listed_9 : decode prog_1_method_3_code 9 = .ok (.aload_n 0, 1) := by decide +kernel
theorem d_X_listed_10 : decode prog_1_method_3_code 10 = .ok (.getfield 12, 3) := by decide +kernel
theorem d_X_listed_13 : decode prog_1_method_3_code 13 = .ok (.getfield 53, 3) := by decide +kernel
theorem d_X_listed_16 : decode prog_1_method_3_code 16 = .ok (.iload_n 1, 1) := by decide +kernel
theorem d_X_listed_17 : decode prog_1_method_3_code 17 = .ok (.iaload, 1) := by decide +kernel
theorem d_X_listed_18 : decode prog_1_method_3_code 18 = .ok (.goto 9, 3) := by decide +kernel
theorem d_X_listed_27 : decode prog_1_method_3_code 27 = .ok (.ireturn, 1) := by decide +kernel
theorem d_X_listed_21 : decode prog_1_method_3_code 21 = .ok (.aload_n 0, 1) := by decide +kernel
theorem d_X_listed_22 : decode prog_1_method_3_code 22 = .ok (.ldc 48, 2) := by decide +kernel
theorem d_X_listed_24 : decode prog_1_method_3_code 24 = .ok (.invokevirtual 49, 3) := by decide +kernel
theorem d_X_thing_0 : decode prog_1_method_4_code 0 = .ok (.iload_n 1, 1) := by decide +kernel
theorem d_X_thing_1 : decode prog_1_method_4_code 1 = .ok (.iconst 0, 1) := by decide +kernel
theorem d_X_thing_2 : decode prog_1_method_4_code 2 = .ok (.getstatic 56, 3) := by decide +kernel
theorem d_X_thing_5 : decode prog_1_method_4_code 5 = .ok (.iconst 0, 1) := by decide +kernel
theorem d_X_thing_6 : decode prog_1_method_4_code 6 = .ok (.iaload, 1) := by decide +kernel
theorem d_X_thing_7 : decode prog_1_method_4_code 7 = .ok (.invokestatic 44, 3) := by decide +kernel
theorem d_X_thing_10 : decode prog_1_method_4_code 10 = .ok (.ifCond .eq 13, 3) := by decide +kernel
theorem d_X_thing_13 : decode prog_1_method_4_code 13 = .ok (.iload_n 2, 1) := by decide +kernel
theorem d_X_thing_14 : decode prog_1_method_4_code 14 = .ok (.iconst 0, 1) := by decide +kernel
theorem d_X_thing_15 : decode prog_1_method_4_code 15 = .ok (.bipush 15, 2) := by decide +kernel
theorem d_X_thing_17 : decode prog_1_method_4_code 17 = .ok (.invokestatic 44, 3) := by decide +kernel
theorem d_X_thing_20 : decode prog_1_method_4_code 20 = .ok (.ifCond .ne 10, 3) := by decide +kernel
theorem d_X_thing_30 : decode prog_1_method_4_code 30 = .ok (.aload_n 0, 1) := by decide +kernel
theorem d_X_thing_31 : decode prog_1_method_4_code 31 = .ok (.getfield 12, 3) := by decide +kernel
theorem d_X_thing_34 : decode prog_1_method_4_code 34 = .ok (.getfield 59, 3) := by decide +kernel
theorem d_X_thing_37 : decode prog_1_method_4_code 37 = .ok (.bipush 8, 2) := by decide +kernel
theorem d_X_thing_39 : decode prog_1_method_4_code 39 = .ok (.if_icmp .lt 10, 3) := by decide +kernel
theorem d_X_thing_49 : decode prog_1_method_4_code 49 = .ok (.aload_n 0, 1) := by decide +kernel
theorem d_X_thing_50 : decode prog_1_method_4_code 50 = .ok (.getfield 12, 3) := by decide +kernel
theorem d_X_thing_53 : decode prog_1_method_4_code 53 = .ok (.iload_n 1, 1) := by decide +kernel
theorem d_X_thing_54 : decode prog_1_method_4_code 54 = .ok (.iload_n 2, 1) := by decide +kernel
theorem d_X_thing_55 : decode prog_1_method_4_code 55 = .ok (.invokevirtual 64, 3) := by decide +kernel
theorem d_X_thing_58 : decode prog_1_method_4_code 58 = .ok (.ireturn, 1) := by decide +kernel
theorem d_X_thing_42 : decode prog_1_method_4_code 42 = .ok (.aload_n 0, 1) := by decide +kernel
theorem d_X_thing_43 : decode prog_1_method_4_code 43 = .ok (.ldc 63, 2) := by decide +kernel
theorem d_X_thing_45 : decode prog_1_method_4_code 45 = .ok (.invokevirtual 49, 3) := by decide +kernel
theorem d_X_thing_48 : decode prog_1_method_4_code 48 = .ok (.ireturn, 1) := by decide +kernel
theorem d_X_thing_23 : decode prog_1_method_4_code 23 = .ok (.aload_n 0, 1) := by decide +kernel
theorem d_X_thing_24 : decode prog_1_method_4_code 24 = .ok (.ldc 48, 2) := by decide +kernel
theorem d_X_thing_26 : decode prog_1_method_4_code 26 = .ok (.invokevirtual 49, 3) := by decide +kernel
theorem d_X_thing_29 : decode prog_1_method_4_code 29 = .ok (.ireturn, 1) := by decide +kernel
theorem d_X_walker_0 : decode prog_1_method_5_code 0 = .ok (.iload_n 1, 1) := by decide +kernel
theorem d_X_walker_1 : decode prog_1_method_5_code 1 = .ok (.iconst 0, 1) := by decide +kernel
theorem d_X_walker_2 : decode prog_1_method_5_code 2 = .ok (.bipush 15, 2) := by decide +kernel
theorem d_X_walker_4 : decode prog_1_method_5_code 4 = .ok (.invokestatic 44, 3) := by decide +kernel
theorem d_X_walker_7 : decode prog_1_method_5_code 7 = .ok (.ifCond .eq 13, 3) := by decide +kernel
theorem d_X_walker_10 : decode prog_1_method_5_code 10 = .ok (.iload_n 2, 1) := by decide +kernel
theorem d_X_walker_11 : decode prog_1_method_5_code 11 = .ok (.iconst 0, 1) := by decide +kernel
theorem d_X_walker_12 : decode prog_1_method_5_code 12 = .ok (.bipush 7, 2) := by decide +kernel
theorem d_X_walker_14 : decode prog_1_method_5_code 14 = .ok (.invokestatic 44, 3) := by decide +kernel
theorem d_X_walker_17 : decode prog_1_method_5_code 17 = .ok (.ifCond .ne 10, 3) := by decide +kernel
theorem d_X_walker_27 : decode prog_1_method_5_code 27 = .ok (.aload_n 0, 1) := by decide +kernel
theorem d_X_walker_28 : decode prog_1_method_5_code 28 = .ok (.getfield 12, 3) := by decide +kernel
theorem d_X_walker_31 : decode prog_1_method_5_code 31 = .ok (.getfield 68, 3) := by decide +kernel
theorem d_X_walker_34 : decode prog_1_method_5_code 34 = .ok (.bipush 6, 2) := by decide +kernel
theorem d_X_walker_36 : decode prog_1_method_5_code 36 = .ok (.if_icmp .lt 10, 3) := by decide +kernel
theorem d_X_walker_46 : decode prog_1_method_5_code 46 = .ok (.aload_n 0, 1) := by decide +kernel
theorem d_X_walker_47 : decode prog_1_method_5_code 47 = .ok (.getfield 12, 3) := by decide +kernel
theorem d_X_walker_50 : decode prog_1_method_5_code 50 = .ok (.iload_n 1, 1) := by decide +kernel
theorem d_X_walker_51 : decode prog_1_method_5_code 51 = .ok (.iload_n 2, 1) := by decide +kernel
theorem d_X_walker_52 : decode prog_1_method_5_code 52 = .ok (.invokevirtual 71, 3) := by decide +kernel
theorem d_X_walker_55 : decode prog_1_method_5_code 55 = .ok (.ireturn, 1) := by decide +kernel
theorem d_X_walker_39 : decode prog_1_method_5_code 39 = .ok (.aload_n 0, 1) := by decide +kernel
theorem d_X_walker_40 : decode prog_1_method_5_code 40 = .ok (.ldc 63, 2) := by decide +kernel
theorem d_X_walker_42 : decode prog_1_method_5_code 42 = .ok (.invokevirtual 49, 3) := by decide +kernel
theorem d_X_walker_45 : decode prog_1_method_5_code 45 = .ok (.ireturn, 1) := by decide +kernel
theorem d_X_walker_20 : decode prog_1_method_5_code 20 = .ok (.aload_n 0, 1) := by decide +kernel
theorem d_X_walker_21 : decode prog_1_method_5_code 21 = .ok (.ldc 48, 2) := by decide +kernel
theorem d_X_walker_23 : decode prog_1_method_5_code 23 = .ok (.invokevirtual 49, 3) := by decide +kernel
theorem d_X_walker_26 : decode prog_1_method_5_code 26 = .ok (.ireturn, 1) := by decide +kernel
theorem d_X_of_0 : decode prog_1_method_6_code 0 = .ok (.aload_n 0, 1) := by decide +kernel
theorem d_X_of_1 : decode prog_1_method_6_code 1 = .ok (.getfield 12, 3) := by decide +kernel
theorem d_X_of_4 : decode prog_1_method_6_code 4 = .ok (.iload_n 1, 1) := by decide +kernel
theorem d_X_of_5 : decode prog_1_method_6_code 5 = .ok (.invokevirtual 74, 3) := by decide +kernel
theorem d_X_of_8 : decode prog_1_method_6_code 8 = .ok (.ifCond .eq 12, 3) := by decide +kernel
theorem d_X_of_11 : decode prog_1_method_6_code 11 = .ok (.iload_n 2, 1) := by decide +kernel
theorem d_X_of_12 : decode prog_1_method_6_code 12 = .ok (.iconst 0, 1) := by decide +kernel
theorem d_X_of_13 : decode prog_1_method_6_code 13 = .ok (.iconst 5, 1) := by decide +kernel
theorem d_X_of_14 : decode prog_1_method_6_code 14 = .ok (.invokestatic 44, 3) := by decide +kernel
theorem d_X_of_17 : decode prog_1_method_6_code 17 = .ok (.ifCond .ne 10, 3) := by decide +kernel
theorem d_X_of_27 : decode prog_1_method_6_code 27 = .ok (.aload_n 0, 1) := by decide +kernel
theorem d_X_of_28 : decode prog_1_method_6_code 28 = .ok (.getfield 12, 3) := by decide +kernel
theorem d_X_of_31 : decode prog_1_method_6_code 31 = .ok (.getfield 78, 3) := by decide +kernel
theorem d_X_of_34 : decode prog_1_method_6_code 34 = .ok (.iload_n 1, 1) := by decide +kernel
theorem d_X_of_35 : decode prog_1_method_6_code 35 = .ok (.aaload, 1) := by decide +kernel
theorem d_X_of_36 : decode prog_1_method_6_code 36 = .ok (.astore_n 3, 1) := by decide +kernel
theorem d_X_of_37 : decode prog_1_method_6_code 37 = .ok (.iload_n 2, 1) := by decide +kernel
theorem d_X_of_38 : decode prog_1_method_6_code 38 = .ok (.tableswitch 64 3 5 #[26, 33, 50], 26) := by decide +kernel
theorem d_X_of_102 : decode prog_1_method_6_code 102 = .ok (.aload_n 3, 1) := by decide +kernel
theorem d_X_of_103 : decode prog_1_method_6_code 103 = .ok (.iload_n 2, 1) := by decide +kernel
theorem d_X_of_104 : decode prog_1_method_6_code 104 = .ok (.iaload, 1) := by decide +kernel
theorem d_X_of_105 : decode prog_1_method_6_code 105 = .ok (.ireturn, 1) := by decide +kernel
theorem d_X_of_64 : decode prog_1_method_6_code 64 = .ok (.aload_n 3, 1) := by decide +kernel
theorem d_X_of_65 : decode prog_1_method_6_code 65 = .ok (.iconst 0, 1) := by decide +kernel
theorem d_X_of_66 : decode prog_1_method_6_code 66 = .ok (.iaload, 1) := by decide +kernel
theorem d_X_of_67 : decode prog_1_method_6_code 67 = .ok (.invokestatic 82, 3) := by decide +kernel
theorem d_X_of_70 : decode prog_1_method_6_code 70 = .ok (.ireturn, 1) := by decide +kernel
theorem d_X_of_71 : decode prog_1_method_6_code 71 = .ok (.aload_n 3, 1) := by decide +kernel
theorem d_X_of_72 : decode prog_1_method_6_code 72 = .ok (.iconst 0, 1) := by decide +kernel
theorem d_X_of_73 : decode prog_1_method_6_code 73 = .ok (.iaload, 1) := by decide +kernel
theorem d_X_of_74 : decode prog_1_method_6_code 74 = .ok (.aload_n 3, 1) := by decide +kernel
theorem d_X_of_75 : decode prog_1_method_6_code 75 = .ok (.iconst 2, 1) := by decide +kernel
theorem d_X_of_76 : decode prog_1_method_6_code 76 = .ok (.iaload, 1) := by decide +kernel
theorem d_X_of_77 : decode prog_1_method_6_code 77 = .ok (.aload_n 0, 1) := by decide +kernel
theorem d_X_of_78 : decode prog_1_method_6_code 78 = .ok (.getfield 12, 3) := by decide +kernel
theorem d_X_of_81 : decode prog_1_method_6_code 81 = .ok (.getfield 87, 3) := by decide +kernel
theorem d_X_of_84 : decode prog_1_method_6_code 84 = .ok (.invokestatic 90, 3) := by decide +kernel
theorem d_X_of_87 : decode prog_1_method_6_code 87 = .ok (.ireturn, 1) := by decide +kernel
theorem d_X_of_88 : decode prog_1_method_6_code 88 = .ok (.aload_n 3, 1) := by decide +kernel
theorem d_X_of_89 : decode prog_1_method_6_code 89 = .ok (.iconst 0, 1) := by decide +kernel
theorem d_X_of_90 : decode prog_1_method_6_code 90 = .ok (.iaload, 1) := by decide +kernel
theorem d_X_of_91 : decode prog_1_method_6_code 91 = .ok (.aload_n 0, 1) := by decide +kernel
theorem d_X_of_92 : decode prog_1_method_6_code 92 = .ok (.getfield 12, 3) := by decide +kernel
theorem d_X_of_95 : decode prog_1_method_6_code 95 = .ok (.getfield 87, 3) := by decide +kernel
theorem d_X_of_98 : decode prog_1_method_6_code 98 = .ok (.invokestatic 94, 3) := by decide +kernel
theorem d_X_of_101 : decode prog_1_method_6_code 101 = .ok (.ireturn, 1) := by decide +kernel
theorem d_X_of_20 : decode prog_1_method_6_code 20 = .ok (.aload_n 0, 1) := by decide +kernel
theorem d_X_of_21 : decode prog_1_method_6_code 21 = .ok (.ldc 48, 2) := by decide +kernel
theorem d_X_of_23 : decode prog_1_method_6_code 23 = .ok (.invokevirtual 49, 3) := by decide +kernel
theorem d_X_of_26 : decode prog_1_method_6_code 26 = .ok (.ireturn, 1) := by decide +kernel
theorem d_X_change_0 : decode prog_1_method_7_code 0 = .ok (.aload_n 0, 1) := by decide +kernel
theorem d_X_change_1 : decode prog_1_method_7_code 1 = .ok (.getfield 12, 3) := by decide +kernel
theorem d_X_change_4 : decode prog_1_method_7_code 4 = .ok (.iload_n 1, 1) := by decide +kernel
theorem d_X_change_5 : decode prog_1_method_7_code 5 = .ok (.invokevirtual 74, 3) := by decide +kernel
theorem d_X_change_8 : decode prog_1_method_7_code 8 = .ok (.ifCond .eq 25, 3) := by decide +kernel
theorem d_X_change_11 : decode prog_1_method_7_code 11 = .ok (.iload_n 2, 1) := by decide +kernel
theorem d_X_change_12 : decode prog_1_method_7_code 12 = .ok (.iconst 0, 1) := by decide +kernel
theorem d_X_change_13 : decode prog_1_method_7_code 13 = .ok (.iconst 2, 1) := by decide +kernel
theorem d_X_change_14 : decode prog_1_method_7_code 14 = .ok (.invokestatic 44, 3) := by decide +kernel
theorem d_X_change_17 : decode prog_1_method_7_code 17 = .ok (.ifCond .eq 16, 3) := by decide +kernel
theorem d_X_change_20 : decode prog_1_method_7_code 20 = .ok (.iload_n 3, 1) := by decide +kernel
theorem d_X_change_21 : decode prog_1_method_7_code 21 = .ok (.iconst 0, 1) := by decide +kernel
theorem d_X_change_22 : decode prog_1_method_7_code 22 = .ok (.getstatic 56, 3) := by decide +kernel
theorem d_X_change_25 : decode prog_1_method_7_code 25 = .ok (.iload_n 2, 1) := by decide +kernel
theorem d_X_change_26 : decode prog_1_method_7_code 26 = .ok (.iaload, 1) := by decide +kernel
theorem d_X_change_27 : decode prog_1_method_7_code 27 = .ok (.invokestatic 44, 3) := by decide +kernel
theorem d_X_change_30 : decode prog_1_method_7_code 30 = .ok (.ifCond .ne 10, 3) := by decide +kernel
theorem d_X_change_40 : decode prog_1_method_7_code 40 = .ok (.aload_n 0, 1) := by decide +kernel
theorem d_X_change_41 : decode prog_1_method_7_code 41 = .ok (.getfield 12, 3) := by decide +kernel
theorem d_X_change_44 : decode prog_1_method_7_code 44 = .ok (.getfield 78, 3) := by decide +kernel
theorem d_X_change_47 : decode prog_1_method_7_code 47 = .ok (.iload_n 1, 1) := by decide +kernel
theorem d_X_change_48 : decode prog_1_method_7_code 48 = .ok (.aaload, 1) := by decide +kernel
theorem d_X_change_49 : decode prog_1_method_7_code 49 = .ok (.iload_n 2, 1) := by decide +kernel
theorem d_X_change_50 : decode prog_1_method_7_code 50 = .ok (.iaload, 1) := by decide +kernel
theorem d_X_change_51 : decode prog_1_method_7_code 51 = .ok (.istore 4, 2) := by decide +kernel
theorem d_X_change_53 : decode prog_1_method_7_code 53 = .ok (.aload_n 0, 1) := by decide +kernel
theorem d_X_change_54 : decode prog_1_method_7_code 54 = .ok (.getfield 12, 3) := by decide +kernel
theorem d_X_change_57 : decode prog_1_method_7_code 57 = .ok (.getfield 78, 3) := by decide +kernel
theorem d_X_change_60 : decode prog_1_method_7_code 60 = .ok (.iload_n 1, 1) := by decide +kernel
theorem d_X_change_61 : decode prog_1_method_7_code 61 = .ok (.aaload, 1) := by decide +kernel
theorem d_X_change_62 : decode prog_1_method_7_code 62 = .ok (.iload_n 2, 1) := by decide +kernel
theorem d_X_change_63 : decode prog_1_method_7_code 63 = .ok (.iload_n 3, 1) := by decide +kernel
theorem d_X_change_64 : decode prog_1_method_7_code 64 = .ok (.iastore, 1) := by decide +kernel
theorem d_X_change_65 : decode prog_1_method_7_code 65 = .ok (.iload 4, 2) := by decide +kernel
theorem d_X_change_67 : decode prog_1_method_7_code 67 = .ok (.ireturn, 1) := by decide +kernel
theorem d_X_change_33 : decode prog_1_method_7_code 33 = .ok (.aload_n 0, 1) := by decide +kernel
theorem d_X_change_34 : decode prog_1_method_7_code 34 = .ok (.ldc 48, 2) := by decide +kernel
theorem d_X_change_36 : decode prog_1_method_7_code 36 = .ok (.invokevirtual 49, 3) := by decide +kernel
theorem d_X_change_39 : decode prog_1_method_7_code 39 = .ok (.ireturn, 1) := by decide +kernel
theorem d_X_ofWalker_0 : decode prog_1_method_8_code 0 = .ok (.aload_n 0, 1) := by decide +kernel
theorem d_X_ofWalker_1 : decode prog_1_method_8_code 1 = .ok (.getfield 12, 3) := by decide +kernel
theorem d_X_ofWalker_4 : decode prog_1_method_8_code 4 = .ok (.iload_n 1, 1) := by decide +kernel
theorem d_X_ofWalker_5 : decode prog_1_method_8_code 5 = .ok (.invokevirtual 97, 3) := by decide +kernel
theorem d_X_ofWalker_8 : decode prog_1_method_8_code 8 = .ok (.ifCond .eq 12, 3) := by decide +kernel
theorem d_X_ofWalker_11 : decode prog_1_method_8_code 11 = .ok (.iload_n 2, 1) := by decide +kernel
theorem d_X_ofWalker_12 : decode prog_1_method_8_code 12 = .ok (.iconst 0, 1) := by decide +kernel
theorem d_X_ofWalker_13 : decode prog_1_method_8_code 13 = .ok (.iconst 5, 1) := by decide +kernel
theorem d_X_ofWalker_14 : decode prog_1_method_8_code 14 = .ok (.invokestatic 44, 3) := by decide +kernel
theorem d_X_ofWalker_17 : decode prog_1_method_8_code 17 = .ok (.ifCond .ne 10, 3) := by decide +kernel
theorem d_X_ofWalker_27 : decode prog_1_method_8_code 27 = .ok (.aload_n 0, 1) := by decide +kernel
theorem d_X_ofWalker_28 : decode prog_1_method_8_code 28 = .ok (.getfield 12, 3) := by decide +kernel
theorem d_X_ofWalker_31 : decode prog_1_method_8_code 31 = .ok (.getfield 100, 3) := by decide +kernel
theorem d_X_ofWalker_34 : decode prog_1_method_8_code 34 = .ok (.iload_n 1, 1) := by decide +kernel
theorem d_X_ofWalker_35 : decode prog_1_method_8_code 35 = .ok (.aaload, 1) := by decide +kernel
theorem d_X_ofWalker_36 : decode prog_1_method_8_code 36 = .ok (.iload_n 2, 1) := by decide +kernel
theorem d_X_ofWalker_37 : decode prog_1_method_8_code 37 = .ok (.iaload, 1) := by decide +kernel
theorem d_X_ofWalker_38 : decode prog_1_method_8_code 38 = .ok (.ireturn, 1) := by decide +kernel
theorem d_X_ofWalker_20 : decode prog_1_method_8_code 20 = .ok (.aload_n 0, 1) := by decide +kernel
theorem d_X_ofWalker_21 : decode prog_1_method_8_code 21 = .ok (.ldc 48, 2) := by decide +kernel
theorem d_X_ofWalker_23 : decode prog_1_method_8_code 23 = .ok (.invokevirtual 49, 3) := by decide +kernel
theorem d_X_ofWalker_26 : decode prog_1_method_8_code 26 = .ok (.ireturn, 1) := by decide +kernel
theorem d_X_lead_0 : decode prog_1_method_9_code 0 = .ok (.aload_n 0, 1) := by decide +kernel
theorem d_X_lead_1 : decode prog_1_method_9_code 1 = .ok (.getfield 12, 3) := by decide +kernel
theorem d_X_lead_4 : decode prog_1_method_9_code 4 = .ok (.iload_n 1, 1) := by decide +kernel
theorem d_X_lead_5 : decode prog_1_method_9_code 5 = .ok (.invokevirtual 97, 3) := by decide +kernel
theorem d_X_lead_8 : decode prog_1_method_9_code 8 = .ok (.ifCond .eq 29, 3) := by decide +kernel
theorem d_X_lead_11 : decode prog_1_method_9_code 11 = .ok (.iload_n 2, 1) := by decide +kernel
theorem d_X_lead_12 : decode prog_1_method_9_code 12 = .ok (.iconst 0, 1) := by decide +kernel
theorem d_X_lead_13 : decode prog_1_method_9_code 13 = .ok (.iconst 5, 1) := by decide +kernel
theorem d_X_lead_14 : decode prog_1_method_9_code 14 = .ok (.invokestatic 44, 3) := by decide +kernel
theorem d_X_lead_17 : decode prog_1_method_9_code 17 = .ok (.ifCond .eq 20, 3) := by decide +kernel
theorem d_X_lead_20 : decode prog_1_method_9_code 20 = .ok (.iload_n 3, 1) := by decide +kernel
theorem d_X_lead_21 : decode prog_1_method_9_code 21 = .ok (.getstatic 103, 3) := by decide +kernel
theorem d_X_lead_24 : decode prog_1_method_9_code 24 = .ok (.iload_n 2, 1) := by decide +kernel
theorem d_X_lead_25 : decode prog_1_method_9_code 25 = .ok (.iaload, 1) := by decide +kernel
theorem d_X_lead_26 : decode prog_1_method_9_code 26 = .ok (.getstatic 106, 3) := by decide +kernel
theorem d_X_lead_29 : decode prog_1_method_9_code 29 = .ok (.iload_n 2, 1) := by decide +kernel
theorem d_X_lead_30 : decode prog_1_method_9_code 30 = .ok (.iaload, 1) := by decide +kernel
theorem d_X_lead_31 : decode prog_1_method_9_code 31 = .ok (.invokestatic 44, 3) := by decide +kernel
theorem d_X_lead_34 : decode prog_1_method_9_code 34 = .ok (.ifCond .ne 10, 3) := by decide +kernel
theorem d_X_lead_44 : decode prog_1_method_9_code 44 = .ok (.aload_n 0, 1) := by decide +kernel
theorem d_X_lead_45 : decode prog_1_method_9_code 45 = .ok (.getfield 12, 3) := by decide +kernel
theorem d_X_lead_48 : decode prog_1_method_9_code 48 = .ok (.getfield 100, 3) := by decide +kernel
theorem d_X_lead_51 : decode prog_1_method_9_code 51 = .ok (.iload_n 1, 1) := by decide +kernel
theorem d_X_lead_52 : decode prog_1_method_9_code 52 = .ok (.aaload, 1) := by decide +kernel
theorem d_X_lead_53 : decode prog_1_method_9_code 53 = .ok (.iload_n 2, 1) := by decide +kernel
theorem d_X_lead_54 : decode prog_1_method_9_code 54 = .ok (.iaload, 1) := by decide +kernel
theorem d_X_lead_55 : decode prog_1_method_9_code 55 = .ok (.istore 4, 2) := by decide +kernel
theorem d_X_lead_57 : decode prog_1_method_9_code 57 = .ok (.aload_n 0, 1) := by decide +kernel
theorem d_X_lead_58 : decode prog_1_method_9_code 58 = .ok (.getfield 12, 3) := by decide +kernel
theorem d_X_lead_61 : decode prog_1_method_9_code 61 = .ok (.getfield 100, 3) := by decide +kernel
theorem d_X_lead_64 : decode prog_1_method_9_code 64 = .ok (.iload_n 1, 1) := by decide +kernel
theorem d_X_lead_65 : decode prog_1_method_9_code 65 = .ok (.aaload, 1) := by decide +kernel
theorem d_X_lead_66 : decode prog_1_method_9_code 66 = .ok (.iload_n 2, 1) := by decide +kernel
theorem d_X_lead_67 : decode prog_1_method_9_code 67 = .ok (.iload_n 3, 1) := by decide +kernel
theorem d_X_lead_68 : decode prog_1_method_9_code 68 = .ok (.iastore, 1) := by decide +kernel
theorem d_X_lead_69 : decode prog_1_method_9_code 69 = .ok (.iload 4, 2) := by decide +kernel
theorem d_X_lead_71 : decode prog_1_method_9_code 71 = .ok (.ireturn, 1) := by decide +kernel
theorem d_X_lead_37 : decode prog_1_method_9_code 37 = .ok (.aload_n 0, 1) := by decide +kernel
theorem d_X_lead_38 : decode prog_1_method_9_code 38 = .ok (.ldc 48, 2) := by decide +kernel
theorem d_X_lead_40 : decode prog_1_method_9_code 40 = .ok (.invokevirtual 49, 3) := by decide +kernel
theorem d_X_lead_43 : decode prog_1_method_9_code 43 = .ok (.ireturn, 1) := by decide +kernel
theorem d_X_sees_0 : decode prog_1_method_10_code 0 = .ok (.aload_n 0, 1) := by decide +kernel
theorem d_X_sees_1 : decode prog_1_method_10_code 1 = .ok (.getfield 12, 3) := by decide +kernel
theorem d_X_sees_4 : decode prog_1_method_10_code 4 = .ok (.iload_n 1, 1) := by decide +kernel
theorem d_X_sees_5 : decode prog_1_method_10_code 5 = .ok (.invokevirtual 97, 3) := by decide +kernel
theorem d_X_sees_8 : decode prog_1_method_10_code 8 = .ok (.ifCond .ne 10, 3) := by decide +kernel
theorem d_X_sees_18 : decode prog_1_method_10_code 18 = .ok (.iconst 0, 1) := by decide +kernel
theorem d_X_sees_19 : decode prog_1_method_10_code 19 = .ok (.istore_n 2, 1) := by decide +kernel
theorem d_X_sees_20 : decode prog_1_method_10_code 20 = .ok (.iconst 0, 1) := by decide +kernel
theorem d_X_sees_21 : decode prog_1_method_10_code 21 = .ok (.istore_n 3, 1) := by decide +kernel
theorem d_X_sees_22 : decode prog_1_method_10_code 22 = .ok (.iload_n 3, 1) := by decide +kernel
theorem d_X_sees_23 : decode prog_1_method_10_code 23 = .ok (.aload_n 0, 1) := by decide +kernel
theorem d_X_sees_24 : decode prog_1_method_10_code 24 = .ok (.getfield 12, 3) := by decide +kernel
theorem d_X_sees_27 : decode prog_1_method_10_code 27 = .ok (.getfield 59, 3) := by decide +kernel
theorem d_X_sees_30 : decode prog_1_method_10_code 30 = .ok (.if_icmp .ge 27, 3) := by decide +kernel
theorem d_X_sees_33 : decode prog_1_method_10_code 33 = .ok (.aload_n 0, 1) := by decide +kernel
theorem d_X_sees_34 : decode prog_1_method_10_code 34 = .ok (.getfield 12, 3) := by decide +kernel
theorem d_X_sees_37 : decode prog_1_method_10_code 37 = .ok (.iload_n 1, 1) := by decide +kernel
theorem d_X_sees_38 : decode prog_1_method_10_code 38 = .ok (.iload_n 3, 1) := by decide +kernel
theorem d_X_sees_39 : decode prog_1_method_10_code 39 = .ok (.invokevirtual 109, 3) := by decide +kernel
theorem d_X_sees_42 : decode prog_1_method_10_code 42 = .ok (.ifCond .eq 9, 3) := by decide +kernel
theorem d_X_sees_45 : decode prog_1_method_10_code 45 = .ok (.iload_n 2, 1) := by decide +kernel
theorem d_X_sees_46 : decode prog_1_method_10_code 46 = .ok (.iconst 1, 1) := by decide +kernel
theorem d_X_sees_47 : decode prog_1_method_10_code 47 = .ok (.iload_n 3, 1) := by decide +kernel
theorem d_X_sees_48 : decode prog_1_method_10_code 48 = .ok (.ishl, 1) := by decide +kernel
theorem d_X_sees_49 : decode prog_1_method_10_code 49 = .ok (.ior, 1) := by decide +kernel
theorem d_X_sees_50 : decode prog_1_method_10_code 50 = .ok (.istore_n 2, 1) := by decide +kernel
theorem d_X_sees_51 : decode prog_1_method_10_code 51 = .ok (.iinc 3 1, 3) := by decide +kernel
theorem d_X_sees_54 : decode prog_1_method_10_code 54 = .ok (.goto (-32), 3) := by decide +kernel
theorem d_X_sees_57 : decode prog_1_method_10_code 57 = .ok (.iload_n 2, 1) := by decide +kernel
theorem d_X_sees_58 : decode prog_1_method_10_code 58 = .ok (.ireturn, 1) := by decide +kernel
theorem d_X_sees_11 : decode prog_1_method_10_code 11 = .ok (.aload_n 0, 1) := by decide +kernel
theorem d_X_sees_12 : decode prog_1_method_10_code 12 = .ok (.ldc 48, 2) := by decide +kernel
theorem d_X_sees_14 : decode prog_1_method_10_code 14 = .ok (.invokevirtual 49, 3) := by decide +kernel
theorem d_X_sees_17 : decode prog_1_method_10_code 17 = .ok (.ireturn, 1) := by decide +kernel
theorem d_X_seenBy_0 : decode prog_1_method_11_code 0 = .ok (.aload_n 0, 1) := by decide +kernel
theorem d_X_seenBy_1 : decode prog_1_method_11_code 1 = .ok (.getfield 12, 3) := by decide +kernel
theorem d_X_seenBy_4 : decode prog_1_method_11_code 4 = .ok (.iload_n 1, 1) := by decide +kernel
theorem d_X_seenBy_5 : decode prog_1_method_11_code 5 = .ok (.invokevirtual 74, 3) := by decide +kernel
theorem d_X_seenBy_8 : decode prog_1_method_11_code 8 = .ok (.ifCond .eq 14, 3) := by decide +kernel
theorem d_X_seenBy_11 : decode prog_1_method_11_code 11 = .ok (.aload_n 0, 1) := by decide +kernel
theorem d_X_seenBy_12 : decode prog_1_method_11_code 12 = .ok (.getfield 12, 3) := by decide +kernel
theorem d_X_seenBy_15 : decode prog_1_method_11_code 15 = .ok (.iload_n 1, 1) := by decide +kernel
theorem d_X_seenBy_16 : decode prog_1_method_11_code 16 = .ok (.invokevirtual 113, 3) := by decide +kernel
theorem d_X_seenBy_19 : decode prog_1_method_11_code 19 = .ok (.goto 9, 3) := by decide +kernel
theorem d_X_seenBy_28 : decode prog_1_method_11_code 28 = .ok (.ireturn, 1) := by decide +kernel
theorem d_X_seenBy_22 : decode prog_1_method_11_code 22 = .ok (.aload_n 0, 1) := by decide +kernel
theorem d_X_seenBy_23 : decode prog_1_method_11_code 23 = .ok (.ldc 48, 2) := by decide +kernel
theorem d_X_seenBy_25 : decode prog_1_method_11_code 25 = .ok (.invokevirtual 49, 3) := by decide +kernel
set_option maxHeartbeats 1000000 in
set_option maxRecDepth 20000 in
theorem c_X_told_0 (l : Launch) (E : QE) (S : QM) (φ : Nat → Int32) (hφ : S 14 = φ) : qCI E l y_X_told prog_1_method_46_code 3 .int 2 [.ref (eA E 0), .int (-1000001)] S (-1000001) (qr S 14 (fnS φ 0)) := by
  refine qCI_of (by decide) (Nat.le_of_ble_eq_true rfl) (fun p e s m below meth c ls X hW hl => ?_)
  have hl : lv_has ls 3 [(0, .ref (eA E 0)), (1, .int (-1000001))] := hl
  refine lv_ldc (v := (-1000001)) X.x X.b X.ow (X.ts _ mw_212) d_X_told_0 ?_
  refine lv_iload_n X.x X.b d_X_told_2 rfl (lv_at hl 1 rfl) ?_
  refine lv_isub X.x X.b d_X_told_3 ?_
  rw [show (-1000001) - (-1000001) = nI 0 from (by decide)]
  refine lv_istore_n (lv' := [(2, .int (nI 0)), (0, .ref (eA E 0)), (1, .int (-1000001))]) X.x X.b d_X_told_4 rfl hl (by decide) rfl (fun ls hl => ?_)
  refine lv_iload_n X.x X.b d_X_told_5 rfl (lv_at hl 0 rfl) ?_
  refine lv_iconst (v := nI 0) X.x X.b d_X_told_6 (by decide) ?_
  refine lv_bipush (v := nI 6) X.x X.b d_X_told_7 (by decide) ?_
  refine q_csi X (c_X_within l E S (nI 0) (nI 0) (nI 6)) hW ok_X_within mw_209 ⟨by decide, by decide⟩ (As := [.int (nI 0), .int (nI 0), .int (nI 6)]) rfl rfl (Nat.le_of_ble_eq_true rfl) (lv := [(2, .int (nI 0)), (0, .ref (eA E 0)), (1, .int (-1000001))]) hl ⟨Nat.le_refl 0, Nat.le_refl 0⟩ d_X_told_9 (fun H locs hW => ?_)
  refine lv_if_eq (tgt := 25) X.x X.b d_X_told_12 (by decide) (fun c12 => ?_) (fun c12 => ?_)
  · have c12 := b2i_e c12
    have c12 := mt (inR_i (by omega) (by decide)).mpr c12
    omega
  · have c12 := b2i_n c12
    have c12 := (inR_i (by omega) (by decide)).mp c12
    refine lv_aload_n X.x X.b d_X_told_15 rfl (lv_at hl 1 rfl) ?_
    refine q_getr X hW qj3 rfl _ ds_X 6 (by decide) mw_189 rfl (c1 := 69) rfl d_X_told_16 ?_
    refine lv_iload_n X.x X.b d_X_told_19 rfl (lv_at hl 0 rfl) ?_
    refine lv_dup2_11 X.x X.b d_X_told_20 rfl rfl ?_
    refine g_ald X hW ds_f (q_in (by omega) (by decide)) (p0 := 0) (q_tn (by omega) (by omega)) (v := φ 0) (by rw [hφ]) d_X_told_21 ?_
    refine lv_iconst (v := nI 1) X.x X.b d_X_told_22 (by decide) ?_
    refine lv_iadd X.x X.b d_X_told_23 ?_
    refine g_ast X hW ds_f (q_in (by omega) (by decide)) (p0 := 0) (q_tn (by omega) (by omega)) (ρ := φ) (by rw [hφ]) d_X_told_24 (fun H locs hW => ?_)
    obtain ⟨r24, er24⟩ : ∃ z, z = upd φ 0 ((φ 0) + (nI 1)) := ⟨_, rfl⟩
    rw [← er24] at hW
    refine lv_iload_n X.x X.b d_X_told_25 rfl (lv_at hl 2 rfl) ?_
    exact q_zret X rfl hW ⟨rfl, by rw [er24]; rfl⟩ d_X_told_26
set_option maxHeartbeats 1000000 in
set_option maxRecDepth 20000 in
theorem c_X_told_1 (l : Launch) (E : QE) (S : QM) (φ : Nat → Int32) (hφ : S 14 = φ) : qCI E l y_X_told prog_1_method_46_code 3 .int 2 [.ref (eA E 0), .int (-1000002)] S (-1000002) (qr S 14 (fnS φ 1)) := by
  refine qCI_of (by decide) (Nat.le_of_ble_eq_true rfl) (fun p e s m below meth c ls X hW hl => ?_)
  have hl : lv_has ls 3 [(0, .ref (eA E 0)), (1, .int (-1000002))] := hl
  refine lv_ldc (v := (-1000001)) X.x X.b X.ow (X.ts _ mw_212) d_X_told_0 ?_
  refine lv_iload_n X.x X.b d_X_told_2 rfl (lv_at hl 1 rfl) ?_
  refine lv_isub X.x X.b d_X_told_3 ?_
  rw [show (-1000001) - (-1000002) = nI 1 from (by decide)]
  refine lv_istore_n (lv' := [(2, .int (nI 1)), (0, .ref (eA E 0)), (1, .int (-1000002))]) X.x X.b d_X_told_4 rfl hl (by decide) rfl (fun ls hl => ?_)
  refine lv_iload_n X.x X.b d_X_told_5 rfl (lv_at hl 0 rfl) ?_
  refine lv_iconst (v := nI 0) X.x X.b d_X_told_6 (by decide) ?_
  refine lv_bipush (v := nI 6) X.x X.b d_X_told_7 (by decide) ?_
  refine q_csi X (c_X_within l E S (nI 1) (nI 0) (nI 6)) hW ok_X_within mw_209 ⟨by decide, by decide⟩ (As := [.int (nI 1), .int (nI 0), .int (nI 6)]) rfl rfl (Nat.le_of_ble_eq_true rfl) (lv := [(2, .int (nI 1)), (0, .ref (eA E 0)), (1, .int (-1000002))]) hl ⟨Nat.le_refl 0, Nat.le_refl 0⟩ d_X_told_9 (fun H locs hW => ?_)
  refine lv_if_eq (tgt := 25) X.x X.b d_X_told_12 (by decide) (fun c12 => ?_) (fun c12 => ?_)
  · have c12 := b2i_e c12
    have c12 := mt (inR_i (by omega) (by decide)).mpr c12
    omega
  · have c12 := b2i_n c12
    have c12 := (inR_i (by omega) (by decide)).mp c12
    refine lv_aload_n X.x X.b d_X_told_15 rfl (lv_at hl 1 rfl) ?_
    refine q_getr X hW qj3 rfl _ ds_X 6 (by decide) mw_189 rfl (c1 := 69) rfl d_X_told_16 ?_
    refine lv_iload_n X.x X.b d_X_told_19 rfl (lv_at hl 0 rfl) ?_
    refine lv_dup2_11 X.x X.b d_X_told_20 rfl rfl ?_
    refine g_ald X hW ds_f (q_in (by omega) (by decide)) (p0 := 1) (q_tn (by omega) (by omega)) (v := φ 1) (by rw [hφ]) d_X_told_21 ?_
    refine lv_iconst (v := nI 1) X.x X.b d_X_told_22 (by decide) ?_
    refine lv_iadd X.x X.b d_X_told_23 ?_
    refine g_ast X hW ds_f (q_in (by omega) (by decide)) (p0 := 1) (q_tn (by omega) (by omega)) (ρ := φ) (by rw [hφ]) d_X_told_24 (fun H locs hW => ?_)
    obtain ⟨r24, er24⟩ : ∃ z, z = upd φ 1 ((φ 1) + (nI 1)) := ⟨_, rfl⟩
    rw [← er24] at hW
    refine lv_iload_n X.x X.b d_X_told_25 rfl (lv_at hl 2 rfl) ?_
    exact q_zret X rfl hW ⟨rfl, by rw [er24]; rfl⟩ d_X_told_26
set_option maxHeartbeats 1000000 in
set_option maxRecDepth 20000 in
theorem c_X_told_2 (l : Launch) (E : QE) (S : QM) (φ : Nat → Int32) (hφ : S 14 = φ) : qCI E l y_X_told prog_1_method_46_code 3 .int 2 [.ref (eA E 0), .int (-1000003)] S (-1000003) (qr S 14 (fnS φ 2)) := by
  refine qCI_of (by decide) (Nat.le_of_ble_eq_true rfl) (fun p e s m below meth c ls X hW hl => ?_)
  have hl : lv_has ls 3 [(0, .ref (eA E 0)), (1, .int (-1000003))] := hl
  refine lv_ldc (v := (-1000001)) X.x X.b X.ow (X.ts _ mw_212) d_X_told_0 ?_
  refine lv_iload_n X.x X.b d_X_told_2 rfl (lv_at hl 1 rfl) ?_
  refine lv_isub X.x X.b d_X_told_3 ?_
  rw [show (-1000001) - (-1000003) = nI 2 from (by decide)]
  refine lv_istore_n (lv' := [(2, .int (nI 2)), (0, .ref (eA E 0)), (1, .int (-1000003))]) X.x X.b d_X_told_4 rfl hl (by decide) rfl (fun ls hl => ?_)
  refine lv_iload_n X.x X.b d_X_told_5 rfl (lv_at hl 0 rfl) ?_
  refine lv_iconst (v := nI 0) X.x X.b d_X_told_6 (by decide) ?_
  refine lv_bipush (v := nI 6) X.x X.b d_X_told_7 (by decide) ?_
  refine q_csi X (c_X_within l E S (nI 2) (nI 0) (nI 6)) hW ok_X_within mw_209 ⟨by decide, by decide⟩ (As := [.int (nI 2), .int (nI 0), .int (nI 6)]) rfl rfl (Nat.le_of_ble_eq_true rfl) (lv := [(2, .int (nI 2)), (0, .ref (eA E 0)), (1, .int (-1000003))]) hl ⟨Nat.le_refl 0, Nat.le_refl 0⟩ d_X_told_9 (fun H locs hW => ?_)
  refine lv_if_eq (tgt := 25) X.x X.b d_X_told_12 (by decide) (fun c12 => ?_) (fun c12 => ?_)
  · have c12 := b2i_e c12
    have c12 := mt (inR_i (by omega) (by decide)).mpr c12
    omega
  · have c12 := b2i_n c12
    have c12 := (inR_i (by omega) (by decide)).mp c12
    refine lv_aload_n X.x X.b d_X_told_15 rfl (lv_at hl 1 rfl) ?_
    refine q_getr X hW qj3 rfl _ ds_X 6 (by decide) mw_189 rfl (c1 := 69) rfl d_X_told_16 ?_
    refine lv_iload_n X.x X.b d_X_told_19 rfl (lv_at hl 0 rfl) ?_
    refine lv_dup2_11 X.x X.b d_X_told_20 rfl rfl ?_
    refine g_ald X hW ds_f (q_in (by omega) (by decide)) (p0 := 2) (q_tn (by omega) (by omega)) (v := φ 2) (by rw [hφ]) d_X_told_21 ?_
    refine lv_iconst (v := nI 1) X.x X.b d_X_told_22 (by decide) ?_
    refine lv_iadd X.x X.b d_X_told_23 ?_
    refine g_ast X hW ds_f (q_in (by omega) (by decide)) (p0 := 2) (q_tn (by omega) (by omega)) (ρ := φ) (by rw [hφ]) d_X_told_24 (fun H locs hW => ?_)
    obtain ⟨r24, er24⟩ : ∃ z, z = upd φ 2 ((φ 2) + (nI 1)) := ⟨_, rfl⟩
    rw [← er24] at hW
    refine lv_iload_n X.x X.b d_X_told_25 rfl (lv_at hl 2 rfl) ?_
    exact q_zret X rfl hW ⟨rfl, by rw [er24]; rfl⟩ d_X_told_26
set_option maxHeartbeats 1000000 in
set_option maxRecDepth 20000 in
theorem c_X_told_3 (l : Launch) (E : QE) (S : QM) (φ : Nat → Int32) (hφ : S 14 = φ) : qCI E l y_X_told prog_1_method_46_code 3 .int 2 [.ref (eA E 0), .int (-1000004)] S (-1000004) (qr S 14 (fnS φ 3)) := by
  refine qCI_of (by decide) (Nat.le_of_ble_eq_true rfl) (fun p e s m below meth c ls X hW hl => ?_)
  have hl : lv_has ls 3 [(0, .ref (eA E 0)), (1, .int (-1000004))] := hl
  refine lv_ldc (v := (-1000001)) X.x X.b X.ow (X.ts _ mw_212) d_X_told_0 ?_
  refine lv_iload_n X.x X.b d_X_told_2 rfl (lv_at hl 1 rfl) ?_
  refine lv_isub X.x X.b d_X_told_3 ?_
  rw [show (-1000001) - (-1000004) = nI 3 from (by decide)]
  refine lv_istore_n (lv' := [(2, .int (nI 3)), (0, .ref (eA E 0)), (1, .int (-1000004))]) X.x X.b d_X_told_4 rfl hl (by decide) rfl (fun ls hl => ?_)
  refine lv_iload_n X.x X.b d_X_told_5 rfl (lv_at hl 0 rfl) ?_
  refine lv_iconst (v := nI 0) X.x X.b d_X_told_6 (by decide) ?_
  refine lv_bipush (v := nI 6) X.x X.b d_X_told_7 (by decide) ?_
  refine q_csi X (c_X_within l E S (nI 3) (nI 0) (nI 6)) hW ok_X_within mw_209 ⟨by decide, by decide⟩ (As := [.int (nI 3), .int (nI 0), .int (nI 6)]) rfl rfl (Nat.le_of_ble_eq_true rfl) (lv := [(2, .int (nI 3)), (0, .ref (eA E 0)), (1, .int (-1000004))]) hl ⟨Nat.le_refl 0, Nat.le_refl 0⟩ d_X_told_9 (fun H locs hW => ?_)
  refine lv_if_eq (tgt := 25) X.x X.b d_X_told_12 (by decide) (fun c12 => ?_) (fun c12 => ?_)
  · have c12 := b2i_e c12
    have c12 := mt (inR_i (by omega) (by decide)).mpr c12
    omega
  · have c12 := b2i_n c12
    have c12 := (inR_i (by omega) (by decide)).mp c12
    refine lv_aload_n X.x X.b d_X_told_15 rfl (lv_at hl 1 rfl) ?_
    refine q_getr X hW qj3 rfl _ ds_X 6 (by decide) mw_189 rfl (c1 := 69) rfl d_X_told_16 ?_
    refine lv_iload_n X.x X.b d_X_told_19 rfl (lv_at hl 0 rfl) ?_
    refine lv_dup2_11 X.x X.b d_X_told_20 rfl rfl ?_
    refine g_ald X hW ds_f (q_in (by omega) (by decide)) (p0 := 3) (q_tn (by omega) (by omega)) (v := φ 3) (by rw [hφ]) d_X_told_21 ?_
    refine lv_iconst (v := nI 1) X.x X.b d_X_told_22 (by decide) ?_
    refine lv_iadd X.x X.b d_X_told_23 ?_
    refine g_ast X hW ds_f (q_in (by omega) (by decide)) (p0 := 3) (q_tn (by omega) (by omega)) (ρ := φ) (by rw [hφ]) d_X_told_24 (fun H locs hW => ?_)
    obtain ⟨r24, er24⟩ : ∃ z, z = upd φ 3 ((φ 3) + (nI 1)) := ⟨_, rfl⟩
    rw [← er24] at hW
    refine lv_iload_n X.x X.b d_X_told_25 rfl (lv_at hl 2 rfl) ?_
    exact q_zret X rfl hW ⟨rfl, by rw [er24]; rfl⟩ d_X_told_26
set_option maxHeartbeats 1000000 in
set_option maxRecDepth 20000 in
theorem c_X_told_4 (l : Launch) (E : QE) (S : QM) (φ : Nat → Int32) (hφ : S 14 = φ) : qCI E l y_X_told prog_1_method_46_code 3 .int 2 [.ref (eA E 0), .int (-1000005)] S (-1000005) (qr S 14 (fnS φ 4)) := by
  refine qCI_of (by decide) (Nat.le_of_ble_eq_true rfl) (fun p e s m below meth c ls X hW hl => ?_)
  have hl : lv_has ls 3 [(0, .ref (eA E 0)), (1, .int (-1000005))] := hl
  refine lv_ldc (v := (-1000001)) X.x X.b X.ow (X.ts _ mw_212) d_X_told_0 ?_
  refine lv_iload_n X.x X.b d_X_told_2 rfl (lv_at hl 1 rfl) ?_
  refine lv_isub X.x X.b d_X_told_3 ?_
  rw [show (-1000001) - (-1000005) = nI 4 from (by decide)]
  refine lv_istore_n (lv' := [(2, .int (nI 4)), (0, .ref (eA E 0)), (1, .int (-1000005))]) X.x X.b d_X_told_4 rfl hl (by decide) rfl (fun ls hl => ?_)
  refine lv_iload_n X.x X.b d_X_told_5 rfl (lv_at hl 0 rfl) ?_
  refine lv_iconst (v := nI 0) X.x X.b d_X_told_6 (by decide) ?_
  refine lv_bipush (v := nI 6) X.x X.b d_X_told_7 (by decide) ?_
  refine q_csi X (c_X_within l E S (nI 4) (nI 0) (nI 6)) hW ok_X_within mw_209 ⟨by decide, by decide⟩ (As := [.int (nI 4), .int (nI 0), .int (nI 6)]) rfl rfl (Nat.le_of_ble_eq_true rfl) (lv := [(2, .int (nI 4)), (0, .ref (eA E 0)), (1, .int (-1000005))]) hl ⟨Nat.le_refl 0, Nat.le_refl 0⟩ d_X_told_9 (fun H locs hW => ?_)
  refine lv_if_eq (tgt := 25) X.x X.b d_X_told_12 (by decide) (fun c12 => ?_) (fun c12 => ?_)
  · have c12 := b2i_e c12
    have c12 := mt (inR_i (by omega) (by decide)).mpr c12
    omega
  · have c12 := b2i_n c12
    have c12 := (inR_i (by omega) (by decide)).mp c12
    refine lv_aload_n X.x X.b d_X_told_15 rfl (lv_at hl 1 rfl) ?_
    refine q_getr X hW qj3 rfl _ ds_X 6 (by decide) mw_189 rfl (c1 := 69) rfl d_X_told_16 ?_
    refine lv_iload_n X.x X.b d_X_told_19 rfl (lv_at hl 0 rfl) ?_
    refine lv_dup2_11 X.x X.b d_X_told_20 rfl rfl ?_
    refine g_ald X hW ds_f (q_in (by omega) (by decide)) (p0 := 4) (q_tn (by omega) (by omega)) (v := φ 4) (by rw [hφ]) d_X_told_21 ?_
    refine lv_iconst (v := nI 1) X.x X.b d_X_told_22 (by decide) ?_
    refine lv_iadd X.x X.b d_X_told_23 ?_
    refine g_ast X hW ds_f (q_in (by omega) (by decide)) (p0 := 4) (q_tn (by omega) (by omega)) (ρ := φ) (by rw [hφ]) d_X_told_24 (fun H locs hW => ?_)
    obtain ⟨r24, er24⟩ : ∃ z, z = upd φ 4 ((φ 4) + (nI 1)) := ⟨_, rfl⟩
    rw [← er24] at hW
    refine lv_iload_n X.x X.b d_X_told_25 rfl (lv_at hl 2 rfl) ?_
    exact q_zret X rfl hW ⟨rfl, by rw [er24]; rfl⟩ d_X_told_26
set_option maxHeartbeats 1000000 in
set_option maxRecDepth 20000 in
theorem c_X_told_5 (l : Launch) (E : QE) (S : QM) (φ : Nat → Int32) (hφ : S 14 = φ) : qCI E l y_X_told prog_1_method_46_code 3 .int 2 [.ref (eA E 0), .int (-1000006)] S (-1000006) (qr S 14 (fnS φ 5)) := by
  refine qCI_of (by decide) (Nat.le_of_ble_eq_true rfl) (fun p e s m below meth c ls X hW hl => ?_)
  have hl : lv_has ls 3 [(0, .ref (eA E 0)), (1, .int (-1000006))] := hl
  refine lv_ldc (v := (-1000001)) X.x X.b X.ow (X.ts _ mw_212) d_X_told_0 ?_
  refine lv_iload_n X.x X.b d_X_told_2 rfl (lv_at hl 1 rfl) ?_
  refine lv_isub X.x X.b d_X_told_3 ?_
  rw [show (-1000001) - (-1000006) = nI 5 from (by decide)]
  refine lv_istore_n (lv' := [(2, .int (nI 5)), (0, .ref (eA E 0)), (1, .int (-1000006))]) X.x X.b d_X_told_4 rfl hl (by decide) rfl (fun ls hl => ?_)
  refine lv_iload_n X.x X.b d_X_told_5 rfl (lv_at hl 0 rfl) ?_
  refine lv_iconst (v := nI 0) X.x X.b d_X_told_6 (by decide) ?_
  refine lv_bipush (v := nI 6) X.x X.b d_X_told_7 (by decide) ?_
  refine q_csi X (c_X_within l E S (nI 5) (nI 0) (nI 6)) hW ok_X_within mw_209 ⟨by decide, by decide⟩ (As := [.int (nI 5), .int (nI 0), .int (nI 6)]) rfl rfl (Nat.le_of_ble_eq_true rfl) (lv := [(2, .int (nI 5)), (0, .ref (eA E 0)), (1, .int (-1000006))]) hl ⟨Nat.le_refl 0, Nat.le_refl 0⟩ d_X_told_9 (fun H locs hW => ?_)
  refine lv_if_eq (tgt := 25) X.x X.b d_X_told_12 (by decide) (fun c12 => ?_) (fun c12 => ?_)
  · have c12 := b2i_e c12
    have c12 := mt (inR_i (by omega) (by decide)).mpr c12
    omega
  · have c12 := b2i_n c12
    have c12 := (inR_i (by omega) (by decide)).mp c12
    refine lv_aload_n X.x X.b d_X_told_15 rfl (lv_at hl 1 rfl) ?_
    refine q_getr X hW qj3 rfl _ ds_X 6 (by decide) mw_189 rfl (c1 := 69) rfl d_X_told_16 ?_
    refine lv_iload_n X.x X.b d_X_told_19 rfl (lv_at hl 0 rfl) ?_
    refine lv_dup2_11 X.x X.b d_X_told_20 rfl rfl ?_
    refine g_ald X hW ds_f (q_in (by omega) (by decide)) (p0 := 5) (q_tn (by omega) (by omega)) (v := φ 5) (by rw [hφ]) d_X_told_21 ?_
    refine lv_iconst (v := nI 1) X.x X.b d_X_told_22 (by decide) ?_
    refine lv_iadd X.x X.b d_X_told_23 ?_
    refine g_ast X hW ds_f (q_in (by omega) (by decide)) (p0 := 5) (q_tn (by omega) (by omega)) (ρ := φ) (by rw [hφ]) d_X_told_24 (fun H locs hW => ?_)
    obtain ⟨r24, er24⟩ : ∃ z, z = upd φ 5 ((φ 5) + (nI 1)) := ⟨_, rfl⟩
    rw [← er24] at hW
    refine lv_iload_n X.x X.b d_X_told_25 rfl (lv_at hl 2 rfl) ?_
    exact q_zret X rfl hW ⟨rfl, by rw [er24]; rfl⟩ d_X_told_26
set_option maxHeartbeats 1000000 in
set_option maxRecDepth 20000 in
theorem c_X_told_6 (l : Launch) (E : QE) (S : QM) (φ : Nat → Int32) (hφ : S 14 = φ) : qCI E l y_X_told prog_1_method_46_code 3 .int 2 [.ref (eA E 0), .int (-1000007)] S (-1000007) (qr S 14 (fnS φ 6)) := by
  refine qCI_of (by decide) (Nat.le_of_ble_eq_true rfl) (fun p e s m below meth c ls X hW hl => ?_)
  have hl : lv_has ls 3 [(0, .ref (eA E 0)), (1, .int (-1000007))] := hl
  refine lv_ldc (v := (-1000001)) X.x X.b X.ow (X.ts _ mw_212) d_X_told_0 ?_
  refine lv_iload_n X.x X.b d_X_told_2 rfl (lv_at hl 1 rfl) ?_
  refine lv_isub X.x X.b d_X_told_3 ?_
  rw [show (-1000001) - (-1000007) = nI 6 from (by decide)]
  refine lv_istore_n (lv' := [(2, .int (nI 6)), (0, .ref (eA E 0)), (1, .int (-1000007))]) X.x X.b d_X_told_4 rfl hl (by decide) rfl (fun ls hl => ?_)
  refine lv_iload_n X.x X.b d_X_told_5 rfl (lv_at hl 0 rfl) ?_
  refine lv_iconst (v := nI 0) X.x X.b d_X_told_6 (by decide) ?_
  refine lv_bipush (v := nI 6) X.x X.b d_X_told_7 (by decide) ?_
  refine q_csi X (c_X_within l E S (nI 6) (nI 0) (nI 6)) hW ok_X_within mw_209 ⟨by decide, by decide⟩ (As := [.int (nI 6), .int (nI 0), .int (nI 6)]) rfl rfl (Nat.le_of_ble_eq_true rfl) (lv := [(2, .int (nI 6)), (0, .ref (eA E 0)), (1, .int (-1000007))]) hl ⟨Nat.le_refl 0, Nat.le_refl 0⟩ d_X_told_9 (fun H locs hW => ?_)
  refine lv_if_eq (tgt := 25) X.x X.b d_X_told_12 (by decide) (fun c12 => ?_) (fun c12 => ?_)
  · have c12 := b2i_e c12
    have c12 := mt (inR_i (by omega) (by decide)).mpr c12
    omega
  · have c12 := b2i_n c12
    have c12 := (inR_i (by omega) (by decide)).mp c12
    refine lv_aload_n X.x X.b d_X_told_15 rfl (lv_at hl 1 rfl) ?_
    refine q_getr X hW qj3 rfl _ ds_X 6 (by decide) mw_189 rfl (c1 := 69) rfl d_X_told_16 ?_
    refine lv_iload_n X.x X.b d_X_told_19 rfl (lv_at hl 0 rfl) ?_
    refine lv_dup2_11 X.x X.b d_X_told_20 rfl rfl ?_
    refine g_ald X hW ds_f (q_in (by omega) (by decide)) (p0 := 6) (q_tn (by omega) (by omega)) (v := φ 6) (by rw [hφ]) d_X_told_21 ?_
    refine lv_iconst (v := nI 1) X.x X.b d_X_told_22 (by decide) ?_
    refine lv_iadd X.x X.b d_X_told_23 ?_
    refine g_ast X hW ds_f (q_in (by omega) (by decide)) (p0 := 6) (q_tn (by omega) (by omega)) (ρ := φ) (by rw [hφ]) d_X_told_24 (fun H locs hW => ?_)
    obtain ⟨r24, er24⟩ : ∃ z, z = upd φ 6 ((φ 6) + (nI 1)) := ⟨_, rfl⟩
    rw [← er24] at hW
    refine lv_iload_n X.x X.b d_X_told_25 rfl (lv_at hl 2 rfl) ?_
    exact q_zret X rfl hW ⟨rfl, by rw [er24]; rfl⟩ d_X_told_26
set_option maxHeartbeats 1000000 in
set_option maxRecDepth 20000 in
theorem c_X_turn_g (l : Launch) (E : QE) (S : QM) (ρ φ : Nat → Int32) (hρ : S 0 = ρ) (hφ : S 14 = φ) (hwf : WF ρ) (i w t : Nat) (hi : i ≤ 5) (hw : w ≤ 5) (ht : t ≤ 7) : qCI E l y_X_turn prog_1_method_2_code 5 .int 3 [.ref (eA E 0), .int (nI i), .int (nI w), .int (nI t)] S (ρ (4 + i)) (qr S 0 (upd ρ (4 + i) (nI (10 * w + t)))) := by
  refine qCI_of (by decide) (Nat.le_of_ble_eq_true rfl) (fun p e s m below meth c ls X hW hl => ?_)
  have hl : lv_has ls 5 [(0, .ref (eA E 0)), (1, .int (nI i)), (2, .int (nI w)), (3, .int (nI t))] := hl
  have htl := hwf.tl
  have hwl := hwf.wl
  have hdl := hwf.dl
  refine lv_iload_n X.x X.b d_X_turn_0 rfl (lv_at hl 1 rfl) ?_
  refine lv_iconst (v := nI 0) X.x X.b d_X_turn_1 (by decide) ?_
  refine lv_iconst (v := nI 5) X.x X.b d_X_turn_2 (by decide) ?_
  refine q_csi X (c_X_within l E S (nI i) (nI 0) (nI 5)) hW ok_X_within mw_209 ⟨by decide, by decide⟩ (As := [.int (nI i), .int (nI 0), .int (nI 5)]) rfl rfl (Nat.le_of_ble_eq_true rfl) (lv := [(0, .ref (eA E 0)), (1, .int (nI i)), (2, .int (nI w)), (3, .int (nI t))]) hl ⟨Nat.le_refl 0, Nat.le_refl 0⟩ d_X_turn_3 (fun H locs hW => ?_)
  refine lv_if_eq (tgt := 28) X.x X.b d_X_turn_6 (by decide) (fun c6 => ?_) (fun c6 => ?_)
  · have c6 := b2i_e c6
    have c6 := mt (inR_i (by omega) (by decide)).mpr c6
    omega
  · have c6 := b2i_n c6
    have c6 := (inR_i (by omega) (by decide)).mp c6
    refine lv_iload_n X.x X.b d_X_turn_9 rfl (lv_at hl 2 rfl) ?_
    refine lv_iconst (v := nI 0) X.x X.b d_X_turn_10 (by decide) ?_
    refine lv_iconst (v := nI 5) X.x X.b d_X_turn_11 (by decide) ?_
    refine q_csi X (c_X_within l E S (nI w) (nI 0) (nI 5)) hW ok_X_within mw_209 ⟨by decide, by decide⟩ (As := [.int (nI w), .int (nI 0), .int (nI 5)]) rfl rfl (Nat.le_of_ble_eq_true rfl) (lv := [(0, .ref (eA E 0)), (1, .int (nI i)), (2, .int (nI w)), (3, .int (nI t))]) hl ⟨Nat.le_refl 0, Nat.le_refl 0⟩ d_X_turn_12 (fun H locs hW => ?_)
    refine lv_if_eq (tgt := 28) X.x X.b d_X_turn_15 (by decide) (fun c15 => ?_) (fun c15 => ?_)
    · have c15 := b2i_e c15
      have c15 := mt (inR_i (by omega) (by decide)).mpr c15
      omega
    · have c15 := b2i_n c15
      have c15 := (inR_i (by omega) (by decide)).mp c15
      refine lv_iload_n X.x X.b d_X_turn_18 rfl (lv_at hl 3 rfl) ?_
      refine lv_iconst (v := nI 0) X.x X.b d_X_turn_19 (by decide) ?_
      refine lv_bipush (v := nI 7) X.x X.b d_X_turn_20 (by decide) ?_
      refine q_csi X (c_X_within l E S (nI t) (nI 0) (nI 7)) hW ok_X_within mw_209 ⟨by decide, by decide⟩ (As := [.int (nI t), .int (nI 0), .int (nI 7)]) rfl rfl (Nat.le_of_ble_eq_true rfl) (lv := [(0, .ref (eA E 0)), (1, .int (nI i)), (2, .int (nI w)), (3, .int (nI t))]) hl ⟨Nat.le_refl 0, Nat.le_refl 0⟩ d_X_turn_22 (fun H locs hW => ?_)
      refine lv_if_ne (tgt := 35) X.x X.b d_X_turn_25 (by decide) (fun c25 => ?_) (fun c25 => ?_)
      · have c25 := b2i_n c25
        have c25 := (inR_i (by omega) (by decide)).mp c25
        refine lv_aload_n X.x X.b d_X_turn_35 rfl (lv_at hl 0 rfl) ?_
        refine q_getr X hW qj3 rfl _ ds_X 0 (by decide) mw_183 rfl (c1 := cB 0) rfl d_X_turn_36 ?_
        refine q_getr X hW qj0 rfl _ (ds_cm (k := 0) (by decide)) 0 (by decide) mw_100 rfl (c1 := cB 0 + 1) rfl d_X_turn_39 ?_
        refine lv_iload_n X.x X.b d_X_turn_42 rfl (lv_at hl 1 rfl) ?_
        refine g_ald X hW (ds_ls (k := 0) (by decide)) (q_in (by omega) (by decide)) (p0 := 4 + i) (q_tn (by omega) (by omega)) (v := ρ (4 + i)) (by rw [hρ]) d_X_turn_43 ?_
        refine lv_istore (lv' := [(4, .int (ρ (4 + i))), (0, .ref (eA E 0)), (1, .int (nI i)), (2, .int (nI w)), (3, .int (nI t))]) X.x X.b d_X_turn_44 hl (by decide) rfl (fun ls hl => ?_)
        refine lv_aload_n X.x X.b d_X_turn_46 rfl (lv_at hl 1 rfl) ?_
        refine q_getr X hW qj3 rfl _ ds_X 0 (by decide) mw_183 rfl (c1 := cB 0) rfl d_X_turn_47 ?_
        refine q_getr X hW qj0 rfl _ (ds_cm (k := 0) (by decide)) 0 (by decide) mw_100 rfl (c1 := cB 0 + 1) rfl d_X_turn_50 ?_
        refine lv_iload_n X.x X.b d_X_turn_53 rfl (lv_at hl 2 rfl) ?_
        refine lv_bipush (v := nI 10) X.x X.b d_X_turn_54 (by decide) ?_
        refine lv_iload_n X.x X.b d_X_turn_56 rfl (lv_at hl 3 rfl) ?_
        refine lv_imul X.x X.b d_X_turn_57 ?_
        rw [pk_mul]
        refine lv_iload_n X.x X.b d_X_turn_58 rfl (lv_at hl 4 rfl) ?_
        refine lv_iadd X.x X.b d_X_turn_59 ?_
        rw [nI_add]
        refine g_ast X hW (ds_ls (k := 0) (by decide)) (q_in (by omega) (by decide)) (p0 := 4 + i) (q_tn (by omega) (by omega)) (ρ := ρ) (by rw [hρ]) d_X_turn_60 (fun H locs hW => ?_)
        obtain ⟨r60, er60⟩ : ∃ z, z = upd ρ (4 + i) (nI (10 * w + t)) := ⟨_, rfl⟩
        rw [← er60] at hW
        refine lv_iload X.x X.b d_X_turn_61 (lv_at hl 0 rfl) ?_
        exact q_zret X rfl hW ⟨rfl, by rw [er60]⟩ d_X_turn_63
      · have c25 := b2i_e c25
        have c25 := mt (inR_i (by omega) (by decide)).mpr c25
        omega
set_option maxHeartbeats 1000000 in
set_option maxRecDepth 20000 in
theorem c_X_turn_b (l : Launch) (E : QE) (S : QM) (ρ φ : Nat → Int32) (hρ : S 0 = ρ) (hφ : S 14 = φ) (hwf : WF ρ) (x y z : Int32) (h : ¬ (inR 0 5 x ∧ inR 0 5 y ∧ inR 0 7 z)) : qCI E l y_X_turn prog_1_method_2_code 5 .int 3 [.ref (eA E 0), .int x, .int y, .int z] S (-1000001) (qr S 14 (fnS φ 0)) := by
  refine qCI_of (by decide) (Nat.le_of_ble_eq_true rfl) (fun p e s m below meth c ls X hW hl => ?_)
  have hl : lv_has ls 5 [(0, .ref (eA E 0)), (1, .int x), (2, .int y), (3, .int z)] := hl
  have htl := hwf.tl
  have hwl := hwf.wl
  have hdl := hwf.dl
  refine lv_iload_n X.x X.b d_X_turn_0 rfl (lv_at hl 1 rfl) ?_
  refine lv_iconst (v := nI 0) X.x X.b d_X_turn_1 (by decide) ?_
  refine lv_iconst (v := nI 5) X.x X.b d_X_turn_2 (by decide) ?_
  refine q_csi X (c_X_within l E S x (nI 0) (nI 5)) hW ok_X_within mw_209 ⟨by decide, by decide⟩ (As := [.int x, .int (nI 0), .int (nI 5)]) rfl rfl (Nat.le_of_ble_eq_true rfl) (lv := [(0, .ref (eA E 0)), (1, .int x), (2, .int y), (3, .int z)]) hl ⟨Nat.le_refl 0, Nat.le_refl 0⟩ d_X_turn_3 (fun H locs hW => ?_)
  refine lv_if_eq (tgt := 28) X.x X.b d_X_turn_6 (by decide) (fun c6 => ?_) (fun c6 => ?_)
  · have c6 := b2i_e c6
    refine lv_aload_n X.x X.b d_X_turn_28 rfl (lv_at hl 0 rfl) ?_
    refine lv_ldc (v := (-1000001)) X.x X.b X.ow (X.ts _ mw_212) d_X_turn_29 ?_
    refine q_cvi X (c_X_told_0 l E S φ (by rw [hφ])) hW (q_recv X hW ds_X rfl) ok_X_told mw_213 ⟨by decide, by decide⟩ (As := [.int (-1000001)]) rfl rfl (Nat.le_of_ble_eq_true rfl) (lv := [(0, .ref (eA E 0)), (1, .int x), (2, .int y), (3, .int z)]) hl ⟨Nat.le_refl 0, Nat.le_refl 0⟩ d_X_turn_31 (fun H locs hW => ?_)
    have hW : qWH E (qr S 14 (fnS φ 0)) s H locs := hW
    exact q_zret X rfl hW ⟨rfl, rfl⟩ d_X_turn_34
  · have c6 := b2i_n c6
    refine lv_iload_n X.x X.b d_X_turn_9 rfl (lv_at hl 2 rfl) ?_
    refine lv_iconst (v := nI 0) X.x X.b d_X_turn_10 (by decide) ?_
    refine lv_iconst (v := nI 5) X.x X.b d_X_turn_11 (by decide) ?_
    refine q_csi X (c_X_within l E S y (nI 0) (nI 5)) hW ok_X_within mw_209 ⟨by decide, by decide⟩ (As := [.int y, .int (nI 0), .int (nI 5)]) rfl rfl (Nat.le_of_ble_eq_true rfl) (lv := [(0, .ref (eA E 0)), (1, .int x), (2, .int y), (3, .int z)]) hl ⟨Nat.le_refl 0, Nat.le_refl 0⟩ d_X_turn_12 (fun H locs hW => ?_)
    refine lv_if_eq (tgt := 28) X.x X.b d_X_turn_15 (by decide) (fun c15 => ?_) (fun c15 => ?_)
    · have c15 := b2i_e c15
      refine lv_aload_n X.x X.b d_X_turn_28 rfl (lv_at hl 0 rfl) ?_
      refine lv_ldc (v := (-1000001)) X.x X.b X.ow (X.ts _ mw_212) d_X_turn_29 ?_
      refine q_cvi X (c_X_told_0 l E S φ (by rw [hφ])) hW (q_recv X hW ds_X rfl) ok_X_told mw_213 ⟨by decide, by decide⟩ (As := [.int (-1000001)]) rfl rfl (Nat.le_of_ble_eq_true rfl) (lv := [(0, .ref (eA E 0)), (1, .int x), (2, .int y), (3, .int z)]) hl ⟨Nat.le_refl 0, Nat.le_refl 0⟩ d_X_turn_31 (fun H locs hW => ?_)
      have hW : qWH E (qr S 14 (fnS φ 0)) s H locs := hW
      exact q_zret X rfl hW ⟨rfl, rfl⟩ d_X_turn_34
    · have c15 := b2i_n c15
      refine lv_iload_n X.x X.b d_X_turn_18 rfl (lv_at hl 3 rfl) ?_
      refine lv_iconst (v := nI 0) X.x X.b d_X_turn_19 (by decide) ?_
      refine lv_bipush (v := nI 7) X.x X.b d_X_turn_20 (by decide) ?_
      refine q_csi X (c_X_within l E S z (nI 0) (nI 7)) hW ok_X_within mw_209 ⟨by decide, by decide⟩ (As := [.int z, .int (nI 0), .int (nI 7)]) rfl rfl (Nat.le_of_ble_eq_true rfl) (lv := [(0, .ref (eA E 0)), (1, .int x), (2, .int y), (3, .int z)]) hl ⟨Nat.le_refl 0, Nat.le_refl 0⟩ d_X_turn_22 (fun H locs hW => ?_)
      refine lv_if_ne (tgt := 35) X.x X.b d_X_turn_25 (by decide) (fun c25 => ?_) (fun c25 => ?_)
      · have c25 := b2i_n c25
        exact absurd ⟨c6, c15, c25⟩ h
      · have c25 := b2i_e c25
        refine lv_aload_n X.x X.b d_X_turn_28 rfl (lv_at hl 0 rfl) ?_
        refine lv_ldc (v := (-1000001)) X.x X.b X.ow (X.ts _ mw_212) d_X_turn_29 ?_
        refine q_cvi X (c_X_told_0 l E S φ (by rw [hφ])) hW (q_recv X hW ds_X rfl) ok_X_told mw_213 ⟨by decide, by decide⟩ (As := [.int (-1000001)]) rfl rfl (Nat.le_of_ble_eq_true rfl) (lv := [(0, .ref (eA E 0)), (1, .int x), (2, .int y), (3, .int z)]) hl ⟨Nat.le_refl 0, Nat.le_refl 0⟩ d_X_turn_31 (fun H locs hW => ?_)
        have hW : qWH E (qr S 14 (fnS φ 0)) s H locs := hW
        exact q_zret X rfl hW ⟨rfl, rfl⟩ d_X_turn_34
set_option maxHeartbeats 1000000 in
set_option maxRecDepth 20000 in
theorem c_X_listed_g (l : Launch) (E : QE) (S : QM) (ρ φ : Nat → Int32) (hρ : S 0 = ρ) (hφ : S 14 = φ) (hwf : WF ρ) (i : Nat) (hi : i ≤ 5) : qCI E l y_X_listed prog_1_method_3_code 2 .int 3 [.ref (eA E 0), .int (nI i)] S (ρ (4 + i)) S := by
  refine qCI_of (by decide) (Nat.le_of_ble_eq_true rfl) (fun p e s m below meth c ls X hW hl => ?_)
  have hl : lv_has ls 2 [(0, .ref (eA E 0)), (1, .int (nI i))] := hl
  have htl := hwf.tl
  have hwl := hwf.wl
  have hdl := hwf.dl
  refine lv_iload_n X.x X.b d_X_listed_0 rfl (lv_at hl 1 rfl) ?_
  refine lv_iconst (v := nI 0) X.x X.b d_X_listed_1 (by decide) ?_
  refine lv_iconst (v := nI 5) X.x X.b d_X_listed_2 (by decide) ?_
  refine q_csi X (c_X_within l E S (nI i) (nI 0) (nI 5)) hW ok_X_within mw_209 ⟨by decide, by decide⟩ (As := [.int (nI i), .int (nI 0), .int (nI 5)]) rfl rfl (Nat.le_of_ble_eq_true rfl) (lv := [(0, .ref (eA E 0)), (1, .int (nI i))]) hl ⟨Nat.le_refl 0, Nat.le_refl 0⟩ d_X_listed_3 (fun H locs hW => ?_)
  refine lv_if_eq (tgt := 21) X.x X.b d_X_listed_6 (by decide) (fun c6 => ?_) (fun c6 => ?_)
  · have c6 := b2i_e c6
    have c6 := mt (inR_i (by omega) (by decide)).mpr c6
    omega
  · have c6 := b2i_n c6
    have c6 := (inR_i (by omega) (by decide)).mp c6
    refine lv_aload_n X.x X.b d_X_listed_9 rfl (lv_at hl 0 rfl) ?_
    refine q_getr X hW qj3 rfl _ ds_X 0 (by decide) mw_183 rfl (c1 := cB 0) rfl d_X_listed_10 ?_
    refine q_getr X hW qj0 rfl _ (ds_cm (k := 0) (by decide)) 0 (by decide) mw_100 rfl (c1 := cB 0 + 1) rfl d_X_listed_13 ?_
    refine lv_iload_n X.x X.b d_X_listed_16 rfl (lv_at hl 1 rfl) ?_
    refine g_ald X hW (ds_ls (k := 0) (by decide)) (q_in (by omega) (by decide)) (p0 := 4 + i) (q_tn (by omega) (by omega)) (v := ρ (4 + i)) (by rw [hρ]) d_X_listed_17 ?_
    refine lv_goto (tgt := 27) X.x X.b d_X_listed_18 (by decide) ?_
    exact q_zret X rfl hW ⟨rfl, rfl⟩ d_X_listed_27
set_option maxHeartbeats 1000000 in
set_option maxRecDepth 20000 in
theorem c_X_listed_b (l : Launch) (E : QE) (S : QM) (ρ φ : Nat → Int32) (hρ : S 0 = ρ) (hφ : S 14 = φ) (hwf : WF ρ) (x : Int32) (h : ¬ (inR 0 5 x)) : qCI E l y_X_listed prog_1_method_3_code 2 .int 3 [.ref (eA E 0), .int x] S (-1000001) (qr S 14 (fnS φ 0)) := by
  refine qCI_of (by decide) (Nat.le_of_ble_eq_true rfl) (fun p e s m below meth c ls X hW hl => ?_)
  have hl : lv_has ls 2 [(0, .ref (eA E 0)), (1, .int x)] := hl
  have htl := hwf.tl
  have hwl := hwf.wl
  have hdl := hwf.dl
  refine lv_iload_n X.x X.b d_X_listed_0 rfl (lv_at hl 1 rfl) ?_
  refine lv_iconst (v := nI 0) X.x X.b d_X_listed_1 (by decide) ?_
  refine lv_iconst (v := nI 5) X.x X.b d_X_listed_2 (by decide) ?_
  refine q_csi X (c_X_within l E S x (nI 0) (nI 5)) hW ok_X_within mw_209 ⟨by decide, by decide⟩ (As := [.int x, .int (nI 0), .int (nI 5)]) rfl rfl (Nat.le_of_ble_eq_true rfl) (lv := [(0, .ref (eA E 0)), (1, .int x)]) hl ⟨Nat.le_refl 0, Nat.le_refl 0⟩ d_X_listed_3 (fun H locs hW => ?_)
  refine lv_if_eq (tgt := 21) X.x X.b d_X_listed_6 (by decide) (fun c6 => ?_) (fun c6 => ?_)
  · have c6 := b2i_e c6
    refine lv_aload_n X.x X.b d_X_listed_21 rfl (lv_at hl 0 rfl) ?_
    refine lv_ldc (v := (-1000001)) X.x X.b X.ow (X.ts _ mw_212) d_X_listed_22 ?_
    refine q_cvi X (c_X_told_0 l E S φ (by rw [hφ])) hW (q_recv X hW ds_X rfl) ok_X_told mw_213 ⟨by decide, by decide⟩ (As := [.int (-1000001)]) rfl rfl (Nat.le_of_ble_eq_true rfl) (lv := [(0, .ref (eA E 0)), (1, .int x)]) hl ⟨Nat.le_refl 0, Nat.le_refl 0⟩ d_X_listed_24 (fun H locs hW => ?_)
    have hW : qWH E (qr S 14 (fnS φ 0)) s H locs := hW
    exact q_zret X rfl hW ⟨rfl, rfl⟩ d_X_listed_27
  · have c6 := b2i_n c6
    exact absurd c6 h
set_option maxHeartbeats 1000000 in
set_option maxRecDepth 20000 in
theorem c_X_thing_g (l : Launch) (E : QE) (S : QM) (ρ φ : Nat → Int32) (hρ : S 0 = ρ) (hφ : S 14 = φ) (hwf : WF ρ) (i cl : Nat) (hi : i ≤ 6) (hc : cl ≤ 15) (hn : nT ρ < 8) : qCI E l y_X_thing prog_1_method_4_code 3 .int 3 [.ref (eA E 0), .int (nI i), .int (nI cl)] S (nI (nT ρ)) (qr S 0 (addT ρ (nI i) (nI cl))) := by
  refine qCI_of (by decide) (Nat.le_of_ble_eq_true rfl) (fun p e s m below meth c ls X hW hl => ?_)
  have hl : lv_has ls 3 [(0, .ref (eA E 0)), (1, .int (nI i)), (2, .int (nI cl))] := hl
  have htl := hwf.tl
  have hwl := hwf.wl
  have hdl := hwf.dl
  refine lv_iload_n X.x X.b d_X_thing_0 rfl (lv_at hl 1 rfl) ?_
  refine lv_iconst (v := nI 0) X.x X.b d_X_thing_1 (by decide) ?_
  refine q_gets X hW X.Z.1 mw_225 d_X_thing_2 ?_
  refine lv_iconst (v := nI 0) X.x X.b d_X_thing_5 (by decide) ?_
  refine g_zald X hW X.Z.1 (q_in (show 0 < 3 by omega) (by decide)) (q_tn (by omega) (Nat.zero_add _)) d_X_thing_6 ?_
  rw [show zt0.getD 0 0 = nI 6 from by decide]
  refine q_csi X (c_X_within l E S (nI i) (nI 0) (nI 6)) hW ok_X_within mw_209 ⟨by decide, by decide⟩ (As := [.int (nI i), .int (nI 0), .int (nI 6)]) rfl rfl (Nat.le_of_ble_eq_true rfl) (lv := [(0, .ref (eA E 0)), (1, .int (nI i)), (2, .int (nI cl))]) hl ⟨Nat.le_refl 0, Nat.le_refl 0⟩ d_X_thing_7 (fun H locs hW => ?_)
  refine lv_if_eq (tgt := 23) X.x X.b d_X_thing_10 (by decide) (fun c10 => ?_) (fun c10 => ?_)
  · have c10 := b2i_e c10
    have c10 := mt (inR_i (by omega) (by decide)).mpr c10
    omega
  · have c10 := b2i_n c10
    have c10 := (inR_i (by omega) (by decide)).mp c10
    refine lv_iload_n X.x X.b d_X_thing_13 rfl (lv_at hl 2 rfl) ?_
    refine lv_iconst (v := nI 0) X.x X.b d_X_thing_14 (by decide) ?_
    refine lv_bipush (v := nI 15) X.x X.b d_X_thing_15 (by decide) ?_
    refine q_csi X (c_X_within l E S (nI cl) (nI 0) (nI 15)) hW ok_X_within mw_209 ⟨by decide, by decide⟩ (As := [.int (nI cl), .int (nI 0), .int (nI 15)]) rfl rfl (Nat.le_of_ble_eq_true rfl) (lv := [(0, .ref (eA E 0)), (1, .int (nI i)), (2, .int (nI cl))]) hl ⟨Nat.le_refl 0, Nat.le_refl 0⟩ d_X_thing_17 (fun H locs hW => ?_)
    refine lv_if_ne (tgt := 30) X.x X.b d_X_thing_20 (by decide) (fun c20 => ?_) (fun c20 => ?_)
    · have c20 := b2i_n c20
      have c20 := (inR_i (by omega) (by decide)).mp c20
      refine lv_aload_n X.x X.b d_X_thing_30 rfl (lv_at hl 0 rfl) ?_
      refine q_getr X hW qj3 rfl _ ds_X 0 (by decide) mw_183 rfl (c1 := cB 0) rfl d_X_thing_31 ?_
      refine g_geti X hW qj0 rfl _ (ds_cm (k := 0) (by decide)) 4 (by decide) mw_110 rfl (r0 := 0) (p0 := 1) rfl (v := ρ 1) (by rw [hρ]) d_X_thing_34 ?_
      rw [hwf.t]
      refine lv_bipush (v := nI 8) X.x X.b d_X_thing_37 (by decide) ?_
      refine lv_icmp_lt (tgt := 49) X.x X.b d_X_thing_39 (by decide) (fun c39 => ?_) (fun c39 => ?_)
      · have c39 : (nT ρ) < 8 := (nI_ltI (by omega) (by omega)).mp c39
        refine lv_aload_n X.x X.b d_X_thing_49 rfl (lv_at hl 0 rfl) ?_
        refine q_getr X hW qj3 rfl _ ds_X 0 (by decide) mw_183 rfl (c1 := cB 0) rfl d_X_thing_50 ?_
        refine lv_iload_n X.x X.b d_X_thing_53 rfl (lv_at hl 1 rfl) ?_
        refine lv_iload_n X.x X.b d_X_thing_54 rfl (lv_at hl 2 rfl) ?_
        refine q_cvi X (c_Cm_addThing l E 0 (by decide) S ρ (by rw [hρ]) hwf (nI i) (nI cl) (by omega)) hW (q_recv X hW (ds_cm (k := 0) (by decide)) rfl) ok_Cm_addThing mw_228 ⟨by decide, by decide⟩ (As := [.int (nI i), .int (nI cl)]) rfl rfl (Nat.le_of_ble_eq_true rfl) (lv := [(0, .ref (eA E 0)), (1, .int (nI i)), (2, .int (nI cl))]) hl ⟨Nat.le_refl 0, Nat.le_refl 0⟩ d_X_thing_55 (fun H locs hW => ?_)
        have hW : qWH E (qr S 0 (addT ρ (nI i) (nI cl))) s H locs := hW
        exact q_zret X rfl hW ⟨rfl, rfl⟩ d_X_thing_58
      · have c39 : ¬ (nT ρ) < 8 := fun z => c39 ((nI_ltI (by omega) (by omega)).mpr z)
        omega
    · have c20 := b2i_e c20
      have c20 := mt (inR_i (by omega) (by decide)).mpr c20
      omega
set_option maxHeartbeats 1000000 in
set_option maxRecDepth 20000 in
theorem c_X_thing_f (l : Launch) (E : QE) (S : QM) (ρ φ : Nat → Int32) (hρ : S 0 = ρ) (hφ : S 14 = φ) (hwf : WF ρ) (i cl : Nat) (hi : i ≤ 6) (hc : cl ≤ 15) (hn : ¬ nT ρ < 8) : qCI E l y_X_thing prog_1_method_4_code 3 .int 3 [.ref (eA E 0), .int (nI i), .int (nI cl)] S (-1000002) (qr S 14 (fnS φ 1)) := by
  refine qCI_of (by decide) (Nat.le_of_ble_eq_true rfl) (fun p e s m below meth c ls X hW hl => ?_)
  have hl : lv_has ls 3 [(0, .ref (eA E 0)), (1, .int (nI i)), (2, .int (nI cl))] := hl
  have htl := hwf.tl
  have hwl := hwf.wl
  have hdl := hwf.dl
  refine lv_iload_n X.x X.b d_X_thing_0 rfl (lv_at hl 1 rfl) ?_
  refine lv_iconst (v := nI 0) X.x X.b d_X_thing_1 (by decide) ?_
  refine q_gets X hW X.Z.1 mw_225 d_X_thing_2 ?_
  refine lv_iconst (v := nI 0) X.x X.b d_X_thing_5 (by decide) ?_
  refine g_zald X hW X.Z.1 (q_in (show 0 < 3 by omega) (by decide)) (q_tn (by omega) (Nat.zero_add _)) d_X_thing_6 ?_
  rw [show zt0.getD 0 0 = nI 6 from by decide]
  refine q_csi X (c_X_within l E S (nI i) (nI 0) (nI 6)) hW ok_X_within mw_209 ⟨by decide, by decide⟩ (As := [.int (nI i), .int (nI 0), .int (nI 6)]) rfl rfl (Nat.le_of_ble_eq_true rfl) (lv := [(0, .ref (eA E 0)), (1, .int (nI i)), (2, .int (nI cl))]) hl ⟨Nat.le_refl 0, Nat.le_refl 0⟩ d_X_thing_7 (fun H locs hW => ?_)
  refine lv_if_eq (tgt := 23) X.x X.b d_X_thing_10 (by decide) (fun c10 => ?_) (fun c10 => ?_)
  · have c10 := b2i_e c10
    have c10 := mt (inR_i (by omega) (by decide)).mpr c10
    omega
  · have c10 := b2i_n c10
    have c10 := (inR_i (by omega) (by decide)).mp c10
    refine lv_iload_n X.x X.b d_X_thing_13 rfl (lv_at hl 2 rfl) ?_
    refine lv_iconst (v := nI 0) X.x X.b d_X_thing_14 (by decide) ?_
    refine lv_bipush (v := nI 15) X.x X.b d_X_thing_15 (by decide) ?_
    refine q_csi X (c_X_within l E S (nI cl) (nI 0) (nI 15)) hW ok_X_within mw_209 ⟨by decide, by decide⟩ (As := [.int (nI cl), .int (nI 0), .int (nI 15)]) rfl rfl (Nat.le_of_ble_eq_true rfl) (lv := [(0, .ref (eA E 0)), (1, .int (nI i)), (2, .int (nI cl))]) hl ⟨Nat.le_refl 0, Nat.le_refl 0⟩ d_X_thing_17 (fun H locs hW => ?_)
    refine lv_if_ne (tgt := 30) X.x X.b d_X_thing_20 (by decide) (fun c20 => ?_) (fun c20 => ?_)
    · have c20 := b2i_n c20
      have c20 := (inR_i (by omega) (by decide)).mp c20
      refine lv_aload_n X.x X.b d_X_thing_30 rfl (lv_at hl 0 rfl) ?_
      refine q_getr X hW qj3 rfl _ ds_X 0 (by decide) mw_183 rfl (c1 := cB 0) rfl d_X_thing_31 ?_
      refine g_geti X hW qj0 rfl _ (ds_cm (k := 0) (by decide)) 4 (by decide) mw_110 rfl (r0 := 0) (p0 := 1) rfl (v := ρ 1) (by rw [hρ]) d_X_thing_34 ?_
      rw [hwf.t]
      refine lv_bipush (v := nI 8) X.x X.b d_X_thing_37 (by decide) ?_
      refine lv_icmp_lt (tgt := 49) X.x X.b d_X_thing_39 (by decide) (fun c39 => ?_) (fun c39 => ?_)
      · have c39 : (nT ρ) < 8 := (nI_ltI (by omega) (by omega)).mp c39
        omega
      · have c39 : ¬ (nT ρ) < 8 := fun z => c39 ((nI_ltI (by omega) (by omega)).mpr z)
        refine lv_aload_n X.x X.b d_X_thing_42 rfl (lv_at hl 0 rfl) ?_
        refine lv_ldc (v := (-1000002)) X.x X.b X.ow (X.ts _ mw_227) d_X_thing_43 ?_
        refine q_cvi X (c_X_told_1 l E S φ (by rw [hφ])) hW (q_recv X hW ds_X rfl) ok_X_told mw_213 ⟨by decide, by decide⟩ (As := [.int (-1000002)]) rfl rfl (Nat.le_of_ble_eq_true rfl) (lv := [(0, .ref (eA E 0)), (1, .int (nI i)), (2, .int (nI cl))]) hl ⟨Nat.le_refl 0, Nat.le_refl 0⟩ d_X_thing_45 (fun H locs hW => ?_)
        have hW : qWH E (qr S 14 (fnS φ 1)) s H locs := hW
        exact q_zret X rfl hW ⟨rfl, rfl⟩ d_X_thing_48
    · have c20 := b2i_e c20
      have c20 := mt (inR_i (by omega) (by decide)).mpr c20
      omega
set_option maxHeartbeats 1000000 in
set_option maxRecDepth 20000 in
theorem c_X_thing_b (l : Launch) (E : QE) (S : QM) (ρ φ : Nat → Int32) (hρ : S 0 = ρ) (hφ : S 14 = φ) (hwf : WF ρ) (x y : Int32) (h : ¬ (inR 0 6 x ∧ inR 0 15 y)) : qCI E l y_X_thing prog_1_method_4_code 3 .int 3 [.ref (eA E 0), .int x, .int y] S (-1000001) (qr S 14 (fnS φ 0)) := by
  refine qCI_of (by decide) (Nat.le_of_ble_eq_true rfl) (fun p e s m below meth c ls X hW hl => ?_)
  have hl : lv_has ls 3 [(0, .ref (eA E 0)), (1, .int x), (2, .int y)] := hl
  have htl := hwf.tl
  have hwl := hwf.wl
  have hdl := hwf.dl
  refine lv_iload_n X.x X.b d_X_thing_0 rfl (lv_at hl 1 rfl) ?_
  refine lv_iconst (v := nI 0) X.x X.b d_X_thing_1 (by decide) ?_
  refine q_gets X hW X.Z.1 mw_225 d_X_thing_2 ?_
  refine lv_iconst (v := nI 0) X.x X.b d_X_thing_5 (by decide) ?_
  refine g_zald X hW X.Z.1 (q_in (show 0 < 3 by omega) (by decide)) (q_tn (by omega) (Nat.zero_add _)) d_X_thing_6 ?_
  rw [show zt0.getD 0 0 = nI 6 from by decide]
  refine q_csi X (c_X_within l E S x (nI 0) (nI 6)) hW ok_X_within mw_209 ⟨by decide, by decide⟩ (As := [.int x, .int (nI 0), .int (nI 6)]) rfl rfl (Nat.le_of_ble_eq_true rfl) (lv := [(0, .ref (eA E 0)), (1, .int x), (2, .int y)]) hl ⟨Nat.le_refl 0, Nat.le_refl 0⟩ d_X_thing_7 (fun H locs hW => ?_)
  refine lv_if_eq (tgt := 23) X.x X.b d_X_thing_10 (by decide) (fun c10 => ?_) (fun c10 => ?_)
  · have c10 := b2i_e c10
    refine lv_aload_n X.x X.b d_X_thing_23 rfl (lv_at hl 0 rfl) ?_
    refine lv_ldc (v := (-1000001)) X.x X.b X.ow (X.ts _ mw_212) d_X_thing_24 ?_
    refine q_cvi X (c_X_told_0 l E S φ (by rw [hφ])) hW (q_recv X hW ds_X rfl) ok_X_told mw_213 ⟨by decide, by decide⟩ (As := [.int (-1000001)]) rfl rfl (Nat.le_of_ble_eq_true rfl) (lv := [(0, .ref (eA E 0)), (1, .int x), (2, .int y)]) hl ⟨Nat.le_refl 0, Nat.le_refl 0⟩ d_X_thing_26 (fun H locs hW => ?_)
    have hW : qWH E (qr S 14 (fnS φ 0)) s H locs := hW
    exact q_zret X rfl hW ⟨rfl, rfl⟩ d_X_thing_29
  · have c10 := b2i_n c10
    refine lv_iload_n X.x X.b d_X_thing_13 rfl (lv_at hl 2 rfl) ?_
    refine lv_iconst (v := nI 0) X.x X.b d_X_thing_14 (by decide) ?_
    refine lv_bipush (v := nI 15) X.x X.b d_X_thing_15 (by decide) ?_
    refine q_csi X (c_X_within l E S y (nI 0) (nI 15)) hW ok_X_within mw_209 ⟨by decide, by decide⟩ (As := [.int y, .int (nI 0), .int (nI 15)]) rfl rfl (Nat.le_of_ble_eq_true rfl) (lv := [(0, .ref (eA E 0)), (1, .int x), (2, .int y)]) hl ⟨Nat.le_refl 0, Nat.le_refl 0⟩ d_X_thing_17 (fun H locs hW => ?_)
    refine lv_if_ne (tgt := 30) X.x X.b d_X_thing_20 (by decide) (fun c20 => ?_) (fun c20 => ?_)
    · have c20 := b2i_n c20
      exact absurd ⟨c10, c20⟩ h
    · have c20 := b2i_e c20
      refine lv_aload_n X.x X.b d_X_thing_23 rfl (lv_at hl 0 rfl) ?_
      refine lv_ldc (v := (-1000001)) X.x X.b X.ow (X.ts _ mw_212) d_X_thing_24 ?_
      refine q_cvi X (c_X_told_0 l E S φ (by rw [hφ])) hW (q_recv X hW ds_X rfl) ok_X_told mw_213 ⟨by decide, by decide⟩ (As := [.int (-1000001)]) rfl rfl (Nat.le_of_ble_eq_true rfl) (lv := [(0, .ref (eA E 0)), (1, .int x), (2, .int y)]) hl ⟨Nat.le_refl 0, Nat.le_refl 0⟩ d_X_thing_26 (fun H locs hW => ?_)
      have hW : qWH E (qr S 14 (fnS φ 0)) s H locs := hW
      exact q_zret X rfl hW ⟨rfl, rfl⟩ d_X_thing_29
set_option maxHeartbeats 1000000 in
set_option maxRecDepth 20000 in
theorem c_X_walker_g (l : Launch) (E : QE) (S : QM) (ρ φ : Nat → Int32) (hρ : S 0 = ρ) (hφ : S 14 = φ) (hwf : WF ρ) (cl a : Nat) (hc : cl ≤ 15) (ha : a ≤ 7) (hn : nW ρ < 6) : qCI E l y_X_walker prog_1_method_5_code 3 .int 3 [.ref (eA E 0), .int (nI cl), .int (nI a)] S (nI (nW ρ)) (qr S 0 (addW ρ (nI cl) (nI a))) := by
  refine qCI_of (by decide) (Nat.le_of_ble_eq_true rfl) (fun p e s m below meth c ls X hW hl => ?_)
  have hl : lv_has ls 3 [(0, .ref (eA E 0)), (1, .int (nI cl)), (2, .int (nI a))] := hl
  have htl := hwf.tl
  have hwl := hwf.wl
  have hdl := hwf.dl
  refine lv_iload_n X.x X.b d_X_walker_0 rfl (lv_at hl 1 rfl) ?_
  refine lv_iconst (v := nI 0) X.x X.b d_X_walker_1 (by decide) ?_
  refine lv_bipush (v := nI 15) X.x X.b d_X_walker_2 (by decide) ?_
  refine q_csi X (c_X_within l E S (nI cl) (nI 0) (nI 15)) hW ok_X_within mw_209 ⟨by decide, by decide⟩ (As := [.int (nI cl), .int (nI 0), .int (nI 15)]) rfl rfl (Nat.le_of_ble_eq_true rfl) (lv := [(0, .ref (eA E 0)), (1, .int (nI cl)), (2, .int (nI a))]) hl ⟨Nat.le_refl 0, Nat.le_refl 0⟩ d_X_walker_4 (fun H locs hW => ?_)
  refine lv_if_eq (tgt := 20) X.x X.b d_X_walker_7 (by decide) (fun c7 => ?_) (fun c7 => ?_)
  · have c7 := b2i_e c7
    have c7 := mt (inR_i (by omega) (by decide)).mpr c7
    omega
  · have c7 := b2i_n c7
    have c7 := (inR_i (by omega) (by decide)).mp c7
    refine lv_iload_n X.x X.b d_X_walker_10 rfl (lv_at hl 2 rfl) ?_
    refine lv_iconst (v := nI 0) X.x X.b d_X_walker_11 (by decide) ?_
    refine lv_bipush (v := nI 7) X.x X.b d_X_walker_12 (by decide) ?_
    refine q_csi X (c_X_within l E S (nI a) (nI 0) (nI 7)) hW ok_X_within mw_209 ⟨by decide, by decide⟩ (As := [.int (nI a), .int (nI 0), .int (nI 7)]) rfl rfl (Nat.le_of_ble_eq_true rfl) (lv := [(0, .ref (eA E 0)), (1, .int (nI cl)), (2, .int (nI a))]) hl ⟨Nat.le_refl 0, Nat.le_refl 0⟩ d_X_walker_14 (fun H locs hW => ?_)
    refine lv_if_ne (tgt := 27) X.x X.b d_X_walker_17 (by decide) (fun c17 => ?_) (fun c17 => ?_)
    · have c17 := b2i_n c17
      have c17 := (inR_i (by omega) (by decide)).mp c17
      refine lv_aload_n X.x X.b d_X_walker_27 rfl (lv_at hl 0 rfl) ?_
      refine q_getr X hW qj3 rfl _ ds_X 0 (by decide) mw_183 rfl (c1 := cB 0) rfl d_X_walker_28 ?_
      refine g_geti X hW qj0 rfl _ (ds_cm (k := 0) (by decide)) 5 (by decide) mw_113 rfl (r0 := 0) (p0 := 3) rfl (v := ρ 3) (by rw [hρ]) d_X_walker_31 ?_
      rw [hwf.w]
      refine lv_bipush (v := nI 6) X.x X.b d_X_walker_34 (by decide) ?_
      refine lv_icmp_lt (tgt := 46) X.x X.b d_X_walker_36 (by decide) (fun c36 => ?_) (fun c36 => ?_)
      · have c36 : (nW ρ) < 6 := (nI_ltI (by omega) (by omega)).mp c36
        refine lv_aload_n X.x X.b d_X_walker_46 rfl (lv_at hl 0 rfl) ?_
        refine q_getr X hW qj3 rfl _ ds_X 0 (by decide) mw_183 rfl (c1 := cB 0) rfl d_X_walker_47 ?_
        refine lv_iload_n X.x X.b d_X_walker_50 rfl (lv_at hl 1 rfl) ?_
        refine lv_iload_n X.x X.b d_X_walker_51 rfl (lv_at hl 2 rfl) ?_
        refine q_cvi X (c_Cm_addWalker l E 0 (by decide) S ρ (by rw [hρ]) hwf (nI cl) (nI a) (by omega)) hW (q_recv X hW (ds_cm (k := 0) (by decide)) rfl) ok_Cm_addWalker mw_236 ⟨by decide, by decide⟩ (As := [.int (nI cl), .int (nI a)]) rfl rfl (Nat.le_of_ble_eq_true rfl) (lv := [(0, .ref (eA E 0)), (1, .int (nI cl)), (2, .int (nI a))]) hl ⟨Nat.le_refl 0, Nat.le_refl 0⟩ d_X_walker_52 (fun H locs hW => ?_)
        have hW : qWH E (qr S 0 (addW ρ (nI cl) (nI a))) s H locs := hW
        exact q_zret X rfl hW ⟨rfl, rfl⟩ d_X_walker_55
      · have c36 : ¬ (nW ρ) < 6 := fun z => c36 ((nI_ltI (by omega) (by omega)).mpr z)
        omega
    · have c17 := b2i_e c17
      have c17 := mt (inR_i (by omega) (by decide)).mpr c17
      omega
set_option maxHeartbeats 1000000 in
set_option maxRecDepth 20000 in
theorem c_X_walker_f (l : Launch) (E : QE) (S : QM) (ρ φ : Nat → Int32) (hρ : S 0 = ρ) (hφ : S 14 = φ) (hwf : WF ρ) (cl a : Nat) (hc : cl ≤ 15) (ha : a ≤ 7) (hn : ¬ nW ρ < 6) : qCI E l y_X_walker prog_1_method_5_code 3 .int 3 [.ref (eA E 0), .int (nI cl), .int (nI a)] S (-1000002) (qr S 14 (fnS φ 1)) := by
  refine qCI_of (by decide) (Nat.le_of_ble_eq_true rfl) (fun p e s m below meth c ls X hW hl => ?_)
  have hl : lv_has ls 3 [(0, .ref (eA E 0)), (1, .int (nI cl)), (2, .int (nI a))] := hl
  have htl := hwf.tl
  have hwl := hwf.wl
  have hdl := hwf.dl
  refine lv_iload_n X.x X.b d_X_walker_0 rfl (lv_at hl 1 rfl) ?_
  refine lv_iconst (v := nI 0) X.x X.b d_X_walker_1 (by decide) ?_
  refine lv_bipush (v := nI 15) X.x X.b d_X_walker_2 (by decide) ?_
  refine q_csi X (c_X_within l E S (nI cl) (nI 0) (nI 15)) hW ok_X_within mw_209 ⟨by decide, by decide⟩ (As := [.int (nI cl), .int (nI 0), .int (nI 15)]) rfl rfl (Nat.le_of_ble_eq_true rfl) (lv := [(0, .ref (eA E 0)), (1, .int (nI cl)), (2, .int (nI a))]) hl ⟨Nat.le_refl 0, Nat.le_refl 0⟩ d_X_walker_4 (fun H locs hW => ?_)
  refine lv_if_eq (tgt := 20) X.x X.b d_X_walker_7 (by decide) (fun c7 => ?_) (fun c7 => ?_)
  · have c7 := b2i_e c7
    have c7 := mt (inR_i (by omega) (by decide)).mpr c7
    omega
  · have c7 := b2i_n c7
    have c7 := (inR_i (by omega) (by decide)).mp c7
    refine lv_iload_n X.x X.b d_X_walker_10 rfl (lv_at hl 2 rfl) ?_
    refine lv_iconst (v := nI 0) X.x X.b d_X_walker_11 (by decide) ?_
    refine lv_bipush (v := nI 7) X.x X.b d_X_walker_12 (by decide) ?_
    refine q_csi X (c_X_within l E S (nI a) (nI 0) (nI 7)) hW ok_X_within mw_209 ⟨by decide, by decide⟩ (As := [.int (nI a), .int (nI 0), .int (nI 7)]) rfl rfl (Nat.le_of_ble_eq_true rfl) (lv := [(0, .ref (eA E 0)), (1, .int (nI cl)), (2, .int (nI a))]) hl ⟨Nat.le_refl 0, Nat.le_refl 0⟩ d_X_walker_14 (fun H locs hW => ?_)
    refine lv_if_ne (tgt := 27) X.x X.b d_X_walker_17 (by decide) (fun c17 => ?_) (fun c17 => ?_)
    · have c17 := b2i_n c17
      have c17 := (inR_i (by omega) (by decide)).mp c17
      refine lv_aload_n X.x X.b d_X_walker_27 rfl (lv_at hl 0 rfl) ?_
      refine q_getr X hW qj3 rfl _ ds_X 0 (by decide) mw_183 rfl (c1 := cB 0) rfl d_X_walker_28 ?_
      refine g_geti X hW qj0 rfl _ (ds_cm (k := 0) (by decide)) 5 (by decide) mw_113 rfl (r0 := 0) (p0 := 3) rfl (v := ρ 3) (by rw [hρ]) d_X_walker_31 ?_
      rw [hwf.w]
      refine lv_bipush (v := nI 6) X.x X.b d_X_walker_34 (by decide) ?_
      refine lv_icmp_lt (tgt := 46) X.x X.b d_X_walker_36 (by decide) (fun c36 => ?_) (fun c36 => ?_)
      · have c36 : (nW ρ) < 6 := (nI_ltI (by omega) (by omega)).mp c36
        omega
      · have c36 : ¬ (nW ρ) < 6 := fun z => c36 ((nI_ltI (by omega) (by omega)).mpr z)
        refine lv_aload_n X.x X.b d_X_walker_39 rfl (lv_at hl 0 rfl) ?_
        refine lv_ldc (v := (-1000002)) X.x X.b X.ow (X.ts _ mw_227) d_X_walker_40 ?_
        refine q_cvi X (c_X_told_1 l E S φ (by rw [hφ])) hW (q_recv X hW ds_X rfl) ok_X_told mw_213 ⟨by decide, by decide⟩ (As := [.int (-1000002)]) rfl rfl (Nat.le_of_ble_eq_true rfl) (lv := [(0, .ref (eA E 0)), (1, .int (nI cl)), (2, .int (nI a))]) hl ⟨Nat.le_refl 0, Nat.le_refl 0⟩ d_X_walker_42 (fun H locs hW => ?_)
        have hW : qWH E (qr S 14 (fnS φ 1)) s H locs := hW
        exact q_zret X rfl hW ⟨rfl, rfl⟩ d_X_walker_45
    · have c17 := b2i_e c17
      have c17 := mt (inR_i (by omega) (by decide)).mpr c17
      omega
set_option maxHeartbeats 1000000 in
set_option maxRecDepth 20000 in
theorem c_X_walker_b (l : Launch) (E : QE) (S : QM) (ρ φ : Nat → Int32) (hρ : S 0 = ρ) (hφ : S 14 = φ) (hwf : WF ρ) (x y : Int32) (h : ¬ (inR 0 15 x ∧ inR 0 7 y)) : qCI E l y_X_walker prog_1_method_5_code 3 .int 3 [.ref (eA E 0), .int x, .int y] S (-1000001) (qr S 14 (fnS φ 0)) := by
  refine qCI_of (by decide) (Nat.le_of_ble_eq_true rfl) (fun p e s m below meth c ls X hW hl => ?_)
  have hl : lv_has ls 3 [(0, .ref (eA E 0)), (1, .int x), (2, .int y)] := hl
  have htl := hwf.tl
  have hwl := hwf.wl
  have hdl := hwf.dl
  refine lv_iload_n X.x X.b d_X_walker_0 rfl (lv_at hl 1 rfl) ?_
  refine lv_iconst (v := nI 0) X.x X.b d_X_walker_1 (by decide) ?_
  refine lv_bipush (v := nI 15) X.x X.b d_X_walker_2 (by decide) ?_
  refine q_csi X (c_X_within l E S x (nI 0) (nI 15)) hW ok_X_within mw_209 ⟨by decide, by decide⟩ (As := [.int x, .int (nI 0), .int (nI 15)]) rfl rfl (Nat.le_of_ble_eq_true rfl) (lv := [(0, .ref (eA E 0)), (1, .int x), (2, .int y)]) hl ⟨Nat.le_refl 0, Nat.le_refl 0⟩ d_X_walker_4 (fun H locs hW => ?_)
  refine lv_if_eq (tgt := 20) X.x X.b d_X_walker_7 (by decide) (fun c7 => ?_) (fun c7 => ?_)
  · have c7 := b2i_e c7
    refine lv_aload_n X.x X.b d_X_walker_20 rfl (lv_at hl 0 rfl) ?_
    refine lv_ldc (v := (-1000001)) X.x X.b X.ow (X.ts _ mw_212) d_X_walker_21 ?_
    refine q_cvi X (c_X_told_0 l E S φ (by rw [hφ])) hW (q_recv X hW ds_X rfl) ok_X_told mw_213 ⟨by decide, by decide⟩ (As := [.int (-1000001)]) rfl rfl (Nat.le_of_ble_eq_true rfl) (lv := [(0, .ref (eA E 0)), (1, .int x), (2, .int y)]) hl ⟨Nat.le_refl 0, Nat.le_refl 0⟩ d_X_walker_23 (fun H locs hW => ?_)
    have hW : qWH E (qr S 14 (fnS φ 0)) s H locs := hW
    exact q_zret X rfl hW ⟨rfl, rfl⟩ d_X_walker_26
  · have c7 := b2i_n c7
    refine lv_iload_n X.x X.b d_X_walker_10 rfl (lv_at hl 2 rfl) ?_
    refine lv_iconst (v := nI 0) X.x X.b d_X_walker_11 (by decide) ?_
    refine lv_bipush (v := nI 7) X.x X.b d_X_walker_12 (by decide) ?_
    refine q_csi X (c_X_within l E S y (nI 0) (nI 7)) hW ok_X_within mw_209 ⟨by decide, by decide⟩ (As := [.int y, .int (nI 0), .int (nI 7)]) rfl rfl (Nat.le_of_ble_eq_true rfl) (lv := [(0, .ref (eA E 0)), (1, .int x), (2, .int y)]) hl ⟨Nat.le_refl 0, Nat.le_refl 0⟩ d_X_walker_14 (fun H locs hW => ?_)
    refine lv_if_ne (tgt := 27) X.x X.b d_X_walker_17 (by decide) (fun c17 => ?_) (fun c17 => ?_)
    · have c17 := b2i_n c17
      exact absurd ⟨c7, c17⟩ h
    · have c17 := b2i_e c17
      refine lv_aload_n X.x X.b d_X_walker_20 rfl (lv_at hl 0 rfl) ?_
      refine lv_ldc (v := (-1000001)) X.x X.b X.ow (X.ts _ mw_212) d_X_walker_21 ?_
      refine q_cvi X (c_X_told_0 l E S φ (by rw [hφ])) hW (q_recv X hW ds_X rfl) ok_X_told mw_213 ⟨by decide, by decide⟩ (As := [.int (-1000001)]) rfl rfl (Nat.le_of_ble_eq_true rfl) (lv := [(0, .ref (eA E 0)), (1, .int x), (2, .int y)]) hl ⟨Nat.le_refl 0, Nat.le_refl 0⟩ d_X_walker_23 (fun H locs hW => ?_)
      have hW : qWH E (qr S 14 (fnS φ 0)) s H locs := hW
      exact q_zret X rfl hW ⟨rfl, rfl⟩ d_X_walker_26
set_option maxHeartbeats 1000000 in
set_option maxRecDepth 20000 in
theorem c_X_of_0 (l : Launch) (E : QE) (S : QM) (ρ φ : Nat → Int32) (hρ : S 0 = ρ) (hφ : S 14 = φ) (hwf : WF ρ) (t : Nat) (ht : t < nT ρ) : qCI E l y_X_of prog_1_method_6_code 4 .int 3 [.ref (eA E 0), .int (nI t), .int (nI 0)] S (ρ (20 + 3 * t)) S := by
  refine qCI_of (by decide) (Nat.le_of_ble_eq_true rfl) (fun p e s m below meth c ls X hW hl => ?_)
  have hl : lv_has ls 4 [(0, .ref (eA E 0)), (1, .int (nI t)), (2, .int (nI 0))] := hl
  have htl := hwf.tl
  have hwl := hwf.wl
  have hdl := hwf.dl
  refine lv_aload_n X.x X.b d_X_of_0 rfl (lv_at hl 0 rfl) ?_
  refine q_getr X hW qj3 rfl _ ds_X 0 (by decide) mw_183 rfl (c1 := cB 0) rfl d_X_of_1 ?_
  refine lv_iload_n X.x X.b d_X_of_4 rfl (lv_at hl 1 rfl) ?_
  refine q_cvi X (c_Cm_hasThing l E 0 (by decide) S ρ (by rw [hρ]) hwf (nI t)) hW (q_recv X hW (ds_cm (k := 0) (by decide)) rfl) ok_Cm_hasThing mw_244 ⟨by decide, by decide⟩ (As := [.int (nI t)]) rfl rfl (Nat.le_of_ble_eq_true rfl) (lv := [(0, .ref (eA E 0)), (1, .int (nI t)), (2, .int (nI 0))]) hl ⟨Nat.le_refl 0, Nat.le_refl 0⟩ d_X_of_5 (fun H locs hW => ?_)
  refine lv_if_eq (tgt := 20) X.x X.b d_X_of_8 (by decide) (fun c8 => ?_) (fun c8 => ?_)
  · have c8 := b2i_e c8
    have c8 := mt (isT_i hwf (by omega)).mpr c8
    omega
  · have c8 := b2i_n c8
    have c8 := (isT_i hwf (by omega)).mp c8
    refine lv_iload_n X.x X.b d_X_of_11 rfl (lv_at hl 2 rfl) ?_
    refine lv_iconst (v := nI 0) X.x X.b d_X_of_12 (by decide) ?_
    refine lv_iconst (v := nI 5) X.x X.b d_X_of_13 (by decide) ?_
    refine q_csi X (c_X_within l E S (nI 0) (nI 0) (nI 5)) hW ok_X_within mw_209 ⟨by decide, by decide⟩ (As := [.int (nI 0), .int (nI 0), .int (nI 5)]) rfl rfl (Nat.le_of_ble_eq_true rfl) (lv := [(0, .ref (eA E 0)), (1, .int (nI t)), (2, .int (nI 0))]) hl ⟨Nat.le_refl 0, Nat.le_refl 0⟩ d_X_of_14 (fun H locs hW => ?_)
    refine lv_if_ne (tgt := 27) X.x X.b d_X_of_17 (by decide) (fun c17 => ?_) (fun c17 => ?_)
    · have c17 := b2i_n c17
      have c17 := (inR_i (by omega) (by decide)).mp c17
      refine lv_aload_n X.x X.b d_X_of_27 rfl (lv_at hl 0 rfl) ?_
      refine q_getr X hW qj3 rfl _ ds_X 0 (by decide) mw_183 rfl (c1 := cB 0) rfl d_X_of_28 ?_
      refine q_getr X hW qj0 rfl _ (ds_cm (k := 0) (by decide)) 1 (by decide) mw_103 rfl (c1 := cB 0 + 2) rfl d_X_of_31 ?_
      refine lv_iload_n X.x X.b d_X_of_34 rfl (lv_at hl 1 rfl) ?_
      refine g_th (show 0 < 3 by decide) X hW (show t < 8 by omega) d_X_of_35 ?_
      refine lv_astore_n (lv' := [(3, .ref (eA E (cB 0 + 5 + t))), (0, .ref (eA E 0)), (1, .int (nI t)), (2, .int (nI 0))]) X.x X.b d_X_of_36 rfl hl (by decide) rfl (fun ls hl => ?_)
      refine lv_iload_n X.x X.b d_X_of_37 rfl (lv_at hl 3 rfl) ?_
      refine lv_tableOut (tgt := 102) X.x X.b d_X_of_38 (by decide) (by decide) ?_
      refine lv_aload_n X.x X.b d_X_of_102 rfl (lv_at hl 0 rfl) ?_
      refine lv_iload_n X.x X.b d_X_of_103 rfl (lv_at hl 3 rfl) ?_
      refine g_ald X hW (ds_t (t := t) (k := 0) (by decide) (by omega)) (q_in (by omega) (by decide)) (p0 := 20 + 3 * t) (q_tn (by omega) (by omega)) (v := ρ (20 + 3 * t)) (by rw [hρ]) d_X_of_104 ?_
      exact q_zret X rfl hW ⟨rfl, rfl⟩ d_X_of_105
    · have c17 := b2i_e c17
      have c17 := mt (inR_i (by omega) (by decide)).mpr c17
      omega
set_option maxHeartbeats 1000000 in
set_option maxRecDepth 20000 in
theorem c_X_of_1 (l : Launch) (E : QE) (S : QM) (ρ φ : Nat → Int32) (hρ : S 0 = ρ) (hφ : S 14 = φ) (hwf : WF ρ) (t : Nat) (ht : t < nT ρ) : qCI E l y_X_of prog_1_method_6_code 4 .int 3 [.ref (eA E 0), .int (nI t), .int (nI 1)] S (ρ (20 + 3 * t + 1)) S := by
  refine qCI_of (by decide) (Nat.le_of_ble_eq_true rfl) (fun p e s m below meth c ls X hW hl => ?_)
  have hl : lv_has ls 4 [(0, .ref (eA E 0)), (1, .int (nI t)), (2, .int (nI 1))] := hl
  have htl := hwf.tl
  have hwl := hwf.wl
  have hdl := hwf.dl
  refine lv_aload_n X.x X.b d_X_of_0 rfl (lv_at hl 0 rfl) ?_
  refine q_getr X hW qj3 rfl _ ds_X 0 (by decide) mw_183 rfl (c1 := cB 0) rfl d_X_of_1 ?_
  refine lv_iload_n X.x X.b d_X_of_4 rfl (lv_at hl 1 rfl) ?_
  refine q_cvi X (c_Cm_hasThing l E 0 (by decide) S ρ (by rw [hρ]) hwf (nI t)) hW (q_recv X hW (ds_cm (k := 0) (by decide)) rfl) ok_Cm_hasThing mw_244 ⟨by decide, by decide⟩ (As := [.int (nI t)]) rfl rfl (Nat.le_of_ble_eq_true rfl) (lv := [(0, .ref (eA E 0)), (1, .int (nI t)), (2, .int (nI 1))]) hl ⟨Nat.le_refl 0, Nat.le_refl 0⟩ d_X_of_5 (fun H locs hW => ?_)
  refine lv_if_eq (tgt := 20) X.x X.b d_X_of_8 (by decide) (fun c8 => ?_) (fun c8 => ?_)
  · have c8 := b2i_e c8
    have c8 := mt (isT_i hwf (by omega)).mpr c8
    omega
  · have c8 := b2i_n c8
    have c8 := (isT_i hwf (by omega)).mp c8
    refine lv_iload_n X.x X.b d_X_of_11 rfl (lv_at hl 2 rfl) ?_
    refine lv_iconst (v := nI 0) X.x X.b d_X_of_12 (by decide) ?_
    refine lv_iconst (v := nI 5) X.x X.b d_X_of_13 (by decide) ?_
    refine q_csi X (c_X_within l E S (nI 1) (nI 0) (nI 5)) hW ok_X_within mw_209 ⟨by decide, by decide⟩ (As := [.int (nI 1), .int (nI 0), .int (nI 5)]) rfl rfl (Nat.le_of_ble_eq_true rfl) (lv := [(0, .ref (eA E 0)), (1, .int (nI t)), (2, .int (nI 1))]) hl ⟨Nat.le_refl 0, Nat.le_refl 0⟩ d_X_of_14 (fun H locs hW => ?_)
    refine lv_if_ne (tgt := 27) X.x X.b d_X_of_17 (by decide) (fun c17 => ?_) (fun c17 => ?_)
    · have c17 := b2i_n c17
      have c17 := (inR_i (by omega) (by decide)).mp c17
      refine lv_aload_n X.x X.b d_X_of_27 rfl (lv_at hl 0 rfl) ?_
      refine q_getr X hW qj3 rfl _ ds_X 0 (by decide) mw_183 rfl (c1 := cB 0) rfl d_X_of_28 ?_
      refine q_getr X hW qj0 rfl _ (ds_cm (k := 0) (by decide)) 1 (by decide) mw_103 rfl (c1 := cB 0 + 2) rfl d_X_of_31 ?_
      refine lv_iload_n X.x X.b d_X_of_34 rfl (lv_at hl 1 rfl) ?_
      refine g_th (show 0 < 3 by decide) X hW (show t < 8 by omega) d_X_of_35 ?_
      refine lv_astore_n (lv' := [(3, .ref (eA E (cB 0 + 5 + t))), (0, .ref (eA E 0)), (1, .int (nI t)), (2, .int (nI 1))]) X.x X.b d_X_of_36 rfl hl (by decide) rfl (fun ls hl => ?_)
      refine lv_iload_n X.x X.b d_X_of_37 rfl (lv_at hl 3 rfl) ?_
      refine lv_tableOut (tgt := 102) X.x X.b d_X_of_38 (by decide) (by decide) ?_
      refine lv_aload_n X.x X.b d_X_of_102 rfl (lv_at hl 0 rfl) ?_
      refine lv_iload_n X.x X.b d_X_of_103 rfl (lv_at hl 3 rfl) ?_
      refine g_ald X hW (ds_t (t := t) (k := 0) (by decide) (by omega)) (q_in (by omega) (by decide)) (p0 := 20 + 3 * t + 1) (q_tn (by omega) (by omega)) (v := ρ (20 + 3 * t + 1)) (by rw [hρ]) d_X_of_104 ?_
      exact q_zret X rfl hW ⟨rfl, rfl⟩ d_X_of_105
    · have c17 := b2i_e c17
      have c17 := mt (inR_i (by omega) (by decide)).mpr c17
      omega
set_option maxHeartbeats 1000000 in
set_option maxRecDepth 20000 in
theorem c_X_of_2 (l : Launch) (E : QE) (S : QM) (ρ φ : Nat → Int32) (hρ : S 0 = ρ) (hφ : S 14 = φ) (hwf : WF ρ) (t : Nat) (ht : t < nT ρ) : qCI E l y_X_of prog_1_method_6_code 4 .int 3 [.ref (eA E 0), .int (nI t), .int (nI 2)] S (ρ (20 + 3 * t + 2)) S := by
  refine qCI_of (by decide) (Nat.le_of_ble_eq_true rfl) (fun p e s m below meth c ls X hW hl => ?_)
  have hl : lv_has ls 4 [(0, .ref (eA E 0)), (1, .int (nI t)), (2, .int (nI 2))] := hl
  have htl := hwf.tl
  have hwl := hwf.wl
  have hdl := hwf.dl
  refine lv_aload_n X.x X.b d_X_of_0 rfl (lv_at hl 0 rfl) ?_
  refine q_getr X hW qj3 rfl _ ds_X 0 (by decide) mw_183 rfl (c1 := cB 0) rfl d_X_of_1 ?_
  refine lv_iload_n X.x X.b d_X_of_4 rfl (lv_at hl 1 rfl) ?_
  refine q_cvi X (c_Cm_hasThing l E 0 (by decide) S ρ (by rw [hρ]) hwf (nI t)) hW (q_recv X hW (ds_cm (k := 0) (by decide)) rfl) ok_Cm_hasThing mw_244 ⟨by decide, by decide⟩ (As := [.int (nI t)]) rfl rfl (Nat.le_of_ble_eq_true rfl) (lv := [(0, .ref (eA E 0)), (1, .int (nI t)), (2, .int (nI 2))]) hl ⟨Nat.le_refl 0, Nat.le_refl 0⟩ d_X_of_5 (fun H locs hW => ?_)
  refine lv_if_eq (tgt := 20) X.x X.b d_X_of_8 (by decide) (fun c8 => ?_) (fun c8 => ?_)
  · have c8 := b2i_e c8
    have c8 := mt (isT_i hwf (by omega)).mpr c8
    omega
  · have c8 := b2i_n c8
    have c8 := (isT_i hwf (by omega)).mp c8
    refine lv_iload_n X.x X.b d_X_of_11 rfl (lv_at hl 2 rfl) ?_
    refine lv_iconst (v := nI 0) X.x X.b d_X_of_12 (by decide) ?_
    refine lv_iconst (v := nI 5) X.x X.b d_X_of_13 (by decide) ?_
    refine q_csi X (c_X_within l E S (nI 2) (nI 0) (nI 5)) hW ok_X_within mw_209 ⟨by decide, by decide⟩ (As := [.int (nI 2), .int (nI 0), .int (nI 5)]) rfl rfl (Nat.le_of_ble_eq_true rfl) (lv := [(0, .ref (eA E 0)), (1, .int (nI t)), (2, .int (nI 2))]) hl ⟨Nat.le_refl 0, Nat.le_refl 0⟩ d_X_of_14 (fun H locs hW => ?_)
    refine lv_if_ne (tgt := 27) X.x X.b d_X_of_17 (by decide) (fun c17 => ?_) (fun c17 => ?_)
    · have c17 := b2i_n c17
      have c17 := (inR_i (by omega) (by decide)).mp c17
      refine lv_aload_n X.x X.b d_X_of_27 rfl (lv_at hl 0 rfl) ?_
      refine q_getr X hW qj3 rfl _ ds_X 0 (by decide) mw_183 rfl (c1 := cB 0) rfl d_X_of_28 ?_
      refine q_getr X hW qj0 rfl _ (ds_cm (k := 0) (by decide)) 1 (by decide) mw_103 rfl (c1 := cB 0 + 2) rfl d_X_of_31 ?_
      refine lv_iload_n X.x X.b d_X_of_34 rfl (lv_at hl 1 rfl) ?_
      refine g_th (show 0 < 3 by decide) X hW (show t < 8 by omega) d_X_of_35 ?_
      refine lv_astore_n (lv' := [(3, .ref (eA E (cB 0 + 5 + t))), (0, .ref (eA E 0)), (1, .int (nI t)), (2, .int (nI 2))]) X.x X.b d_X_of_36 rfl hl (by decide) rfl (fun ls hl => ?_)
      refine lv_iload_n X.x X.b d_X_of_37 rfl (lv_at hl 3 rfl) ?_
      refine lv_tableOut (tgt := 102) X.x X.b d_X_of_38 (by decide) (by decide) ?_
      refine lv_aload_n X.x X.b d_X_of_102 rfl (lv_at hl 0 rfl) ?_
      refine lv_iload_n X.x X.b d_X_of_103 rfl (lv_at hl 3 rfl) ?_
      refine g_ald X hW (ds_t (t := t) (k := 0) (by decide) (by omega)) (q_in (by omega) (by decide)) (p0 := 20 + 3 * t + 2) (q_tn (by omega) (by omega)) (v := ρ (20 + 3 * t + 2)) (by rw [hρ]) d_X_of_104 ?_
      exact q_zret X rfl hW ⟨rfl, rfl⟩ d_X_of_105
    · have c17 := b2i_e c17
      have c17 := mt (inR_i (by omega) (by decide)).mpr c17
      omega
set_option maxHeartbeats 1000000 in
set_option maxRecDepth 20000 in
theorem c_X_of_3 (l : Launch) (E : QE) (S : QM) (ρ φ : Nat → Int32) (hρ : S 0 = ρ) (hφ : S 14 = φ) (hwf : WF ρ) (t : Nat) (ht : t < nT ρ) : qCI E l y_X_of prog_1_method_6_code 4 .int 3 [.ref (eA E 0), .int (nI t), .int (nI 3)] S (clr (ρ (20 + 3 * t))) S := by
  refine qCI_of (by decide) (Nat.le_of_ble_eq_true rfl) (fun p e s m below meth c ls X hW hl => ?_)
  have hl : lv_has ls 4 [(0, .ref (eA E 0)), (1, .int (nI t)), (2, .int (nI 3))] := hl
  have htl := hwf.tl
  have hwl := hwf.wl
  have hdl := hwf.dl
  refine lv_aload_n X.x X.b d_X_of_0 rfl (lv_at hl 0 rfl) ?_
  refine q_getr X hW qj3 rfl _ ds_X 0 (by decide) mw_183 rfl (c1 := cB 0) rfl d_X_of_1 ?_
  refine lv_iload_n X.x X.b d_X_of_4 rfl (lv_at hl 1 rfl) ?_
  refine q_cvi X (c_Cm_hasThing l E 0 (by decide) S ρ (by rw [hρ]) hwf (nI t)) hW (q_recv X hW (ds_cm (k := 0) (by decide)) rfl) ok_Cm_hasThing mw_244 ⟨by decide, by decide⟩ (As := [.int (nI t)]) rfl rfl (Nat.le_of_ble_eq_true rfl) (lv := [(0, .ref (eA E 0)), (1, .int (nI t)), (2, .int (nI 3))]) hl ⟨Nat.le_refl 0, Nat.le_refl 0⟩ d_X_of_5 (fun H locs hW => ?_)
  refine lv_if_eq (tgt := 20) X.x X.b d_X_of_8 (by decide) (fun c8 => ?_) (fun c8 => ?_)
  · have c8 := b2i_e c8
    have c8 := mt (isT_i hwf (by omega)).mpr c8
    omega
  · have c8 := b2i_n c8
    have c8 := (isT_i hwf (by omega)).mp c8
    refine lv_iload_n X.x X.b d_X_of_11 rfl (lv_at hl 2 rfl) ?_
    refine lv_iconst (v := nI 0) X.x X.b d_X_of_12 (by decide) ?_
    refine lv_iconst (v := nI 5) X.x X.b d_X_of_13 (by decide) ?_
    refine q_csi X (c_X_within l E S (nI 3) (nI 0) (nI 5)) hW ok_X_within mw_209 ⟨by decide, by decide⟩ (As := [.int (nI 3), .int (nI 0), .int (nI 5)]) rfl rfl (Nat.le_of_ble_eq_true rfl) (lv := [(0, .ref (eA E 0)), (1, .int (nI t)), (2, .int (nI 3))]) hl ⟨Nat.le_refl 0, Nat.le_refl 0⟩ d_X_of_14 (fun H locs hW => ?_)
    refine lv_if_ne (tgt := 27) X.x X.b d_X_of_17 (by decide) (fun c17 => ?_) (fun c17 => ?_)
    · have c17 := b2i_n c17
      have c17 := (inR_i (by omega) (by decide)).mp c17
      refine lv_aload_n X.x X.b d_X_of_27 rfl (lv_at hl 0 rfl) ?_
      refine q_getr X hW qj3 rfl _ ds_X 0 (by decide) mw_183 rfl (c1 := cB 0) rfl d_X_of_28 ?_
      refine q_getr X hW qj0 rfl _ (ds_cm (k := 0) (by decide)) 1 (by decide) mw_103 rfl (c1 := cB 0 + 2) rfl d_X_of_31 ?_
      refine lv_iload_n X.x X.b d_X_of_34 rfl (lv_at hl 1 rfl) ?_
      refine g_th (show 0 < 3 by decide) X hW (show t < 8 by omega) d_X_of_35 ?_
      refine lv_astore_n (lv' := [(3, .ref (eA E (cB 0 + 5 + t))), (0, .ref (eA E 0)), (1, .int (nI t)), (2, .int (nI 3))]) X.x X.b d_X_of_36 rfl hl (by decide) rfl (fun ls hl => ?_)
      refine lv_iload_n X.x X.b d_X_of_37 rfl (lv_at hl 3 rfl) ?_
      refine lv_tableIn (tgt := 64) (off := 26) X.x X.b d_X_of_38 (by decide) (by decide) (by decide) (by decide) ?_
      refine lv_aload_n X.x X.b d_X_of_64 rfl (lv_at hl 0 rfl) ?_
      refine lv_iconst (v := nI 0) X.x X.b d_X_of_65 (by decide) ?_
      refine g_ald X hW (ds_t (t := t) (k := 0) (by decide) (by omega)) (q_in (by omega) (by decide)) (p0 := 20 + 3 * t) (q_tn (by omega) (by omega)) (v := ρ (20 + 3 * t)) (by rw [hρ]) d_X_of_66 ?_
      refine q_csi X (c_Kd_clear l E S (ρ (20 + 3 * t))) hW ok_Kd_clear mw_248 ⟨by decide, by decide⟩ (As := [.int (ρ (20 + 3 * t))]) rfl rfl (Nat.le_of_ble_eq_true rfl) (lv := [(3, .ref (eA E (cB 0 + 5 + t))), (0, .ref (eA E 0)), (1, .int (nI t)), (2, .int (nI 3))]) hl ⟨Nat.le_refl 0, Nat.le_refl 0⟩ d_X_of_67 (fun H locs hW => ?_)
      exact q_zret X rfl hW ⟨rfl, rfl⟩ d_X_of_70
    · have c17 := b2i_e c17
      have c17 := mt (inR_i (by omega) (by decide)).mpr c17
      omega
set_option maxHeartbeats 1000000 in
set_option maxRecDepth 20000 in
theorem c_X_of_4 (l : Launch) (E : QE) (S : QM) (ρ φ : Nat → Int32) (hρ : S 0 = ρ) (hφ : S 14 = φ) (hwf : WF ρ) (t : Nat) (ht : t < nT ρ) : qCI E l y_X_of prog_1_method_6_code 4 .int 3 [.ref (eA E 0), .int (nI t), .int (nI 4)] S (dmm (ρ (20 + 3 * t)) (ρ (20 + 3 * t + 2)) (ρ 0)) S := by
  refine qCI_of (by decide) (Nat.le_of_ble_eq_true rfl) (fun p e s m below meth c ls X hW hl => ?_)
  have hl : lv_has ls 4 [(0, .ref (eA E 0)), (1, .int (nI t)), (2, .int (nI 4))] := hl
  have htl := hwf.tl
  have hwl := hwf.wl
  have hdl := hwf.dl
  refine lv_aload_n X.x X.b d_X_of_0 rfl (lv_at hl 0 rfl) ?_
  refine q_getr X hW qj3 rfl _ ds_X 0 (by decide) mw_183 rfl (c1 := cB 0) rfl d_X_of_1 ?_
  refine lv_iload_n X.x X.b d_X_of_4 rfl (lv_at hl 1 rfl) ?_
  refine q_cvi X (c_Cm_hasThing l E 0 (by decide) S ρ (by rw [hρ]) hwf (nI t)) hW (q_recv X hW (ds_cm (k := 0) (by decide)) rfl) ok_Cm_hasThing mw_244 ⟨by decide, by decide⟩ (As := [.int (nI t)]) rfl rfl (Nat.le_of_ble_eq_true rfl) (lv := [(0, .ref (eA E 0)), (1, .int (nI t)), (2, .int (nI 4))]) hl ⟨Nat.le_refl 0, Nat.le_refl 0⟩ d_X_of_5 (fun H locs hW => ?_)
  refine lv_if_eq (tgt := 20) X.x X.b d_X_of_8 (by decide) (fun c8 => ?_) (fun c8 => ?_)
  · have c8 := b2i_e c8
    have c8 := mt (isT_i hwf (by omega)).mpr c8
    omega
  · have c8 := b2i_n c8
    have c8 := (isT_i hwf (by omega)).mp c8
    refine lv_iload_n X.x X.b d_X_of_11 rfl (lv_at hl 2 rfl) ?_
    refine lv_iconst (v := nI 0) X.x X.b d_X_of_12 (by decide) ?_
    refine lv_iconst (v := nI 5) X.x X.b d_X_of_13 (by decide) ?_
    refine q_csi X (c_X_within l E S (nI 4) (nI 0) (nI 5)) hW ok_X_within mw_209 ⟨by decide, by decide⟩ (As := [.int (nI 4), .int (nI 0), .int (nI 5)]) rfl rfl (Nat.le_of_ble_eq_true rfl) (lv := [(0, .ref (eA E 0)), (1, .int (nI t)), (2, .int (nI 4))]) hl ⟨Nat.le_refl 0, Nat.le_refl 0⟩ d_X_of_14 (fun H locs hW => ?_)
    refine lv_if_ne (tgt := 27) X.x X.b d_X_of_17 (by decide) (fun c17 => ?_) (fun c17 => ?_)
    · have c17 := b2i_n c17
      have c17 := (inR_i (by omega) (by decide)).mp c17
      refine lv_aload_n X.x X.b d_X_of_27 rfl (lv_at hl 0 rfl) ?_
      refine q_getr X hW qj3 rfl _ ds_X 0 (by decide) mw_183 rfl (c1 := cB 0) rfl d_X_of_28 ?_
      refine q_getr X hW qj0 rfl _ (ds_cm (k := 0) (by decide)) 1 (by decide) mw_103 rfl (c1 := cB 0 + 2) rfl d_X_of_31 ?_
      refine lv_iload_n X.x X.b d_X_of_34 rfl (lv_at hl 1 rfl) ?_
      refine g_th (show 0 < 3 by decide) X hW (show t < 8 by omega) d_X_of_35 ?_
      refine lv_astore_n (lv' := [(3, .ref (eA E (cB 0 + 5 + t))), (0, .ref (eA E 0)), (1, .int (nI t)), (2, .int (nI 4))]) X.x X.b d_X_of_36 rfl hl (by decide) rfl (fun ls hl => ?_)
      refine lv_iload_n X.x X.b d_X_of_37 rfl (lv_at hl 3 rfl) ?_
      refine lv_tableIn (tgt := 71) (off := 33) X.x X.b d_X_of_38 (by decide) (by decide) (by decide) (by decide) ?_
      refine lv_aload_n X.x X.b d_X_of_71 rfl (lv_at hl 0 rfl) ?_
      refine lv_iconst (v := nI 0) X.x X.b d_X_of_72 (by decide) ?_
      refine g_ald X hW (ds_t (t := t) (k := 0) (by decide) (by omega)) (q_in (by omega) (by decide)) (p0 := 20 + 3 * t) (q_tn (by omega) (by omega)) (v := ρ (20 + 3 * t)) (by rw [hρ]) d_X_of_73 ?_
      refine lv_aload_n X.x X.b d_X_of_74 rfl (lv_at hl 0 rfl) ?_
      refine lv_iconst (v := nI 2) X.x X.b d_X_of_75 (by decide) ?_
      refine g_ald X hW (ds_t (t := t) (k := 0) (by decide) (by omega)) (q_in (by omega) (by decide)) (p0 := 20 + 3 * t + 2) (q_tn (by omega) (by omega)) (v := ρ (20 + 3 * t + 2)) (by rw [hρ]) d_X_of_76 ?_
      refine lv_aload_n X.x X.b d_X_of_77 rfl (lv_at hl 1 rfl) ?_
      refine q_getr X hW qj3 rfl _ ds_X 0 (by decide) mw_183 rfl (c1 := cB 0) rfl d_X_of_78 ?_
      refine g_geti X hW qj0 rfl _ (ds_cm (k := 0) (by decide)) 6 (by decide) mw_116 rfl (r0 := 0) (p0 := 0) rfl (v := ρ 0) (by rw [hρ]) d_X_of_81 ?_
      refine q_csi X (c_Kd_dim l E S (ρ (20 + 3 * t)) (ρ (20 + 3 * t + 2)) (ρ 0)) hW ok_Kd_dim mw_251 ⟨by decide, by decide⟩ (As := [.int (ρ (20 + 3 * t)), .int (ρ (20 + 3 * t + 2)), .int (ρ 0)]) rfl rfl (Nat.le_of_ble_eq_true rfl) (lv := [(3, .ref (eA E (cB 0 + 5 + t))), (0, .ref (eA E 0)), (1, .int (nI t)), (2, .int (nI 4))]) hl ⟨Nat.le_refl 0, Nat.le_refl 0⟩ d_X_of_84 (fun H locs hW => ?_)
      exact q_zret X rfl hW ⟨rfl, rfl⟩ d_X_of_87
    · have c17 := b2i_e c17
      have c17 := mt (inR_i (by omega) (by decide)).mpr c17
      omega
set_option maxHeartbeats 1000000 in
set_option maxRecDepth 20000 in
theorem c_X_of_5 (l : Launch) (E : QE) (S : QM) (ρ φ : Nat → Int32) (hρ : S 0 = ρ) (hφ : S 14 = φ) (hwf : WF ρ) (t : Nat) (ht : t < nT ρ) : qCI E l y_X_of prog_1_method_6_code 4 .int 3 [.ref (eA E 0), .int (nI t), .int (nI 5)] S (mvs (ρ (20 + 3 * t)) (ρ 0)) S := by
  refine qCI_of (by decide) (Nat.le_of_ble_eq_true rfl) (fun p e s m below meth c ls X hW hl => ?_)
  have hl : lv_has ls 4 [(0, .ref (eA E 0)), (1, .int (nI t)), (2, .int (nI 5))] := hl
  have htl := hwf.tl
  have hwl := hwf.wl
  have hdl := hwf.dl
  refine lv_aload_n X.x X.b d_X_of_0 rfl (lv_at hl 0 rfl) ?_
  refine q_getr X hW qj3 rfl _ ds_X 0 (by decide) mw_183 rfl (c1 := cB 0) rfl d_X_of_1 ?_
  refine lv_iload_n X.x X.b d_X_of_4 rfl (lv_at hl 1 rfl) ?_
  refine q_cvi X (c_Cm_hasThing l E 0 (by decide) S ρ (by rw [hρ]) hwf (nI t)) hW (q_recv X hW (ds_cm (k := 0) (by decide)) rfl) ok_Cm_hasThing mw_244 ⟨by decide, by decide⟩ (As := [.int (nI t)]) rfl rfl (Nat.le_of_ble_eq_true rfl) (lv := [(0, .ref (eA E 0)), (1, .int (nI t)), (2, .int (nI 5))]) hl ⟨Nat.le_refl 0, Nat.le_refl 0⟩ d_X_of_5 (fun H locs hW => ?_)
  refine lv_if_eq (tgt := 20) X.x X.b d_X_of_8 (by decide) (fun c8 => ?_) (fun c8 => ?_)
  · have c8 := b2i_e c8
    have c8 := mt (isT_i hwf (by omega)).mpr c8
    omega
  · have c8 := b2i_n c8
    have c8 := (isT_i hwf (by omega)).mp c8
    refine lv_iload_n X.x X.b d_X_of_11 rfl (lv_at hl 2 rfl) ?_
    refine lv_iconst (v := nI 0) X.x X.b d_X_of_12 (by decide) ?_
    refine lv_iconst (v := nI 5) X.x X.b d_X_of_13 (by decide) ?_
    refine q_csi X (c_X_within l E S (nI 5) (nI 0) (nI 5)) hW ok_X_within mw_209 ⟨by decide, by decide⟩ (As := [.int (nI 5), .int (nI 0), .int (nI 5)]) rfl rfl (Nat.le_of_ble_eq_true rfl) (lv := [(0, .ref (eA E 0)), (1, .int (nI t)), (2, .int (nI 5))]) hl ⟨Nat.le_refl 0, Nat.le_refl 0⟩ d_X_of_14 (fun H locs hW => ?_)
    refine lv_if_ne (tgt := 27) X.x X.b d_X_of_17 (by decide) (fun c17 => ?_) (fun c17 => ?_)
    · have c17 := b2i_n c17
      have c17 := (inR_i (by omega) (by decide)).mp c17
      refine lv_aload_n X.x X.b d_X_of_27 rfl (lv_at hl 0 rfl) ?_
      refine q_getr X hW qj3 rfl _ ds_X 0 (by decide) mw_183 rfl (c1 := cB 0) rfl d_X_of_28 ?_
      refine q_getr X hW qj0 rfl _ (ds_cm (k := 0) (by decide)) 1 (by decide) mw_103 rfl (c1 := cB 0 + 2) rfl d_X_of_31 ?_
      refine lv_iload_n X.x X.b d_X_of_34 rfl (lv_at hl 1 rfl) ?_
      refine g_th (show 0 < 3 by decide) X hW (show t < 8 by omega) d_X_of_35 ?_
      refine lv_astore_n (lv' := [(3, .ref (eA E (cB 0 + 5 + t))), (0, .ref (eA E 0)), (1, .int (nI t)), (2, .int (nI 5))]) X.x X.b d_X_of_36 rfl hl (by decide) rfl (fun ls hl => ?_)
      refine lv_iload_n X.x X.b d_X_of_37 rfl (lv_at hl 3 rfl) ?_
      refine lv_tableIn (tgt := 88) (off := 50) X.x X.b d_X_of_38 (by decide) (by decide) (by decide) (by decide) ?_
      refine lv_aload_n X.x X.b d_X_of_88 rfl (lv_at hl 0 rfl) ?_
      refine lv_iconst (v := nI 0) X.x X.b d_X_of_89 (by decide) ?_
      refine g_ald X hW (ds_t (t := t) (k := 0) (by decide) (by omega)) (q_in (by omega) (by decide)) (p0 := 20 + 3 * t) (q_tn (by omega) (by omega)) (v := ρ (20 + 3 * t)) (by rw [hρ]) d_X_of_90 ?_
      refine lv_aload_n X.x X.b d_X_of_91 rfl (lv_at hl 1 rfl) ?_
      refine q_getr X hW qj3 rfl _ ds_X 0 (by decide) mw_183 rfl (c1 := cB 0) rfl d_X_of_92 ?_
      refine g_geti X hW qj0 rfl _ (ds_cm (k := 0) (by decide)) 6 (by decide) mw_116 rfl (r0 := 0) (p0 := 0) rfl (v := ρ 0) (by rw [hρ]) d_X_of_95 ?_
      refine q_csi X (c_Kd_moves l E S (ρ (20 + 3 * t)) (ρ 0)) hW ok_Kd_moves mw_254 ⟨by decide, by decide⟩ (As := [.int (ρ (20 + 3 * t)), .int (ρ 0)]) rfl rfl (Nat.le_of_ble_eq_true rfl) (lv := [(3, .ref (eA E (cB 0 + 5 + t))), (0, .ref (eA E 0)), (1, .int (nI t)), (2, .int (nI 5))]) hl ⟨Nat.le_refl 0, Nat.le_refl 0⟩ d_X_of_98 (fun H locs hW => ?_)
      exact q_zret X rfl hW ⟨rfl, rfl⟩ d_X_of_101
    · have c17 := b2i_e c17
      have c17 := mt (inR_i (by omega) (by decide)).mpr c17
      omega
set_option maxHeartbeats 1000000 in
set_option maxRecDepth 20000 in
theorem c_X_of_b (l : Launch) (E : QE) (S : QM) (ρ φ : Nat → Int32) (hρ : S 0 = ρ) (hφ : S 14 = φ) (hwf : WF ρ) (x y : Int32) (h : ¬ (isT ρ x ∧ inR 0 5 y)) : qCI E l y_X_of prog_1_method_6_code 4 .int 3 [.ref (eA E 0), .int x, .int y] S (-1000001) (qr S 14 (fnS φ 0)) := by
  refine qCI_of (by decide) (Nat.le_of_ble_eq_true rfl) (fun p e s m below meth c ls X hW hl => ?_)
  have hl : lv_has ls 4 [(0, .ref (eA E 0)), (1, .int x), (2, .int y)] := hl
  have htl := hwf.tl
  have hwl := hwf.wl
  have hdl := hwf.dl
  refine lv_aload_n X.x X.b d_X_of_0 rfl (lv_at hl 0 rfl) ?_
  refine q_getr X hW qj3 rfl _ ds_X 0 (by decide) mw_183 rfl (c1 := cB 0) rfl d_X_of_1 ?_
  refine lv_iload_n X.x X.b d_X_of_4 rfl (lv_at hl 1 rfl) ?_
  refine q_cvi X (c_Cm_hasThing l E 0 (by decide) S ρ (by rw [hρ]) hwf x) hW (q_recv X hW (ds_cm (k := 0) (by decide)) rfl) ok_Cm_hasThing mw_244 ⟨by decide, by decide⟩ (As := [.int x]) rfl rfl (Nat.le_of_ble_eq_true rfl) (lv := [(0, .ref (eA E 0)), (1, .int x), (2, .int y)]) hl ⟨Nat.le_refl 0, Nat.le_refl 0⟩ d_X_of_5 (fun H locs hW => ?_)
  refine lv_if_eq (tgt := 20) X.x X.b d_X_of_8 (by decide) (fun c8 => ?_) (fun c8 => ?_)
  · have c8 := b2i_e c8
    refine lv_aload_n X.x X.b d_X_of_20 rfl (lv_at hl 0 rfl) ?_
    refine lv_ldc (v := (-1000001)) X.x X.b X.ow (X.ts _ mw_212) d_X_of_21 ?_
    refine q_cvi X (c_X_told_0 l E S φ (by rw [hφ])) hW (q_recv X hW ds_X rfl) ok_X_told mw_213 ⟨by decide, by decide⟩ (As := [.int (-1000001)]) rfl rfl (Nat.le_of_ble_eq_true rfl) (lv := [(0, .ref (eA E 0)), (1, .int x), (2, .int y)]) hl ⟨Nat.le_refl 0, Nat.le_refl 0⟩ d_X_of_23 (fun H locs hW => ?_)
    have hW : qWH E (qr S 14 (fnS φ 0)) s H locs := hW
    exact q_zret X rfl hW ⟨rfl, rfl⟩ d_X_of_26
  · have c8 := b2i_n c8
    refine lv_iload_n X.x X.b d_X_of_11 rfl (lv_at hl 2 rfl) ?_
    refine lv_iconst (v := nI 0) X.x X.b d_X_of_12 (by decide) ?_
    refine lv_iconst (v := nI 5) X.x X.b d_X_of_13 (by decide) ?_
    refine q_csi X (c_X_within l E S y (nI 0) (nI 5)) hW ok_X_within mw_209 ⟨by decide, by decide⟩ (As := [.int y, .int (nI 0), .int (nI 5)]) rfl rfl (Nat.le_of_ble_eq_true rfl) (lv := [(0, .ref (eA E 0)), (1, .int x), (2, .int y)]) hl ⟨Nat.le_refl 0, Nat.le_refl 0⟩ d_X_of_14 (fun H locs hW => ?_)
    refine lv_if_ne (tgt := 27) X.x X.b d_X_of_17 (by decide) (fun c17 => ?_) (fun c17 => ?_)
    · have c17 := b2i_n c17
      exact absurd ⟨c8, c17⟩ h
    · have c17 := b2i_e c17
      refine lv_aload_n X.x X.b d_X_of_20 rfl (lv_at hl 0 rfl) ?_
      refine lv_ldc (v := (-1000001)) X.x X.b X.ow (X.ts _ mw_212) d_X_of_21 ?_
      refine q_cvi X (c_X_told_0 l E S φ (by rw [hφ])) hW (q_recv X hW ds_X rfl) ok_X_told mw_213 ⟨by decide, by decide⟩ (As := [.int (-1000001)]) rfl rfl (Nat.le_of_ble_eq_true rfl) (lv := [(0, .ref (eA E 0)), (1, .int x), (2, .int y)]) hl ⟨Nat.le_refl 0, Nat.le_refl 0⟩ d_X_of_23 (fun H locs hW => ?_)
      have hW : qWH E (qr S 14 (fnS φ 0)) s H locs := hW
      exact q_zret X rfl hW ⟨rfl, rfl⟩ d_X_of_26
set_option maxHeartbeats 1000000 in
set_option maxRecDepth 20000 in
theorem c_X_change_0 (l : Launch) (E : QE) (S : QM) (ρ φ : Nat → Int32) (hρ : S 0 = ρ) (hφ : S 14 = φ) (hwf : WF ρ) (t : Nat) (ht : t < nT ρ) (v : Nat) (hv : v ≤ 6) : qCI E l y_X_change prog_1_method_7_code 5 .int 3 [.ref (eA E 0), .int (nI t), .int (nI 0), .int (nI v)] S (ρ (20 + 3 * t)) (qr S 0 (upd ρ (20 + 3 * t) (nI v))) := by
  refine qCI_of (by decide) (Nat.le_of_ble_eq_true rfl) (fun p e s m below meth c ls X hW hl => ?_)
  have hl : lv_has ls 5 [(0, .ref (eA E 0)), (1, .int (nI t)), (2, .int (nI 0)), (3, .int (nI v))] := hl
  have htl := hwf.tl
  have hwl := hwf.wl
  have hdl := hwf.dl
  refine lv_aload_n X.x X.b d_X_change_0 rfl (lv_at hl 0 rfl) ?_
  refine q_getr X hW qj3 rfl _ ds_X 0 (by decide) mw_183 rfl (c1 := cB 0) rfl d_X_change_1 ?_
  refine lv_iload_n X.x X.b d_X_change_4 rfl (lv_at hl 1 rfl) ?_
  refine q_cvi X (c_Cm_hasThing l E 0 (by decide) S ρ (by rw [hρ]) hwf (nI t)) hW (q_recv X hW (ds_cm (k := 0) (by decide)) rfl) ok_Cm_hasThing mw_244 ⟨by decide, by decide⟩ (As := [.int (nI t)]) rfl rfl (Nat.le_of_ble_eq_true rfl) (lv := [(0, .ref (eA E 0)), (1, .int (nI t)), (2, .int (nI 0)), (3, .int (nI v))]) hl ⟨Nat.le_refl 0, Nat.le_refl 0⟩ d_X_change_5 (fun H locs hW => ?_)
  refine lv_if_eq (tgt := 33) X.x X.b d_X_change_8 (by decide) (fun c8 => ?_) (fun c8 => ?_)
  · have c8 := b2i_e c8
    have c8 := mt (isT_i hwf (by omega)).mpr c8
    omega
  · have c8 := b2i_n c8
    have c8 := (isT_i hwf (by omega)).mp c8
    refine lv_iload_n X.x X.b d_X_change_11 rfl (lv_at hl 2 rfl) ?_
    refine lv_iconst (v := nI 0) X.x X.b d_X_change_12 (by decide) ?_
    refine lv_iconst (v := nI 2) X.x X.b d_X_change_13 (by decide) ?_
    refine q_csi X (c_X_within l E S (nI 0) (nI 0) (nI 2)) hW ok_X_within mw_209 ⟨by decide, by decide⟩ (As := [.int (nI 0), .int (nI 0), .int (nI 2)]) rfl rfl (Nat.le_of_ble_eq_true rfl) (lv := [(0, .ref (eA E 0)), (1, .int (nI t)), (2, .int (nI 0)), (3, .int (nI v))]) hl ⟨Nat.le_refl 0, Nat.le_refl 0⟩ d_X_change_14 (fun H locs hW => ?_)
    refine lv_if_eq (tgt := 33) X.x X.b d_X_change_17 (by decide) (fun c17 => ?_) (fun c17 => ?_)
    · have c17 := b2i_e c17
      have c17 := mt (inR_i (by omega) (by decide)).mpr c17
      omega
    · have c17 := b2i_n c17
      have c17 := (inR_i (by omega) (by decide)).mp c17
      refine lv_iload_n X.x X.b d_X_change_20 rfl (lv_at hl 3 rfl) ?_
      refine lv_iconst (v := nI 0) X.x X.b d_X_change_21 (by decide) ?_
      refine q_gets X hW X.Z.1 mw_225 d_X_change_22 ?_
      refine lv_iload_n X.x X.b d_X_change_25 rfl (lv_at hl 2 rfl) ?_
      refine g_zald X hW X.Z.1 (q_in (show 0 < 3 by omega) (by decide)) (q_tn (by omega) (Nat.zero_add _)) d_X_change_26 ?_
      rw [show zt0.getD 0 0 = nI 6 from by decide]
      refine q_csi X (c_X_within l E S (nI v) (nI 0) (nI 6)) hW ok_X_within mw_209 ⟨by decide, by decide⟩ (As := [.int (nI v), .int (nI 0), .int (nI 6)]) rfl rfl (Nat.le_of_ble_eq_true rfl) (lv := [(0, .ref (eA E 0)), (1, .int (nI t)), (2, .int (nI 0)), (3, .int (nI v))]) hl ⟨Nat.le_refl 0, Nat.le_refl 0⟩ d_X_change_27 (fun H locs hW => ?_)
      refine lv_if_ne (tgt := 40) X.x X.b d_X_change_30 (by decide) (fun c30 => ?_) (fun c30 => ?_)
      · have c30 := b2i_n c30
        have c30 := (inR_i (by omega) (by decide)).mp c30
        refine lv_aload_n X.x X.b d_X_change_40 rfl (lv_at hl 0 rfl) ?_
        refine q_getr X hW qj3 rfl _ ds_X 0 (by decide) mw_183 rfl (c1 := cB 0) rfl d_X_change_41 ?_
        refine q_getr X hW qj0 rfl _ (ds_cm (k := 0) (by decide)) 1 (by decide) mw_103 rfl (c1 := cB 0 + 2) rfl d_X_change_44 ?_
        refine lv_iload_n X.x X.b d_X_change_47 rfl (lv_at hl 1 rfl) ?_
        refine g_th (show 0 < 3 by decide) X hW (show t < 8 by omega) d_X_change_48 ?_
        refine lv_iload_n X.x X.b d_X_change_49 rfl (lv_at hl 2 rfl) ?_
        refine g_ald X hW (ds_t (t := t) (k := 0) (by decide) (by omega)) (q_in (by omega) (by decide)) (p0 := 20 + 3 * t) (q_tn (by omega) (by omega)) (v := ρ (20 + 3 * t)) (by rw [hρ]) d_X_change_50 ?_
        refine lv_istore (lv' := [(4, .int (ρ (20 + 3 * t))), (0, .ref (eA E 0)), (1, .int (nI t)), (2, .int (nI 0)), (3, .int (nI v))]) X.x X.b d_X_change_51 hl (by decide) rfl (fun ls hl => ?_)
        refine lv_aload_n X.x X.b d_X_change_53 rfl (lv_at hl 1 rfl) ?_
        refine q_getr X hW qj3 rfl _ ds_X 0 (by decide) mw_183 rfl (c1 := cB 0) rfl d_X_change_54 ?_
        refine q_getr X hW qj0 rfl _ (ds_cm (k := 0) (by decide)) 1 (by decide) mw_103 rfl (c1 := cB 0 + 2) rfl d_X_change_57 ?_
        refine lv_iload_n X.x X.b d_X_change_60 rfl (lv_at hl 2 rfl) ?_
        refine g_th (show 0 < 3 by decide) X hW (show t < 8 by omega) d_X_change_61 ?_
        refine lv_iload_n X.x X.b d_X_change_62 rfl (lv_at hl 3 rfl) ?_
        refine lv_iload_n X.x X.b d_X_change_63 rfl (lv_at hl 4 rfl) ?_
        refine g_ast X hW (ds_t (t := t) (k := 0) (by decide) (by omega)) (q_in (by omega) (by decide)) (p0 := 20 + 3 * t) (q_tn (by omega) (by omega)) (ρ := ρ) (by rw [hρ]) d_X_change_64 (fun H locs hW => ?_)
        obtain ⟨r64, er64⟩ : ∃ z, z = upd ρ (20 + 3 * t) (nI v) := ⟨_, rfl⟩
        rw [← er64] at hW
        refine lv_iload X.x X.b d_X_change_65 (lv_at hl 0 rfl) ?_
        exact q_zret X rfl hW ⟨rfl, by rw [er64]⟩ d_X_change_67
      · have c30 := b2i_e c30
        have c30 := mt (inR_i (by omega) (by decide)).mpr c30
        omega
set_option maxHeartbeats 1000000 in
set_option maxRecDepth 20000 in
theorem c_X_change_b0 (l : Launch) (E : QE) (S : QM) (ρ φ : Nat → Int32) (hρ : S 0 = ρ) (hφ : S 14 = φ) (hwf : WF ρ) (x z : Int32) (h : ¬ (isT ρ x ∧ inR 0 6 z)) : qCI E l y_X_change prog_1_method_7_code 5 .int 3 [.ref (eA E 0), .int x, .int (nI 0), .int z] S (-1000001) (qr S 14 (fnS φ 0)) := by
  refine qCI_of (by decide) (Nat.le_of_ble_eq_true rfl) (fun p e s m below meth c ls X hW hl => ?_)
  have hl : lv_has ls 5 [(0, .ref (eA E 0)), (1, .int x), (2, .int (nI 0)), (3, .int z)] := hl
  have htl := hwf.tl
  have hwl := hwf.wl
  have hdl := hwf.dl
  refine lv_aload_n X.x X.b d_X_change_0 rfl (lv_at hl 0 rfl) ?_
  refine q_getr X hW qj3 rfl _ ds_X 0 (by decide) mw_183 rfl (c1 := cB 0) rfl d_X_change_1 ?_
  refine lv_iload_n X.x X.b d_X_change_4 rfl (lv_at hl 1 rfl) ?_
  refine q_cvi X (c_Cm_hasThing l E 0 (by decide) S ρ (by rw [hρ]) hwf x) hW (q_recv X hW (ds_cm (k := 0) (by decide)) rfl) ok_Cm_hasThing mw_244 ⟨by decide, by decide⟩ (As := [.int x]) rfl rfl (Nat.le_of_ble_eq_true rfl) (lv := [(0, .ref (eA E 0)), (1, .int x), (2, .int (nI 0)), (3, .int z)]) hl ⟨Nat.le_refl 0, Nat.le_refl 0⟩ d_X_change_5 (fun H locs hW => ?_)
  refine lv_if_eq (tgt := 33) X.x X.b d_X_change_8 (by decide) (fun c8 => ?_) (fun c8 => ?_)
  · have c8 := b2i_e c8
    refine lv_aload_n X.x X.b d_X_change_33 rfl (lv_at hl 0 rfl) ?_
    refine lv_ldc (v := (-1000001)) X.x X.b X.ow (X.ts _ mw_212) d_X_change_34 ?_
    refine q_cvi X (c_X_told_0 l E S φ (by rw [hφ])) hW (q_recv X hW ds_X rfl) ok_X_told mw_213 ⟨by decide, by decide⟩ (As := [.int (-1000001)]) rfl rfl (Nat.le_of_ble_eq_true rfl) (lv := [(0, .ref (eA E 0)), (1, .int x), (2, .int (nI 0)), (3, .int z)]) hl ⟨Nat.le_refl 0, Nat.le_refl 0⟩ d_X_change_36 (fun H locs hW => ?_)
    have hW : qWH E (qr S 14 (fnS φ 0)) s H locs := hW
    exact q_zret X rfl hW ⟨rfl, rfl⟩ d_X_change_39
  · have c8 := b2i_n c8
    refine lv_iload_n X.x X.b d_X_change_11 rfl (lv_at hl 2 rfl) ?_
    refine lv_iconst (v := nI 0) X.x X.b d_X_change_12 (by decide) ?_
    refine lv_iconst (v := nI 2) X.x X.b d_X_change_13 (by decide) ?_
    refine q_csi X (c_X_within l E S (nI 0) (nI 0) (nI 2)) hW ok_X_within mw_209 ⟨by decide, by decide⟩ (As := [.int (nI 0), .int (nI 0), .int (nI 2)]) rfl rfl (Nat.le_of_ble_eq_true rfl) (lv := [(0, .ref (eA E 0)), (1, .int x), (2, .int (nI 0)), (3, .int z)]) hl ⟨Nat.le_refl 0, Nat.le_refl 0⟩ d_X_change_14 (fun H locs hW => ?_)
    refine lv_if_eq (tgt := 33) X.x X.b d_X_change_17 (by decide) (fun c17 => ?_) (fun c17 => ?_)
    · have c17 := b2i_e c17
      have c17 := mt (inR_i (by omega) (by decide)).mpr c17
      omega
    · have c17 := b2i_n c17
      have c17 := (inR_i (by omega) (by decide)).mp c17
      refine lv_iload_n X.x X.b d_X_change_20 rfl (lv_at hl 3 rfl) ?_
      refine lv_iconst (v := nI 0) X.x X.b d_X_change_21 (by decide) ?_
      refine q_gets X hW X.Z.1 mw_225 d_X_change_22 ?_
      refine lv_iload_n X.x X.b d_X_change_25 rfl (lv_at hl 2 rfl) ?_
      refine g_zald X hW X.Z.1 (q_in (show 0 < 3 by omega) (by decide)) (q_tn (by omega) (Nat.zero_add _)) d_X_change_26 ?_
      rw [show zt0.getD 0 0 = nI 6 from by decide]
      refine q_csi X (c_X_within l E S z (nI 0) (nI 6)) hW ok_X_within mw_209 ⟨by decide, by decide⟩ (As := [.int z, .int (nI 0), .int (nI 6)]) rfl rfl (Nat.le_of_ble_eq_true rfl) (lv := [(0, .ref (eA E 0)), (1, .int x), (2, .int (nI 0)), (3, .int z)]) hl ⟨Nat.le_refl 0, Nat.le_refl 0⟩ d_X_change_27 (fun H locs hW => ?_)
      refine lv_if_ne (tgt := 40) X.x X.b d_X_change_30 (by decide) (fun c30 => ?_) (fun c30 => ?_)
      · have c30 := b2i_n c30
        exact absurd ⟨c8, c30⟩ h
      · have c30 := b2i_e c30
        refine lv_aload_n X.x X.b d_X_change_33 rfl (lv_at hl 0 rfl) ?_
        refine lv_ldc (v := (-1000001)) X.x X.b X.ow (X.ts _ mw_212) d_X_change_34 ?_
        refine q_cvi X (c_X_told_0 l E S φ (by rw [hφ])) hW (q_recv X hW ds_X rfl) ok_X_told mw_213 ⟨by decide, by decide⟩ (As := [.int (-1000001)]) rfl rfl (Nat.le_of_ble_eq_true rfl) (lv := [(0, .ref (eA E 0)), (1, .int x), (2, .int (nI 0)), (3, .int z)]) hl ⟨Nat.le_refl 0, Nat.le_refl 0⟩ d_X_change_36 (fun H locs hW => ?_)
        have hW : qWH E (qr S 14 (fnS φ 0)) s H locs := hW
        exact q_zret X rfl hW ⟨rfl, rfl⟩ d_X_change_39
set_option maxHeartbeats 1000000 in
set_option maxRecDepth 20000 in
theorem c_X_change_1 (l : Launch) (E : QE) (S : QM) (ρ φ : Nat → Int32) (hρ : S 0 = ρ) (hφ : S 14 = φ) (hwf : WF ρ) (t : Nat) (ht : t < nT ρ) (v : Nat) (hv : v ≤ 15) : qCI E l y_X_change prog_1_method_7_code 5 .int 3 [.ref (eA E 0), .int (nI t), .int (nI 1), .int (nI v)] S (ρ (20 + 3 * t + 1)) (qr S 0 (upd ρ (20 + 3 * t + 1) (nI v))) := by
  refine qCI_of (by decide) (Nat.le_of_ble_eq_true rfl) (fun p e s m below meth c ls X hW hl => ?_)
  have hl : lv_has ls 5 [(0, .ref (eA E 0)), (1, .int (nI t)), (2, .int (nI 1)), (3, .int (nI v))] := hl
  have htl := hwf.tl
  have hwl := hwf.wl
  have hdl := hwf.dl
  refine lv_aload_n X.x X.b d_X_change_0 rfl (lv_at hl 0 rfl) ?_
  refine q_getr X hW qj3 rfl _ ds_X 0 (by decide) mw_183 rfl (c1 := cB 0) rfl d_X_change_1 ?_
  refine lv_iload_n X.x X.b d_X_change_4 rfl (lv_at hl 1 rfl) ?_
  refine q_cvi X (c_Cm_hasThing l E 0 (by decide) S ρ (by rw [hρ]) hwf (nI t)) hW (q_recv X hW (ds_cm (k := 0) (by decide)) rfl) ok_Cm_hasThing mw_244 ⟨by decide, by decide⟩ (As := [.int (nI t)]) rfl rfl (Nat.le_of_ble_eq_true rfl) (lv := [(0, .ref (eA E 0)), (1, .int (nI t)), (2, .int (nI 1)), (3, .int (nI v))]) hl ⟨Nat.le_refl 0, Nat.le_refl 0⟩ d_X_change_5 (fun H locs hW => ?_)
  refine lv_if_eq (tgt := 33) X.x X.b d_X_change_8 (by decide) (fun c8 => ?_) (fun c8 => ?_)
  · have c8 := b2i_e c8
    have c8 := mt (isT_i hwf (by omega)).mpr c8
    omega
  · have c8 := b2i_n c8
    have c8 := (isT_i hwf (by omega)).mp c8
    refine lv_iload_n X.x X.b d_X_change_11 rfl (lv_at hl 2 rfl) ?_
    refine lv_iconst (v := nI 0) X.x X.b d_X_change_12 (by decide) ?_
    refine lv_iconst (v := nI 2) X.x X.b d_X_change_13 (by decide) ?_
    refine q_csi X (c_X_within l E S (nI 1) (nI 0) (nI 2)) hW ok_X_within mw_209 ⟨by decide, by decide⟩ (As := [.int (nI 1), .int (nI 0), .int (nI 2)]) rfl rfl (Nat.le_of_ble_eq_true rfl) (lv := [(0, .ref (eA E 0)), (1, .int (nI t)), (2, .int (nI 1)), (3, .int (nI v))]) hl ⟨Nat.le_refl 0, Nat.le_refl 0⟩ d_X_change_14 (fun H locs hW => ?_)
    refine lv_if_eq (tgt := 33) X.x X.b d_X_change_17 (by decide) (fun c17 => ?_) (fun c17 => ?_)
    · have c17 := b2i_e c17
      have c17 := mt (inR_i (by omega) (by decide)).mpr c17
      omega
    · have c17 := b2i_n c17
      have c17 := (inR_i (by omega) (by decide)).mp c17
      refine lv_iload_n X.x X.b d_X_change_20 rfl (lv_at hl 3 rfl) ?_
      refine lv_iconst (v := nI 0) X.x X.b d_X_change_21 (by decide) ?_
      refine q_gets X hW X.Z.1 mw_225 d_X_change_22 ?_
      refine lv_iload_n X.x X.b d_X_change_25 rfl (lv_at hl 2 rfl) ?_
      refine g_zald X hW X.Z.1 (q_in (show 1 < 3 by omega) (by decide)) (q_tn (by omega) (Nat.zero_add _)) d_X_change_26 ?_
      rw [show zt0.getD 1 0 = nI 15 from by decide]
      refine q_csi X (c_X_within l E S (nI v) (nI 0) (nI 15)) hW ok_X_within mw_209 ⟨by decide, by decide⟩ (As := [.int (nI v), .int (nI 0), .int (nI 15)]) rfl rfl (Nat.le_of_ble_eq_true rfl) (lv := [(0, .ref (eA E 0)), (1, .int (nI t)), (2, .int (nI 1)), (3, .int (nI v))]) hl ⟨Nat.le_refl 0, Nat.le_refl 0⟩ d_X_change_27 (fun H locs hW => ?_)
      refine lv_if_ne (tgt := 40) X.x X.b d_X_change_30 (by decide) (fun c30 => ?_) (fun c30 => ?_)
      · have c30 := b2i_n c30
        have c30 := (inR_i (by omega) (by decide)).mp c30
        refine lv_aload_n X.x X.b d_X_change_40 rfl (lv_at hl 0 rfl) ?_
        refine q_getr X hW qj3 rfl _ ds_X 0 (by decide) mw_183 rfl (c1 := cB 0) rfl d_X_change_41 ?_
        refine q_getr X hW qj0 rfl _ (ds_cm (k := 0) (by decide)) 1 (by decide) mw_103 rfl (c1 := cB 0 + 2) rfl d_X_change_44 ?_
        refine lv_iload_n X.x X.b d_X_change_47 rfl (lv_at hl 1 rfl) ?_
        refine g_th (show 0 < 3 by decide) X hW (show t < 8 by omega) d_X_change_48 ?_
        refine lv_iload_n X.x X.b d_X_change_49 rfl (lv_at hl 2 rfl) ?_
        refine g_ald X hW (ds_t (t := t) (k := 0) (by decide) (by omega)) (q_in (by omega) (by decide)) (p0 := 20 + 3 * t + 1) (q_tn (by omega) (by omega)) (v := ρ (20 + 3 * t + 1)) (by rw [hρ]) d_X_change_50 ?_
        refine lv_istore (lv' := [(4, .int (ρ (20 + 3 * t + 1))), (0, .ref (eA E 0)), (1, .int (nI t)), (2, .int (nI 1)), (3, .int (nI v))]) X.x X.b d_X_change_51 hl (by decide) rfl (fun ls hl => ?_)
        refine lv_aload_n X.x X.b d_X_change_53 rfl (lv_at hl 1 rfl) ?_
        refine q_getr X hW qj3 rfl _ ds_X 0 (by decide) mw_183 rfl (c1 := cB 0) rfl d_X_change_54 ?_
        refine q_getr X hW qj0 rfl _ (ds_cm (k := 0) (by decide)) 1 (by decide) mw_103 rfl (c1 := cB 0 + 2) rfl d_X_change_57 ?_
        refine lv_iload_n X.x X.b d_X_change_60 rfl (lv_at hl 2 rfl) ?_
        refine g_th (show 0 < 3 by decide) X hW (show t < 8 by omega) d_X_change_61 ?_
        refine lv_iload_n X.x X.b d_X_change_62 rfl (lv_at hl 3 rfl) ?_
        refine lv_iload_n X.x X.b d_X_change_63 rfl (lv_at hl 4 rfl) ?_
        refine g_ast X hW (ds_t (t := t) (k := 0) (by decide) (by omega)) (q_in (by omega) (by decide)) (p0 := 20 + 3 * t + 1) (q_tn (by omega) (by omega)) (ρ := ρ) (by rw [hρ]) d_X_change_64 (fun H locs hW => ?_)
        obtain ⟨r64, er64⟩ : ∃ z, z = upd ρ (20 + 3 * t + 1) (nI v) := ⟨_, rfl⟩
        rw [← er64] at hW
        refine lv_iload X.x X.b d_X_change_65 (lv_at hl 0 rfl) ?_
        exact q_zret X rfl hW ⟨rfl, by rw [er64]⟩ d_X_change_67
      · have c30 := b2i_e c30
        have c30 := mt (inR_i (by omega) (by decide)).mpr c30
        omega
set_option maxHeartbeats 1000000 in
set_option maxRecDepth 20000 in
theorem c_X_change_b1 (l : Launch) (E : QE) (S : QM) (ρ φ : Nat → Int32) (hρ : S 0 = ρ) (hφ : S 14 = φ) (hwf : WF ρ) (x z : Int32) (h : ¬ (isT ρ x ∧ inR 0 15 z)) : qCI E l y_X_change prog_1_method_7_code 5 .int 3 [.ref (eA E 0), .int x, .int (nI 1), .int z] S (-1000001) (qr S 14 (fnS φ 0)) := by
  refine qCI_of (by decide) (Nat.le_of_ble_eq_true rfl) (fun p e s m below meth c ls X hW hl => ?_)
  have hl : lv_has ls 5 [(0, .ref (eA E 0)), (1, .int x), (2, .int (nI 1)), (3, .int z)] := hl
  have htl := hwf.tl
  have hwl := hwf.wl
  have hdl := hwf.dl
  refine lv_aload_n X.x X.b d_X_change_0 rfl (lv_at hl 0 rfl) ?_
  refine q_getr X hW qj3 rfl _ ds_X 0 (by decide) mw_183 rfl (c1 := cB 0) rfl d_X_change_1 ?_
  refine lv_iload_n X.x X.b d_X_change_4 rfl (lv_at hl 1 rfl) ?_
  refine q_cvi X (c_Cm_hasThing l E 0 (by decide) S ρ (by rw [hρ]) hwf x) hW (q_recv X hW (ds_cm (k := 0) (by decide)) rfl) ok_Cm_hasThing mw_244 ⟨by decide, by decide⟩ (As := [.int x]) rfl rfl (Nat.le_of_ble_eq_true rfl) (lv := [(0, .ref (eA E 0)), (1, .int x), (2, .int (nI 1)), (3, .int z)]) hl ⟨Nat.le_refl 0, Nat.le_refl 0⟩ d_X_change_5 (fun H locs hW => ?_)
  refine lv_if_eq (tgt := 33) X.x X.b d_X_change_8 (by decide) (fun c8 => ?_) (fun c8 => ?_)
  · have c8 := b2i_e c8
    refine lv_aload_n X.x X.b d_X_change_33 rfl (lv_at hl 0 rfl) ?_
    refine lv_ldc (v := (-1000001)) X.x X.b X.ow (X.ts _ mw_212) d_X_change_34 ?_
    refine q_cvi X (c_X_told_0 l E S φ (by rw [hφ])) hW (q_recv X hW ds_X rfl) ok_X_told mw_213 ⟨by decide, by decide⟩ (As := [.int (-1000001)]) rfl rfl (Nat.le_of_ble_eq_true rfl) (lv := [(0, .ref (eA E 0)), (1, .int x), (2, .int (nI 1)), (3, .int z)]) hl ⟨Nat.le_refl 0, Nat.le_refl 0⟩ d_X_change_36 (fun H locs hW => ?_)
    have hW : qWH E (qr S 14 (fnS φ 0)) s H locs := hW
    exact q_zret X rfl hW ⟨rfl, rfl⟩ d_X_change_39
  · have c8 := b2i_n c8
    refine lv_iload_n X.x X.b d_X_change_11 rfl (lv_at hl 2 rfl) ?_
    refine lv_iconst (v := nI 0) X.x X.b d_X_change_12 (by decide) ?_
    refine lv_iconst (v := nI 2) X.x X.b d_X_change_13 (by decide) ?_
    refine q_csi X (c_X_within l E S (nI 1) (nI 0) (nI 2)) hW ok_X_within mw_209 ⟨by decide, by decide⟩ (As := [.int (nI 1), .int (nI 0), .int (nI 2)]) rfl rfl (Nat.le_of_ble_eq_true rfl) (lv := [(0, .ref (eA E 0)), (1, .int x), (2, .int (nI 1)), (3, .int z)]) hl ⟨Nat.le_refl 0, Nat.le_refl 0⟩ d_X_change_14 (fun H locs hW => ?_)
    refine lv_if_eq (tgt := 33) X.x X.b d_X_change_17 (by decide) (fun c17 => ?_) (fun c17 => ?_)
    · have c17 := b2i_e c17
      have c17 := mt (inR_i (by omega) (by decide)).mpr c17
      omega
    · have c17 := b2i_n c17
      have c17 := (inR_i (by omega) (by decide)).mp c17
      refine lv_iload_n X.x X.b d_X_change_20 rfl (lv_at hl 3 rfl) ?_
      refine lv_iconst (v := nI 0) X.x X.b d_X_change_21 (by decide) ?_
      refine q_gets X hW X.Z.1 mw_225 d_X_change_22 ?_
      refine lv_iload_n X.x X.b d_X_change_25 rfl (lv_at hl 2 rfl) ?_
      refine g_zald X hW X.Z.1 (q_in (show 1 < 3 by omega) (by decide)) (q_tn (by omega) (Nat.zero_add _)) d_X_change_26 ?_
      rw [show zt0.getD 1 0 = nI 15 from by decide]
      refine q_csi X (c_X_within l E S z (nI 0) (nI 15)) hW ok_X_within mw_209 ⟨by decide, by decide⟩ (As := [.int z, .int (nI 0), .int (nI 15)]) rfl rfl (Nat.le_of_ble_eq_true rfl) (lv := [(0, .ref (eA E 0)), (1, .int x), (2, .int (nI 1)), (3, .int z)]) hl ⟨Nat.le_refl 0, Nat.le_refl 0⟩ d_X_change_27 (fun H locs hW => ?_)
      refine lv_if_ne (tgt := 40) X.x X.b d_X_change_30 (by decide) (fun c30 => ?_) (fun c30 => ?_)
      · have c30 := b2i_n c30
        exact absurd ⟨c8, c30⟩ h
      · have c30 := b2i_e c30
        refine lv_aload_n X.x X.b d_X_change_33 rfl (lv_at hl 0 rfl) ?_
        refine lv_ldc (v := (-1000001)) X.x X.b X.ow (X.ts _ mw_212) d_X_change_34 ?_
        refine q_cvi X (c_X_told_0 l E S φ (by rw [hφ])) hW (q_recv X hW ds_X rfl) ok_X_told mw_213 ⟨by decide, by decide⟩ (As := [.int (-1000001)]) rfl rfl (Nat.le_of_ble_eq_true rfl) (lv := [(0, .ref (eA E 0)), (1, .int x), (2, .int (nI 1)), (3, .int z)]) hl ⟨Nat.le_refl 0, Nat.le_refl 0⟩ d_X_change_36 (fun H locs hW => ?_)
        have hW : qWH E (qr S 14 (fnS φ 0)) s H locs := hW
        exact q_zret X rfl hW ⟨rfl, rfl⟩ d_X_change_39
set_option maxHeartbeats 1000000 in
set_option maxRecDepth 20000 in
theorem c_X_change_2 (l : Launch) (E : QE) (S : QM) (ρ φ : Nat → Int32) (hρ : S 0 = ρ) (hφ : S 14 = φ) (hwf : WF ρ) (t : Nat) (ht : t < nT ρ) (v : Nat) (hv : v ≤ 9999) : qCI E l y_X_change prog_1_method_7_code 5 .int 3 [.ref (eA E 0), .int (nI t), .int (nI 2), .int (nI v)] S (ρ (20 + 3 * t + 2)) (qr S 0 (upd ρ (20 + 3 * t + 2) (nI v))) := by
  refine qCI_of (by decide) (Nat.le_of_ble_eq_true rfl) (fun p e s m below meth c ls X hW hl => ?_)
  have hl : lv_has ls 5 [(0, .ref (eA E 0)), (1, .int (nI t)), (2, .int (nI 2)), (3, .int (nI v))] := hl
  have htl := hwf.tl
  have hwl := hwf.wl
  have hdl := hwf.dl
  refine lv_aload_n X.x X.b d_X_change_0 rfl (lv_at hl 0 rfl) ?_
  refine q_getr X hW qj3 rfl _ ds_X 0 (by decide) mw_183 rfl (c1 := cB 0) rfl d_X_change_1 ?_
  refine lv_iload_n X.x X.b d_X_change_4 rfl (lv_at hl 1 rfl) ?_
  refine q_cvi X (c_Cm_hasThing l E 0 (by decide) S ρ (by rw [hρ]) hwf (nI t)) hW (q_recv X hW (ds_cm (k := 0) (by decide)) rfl) ok_Cm_hasThing mw_244 ⟨by decide, by decide⟩ (As := [.int (nI t)]) rfl rfl (Nat.le_of_ble_eq_true rfl) (lv := [(0, .ref (eA E 0)), (1, .int (nI t)), (2, .int (nI 2)), (3, .int (nI v))]) hl ⟨Nat.le_refl 0, Nat.le_refl 0⟩ d_X_change_5 (fun H locs hW => ?_)
  refine lv_if_eq (tgt := 33) X.x X.b d_X_change_8 (by decide) (fun c8 => ?_) (fun c8 => ?_)
  · have c8 := b2i_e c8
    have c8 := mt (isT_i hwf (by omega)).mpr c8
    omega
  · have c8 := b2i_n c8
    have c8 := (isT_i hwf (by omega)).mp c8
    refine lv_iload_n X.x X.b d_X_change_11 rfl (lv_at hl 2 rfl) ?_
    refine lv_iconst (v := nI 0) X.x X.b d_X_change_12 (by decide) ?_
    refine lv_iconst (v := nI 2) X.x X.b d_X_change_13 (by decide) ?_
    refine q_csi X (c_X_within l E S (nI 2) (nI 0) (nI 2)) hW ok_X_within mw_209 ⟨by decide, by decide⟩ (As := [.int (nI 2), .int (nI 0), .int (nI 2)]) rfl rfl (Nat.le_of_ble_eq_true rfl) (lv := [(0, .ref (eA E 0)), (1, .int (nI t)), (2, .int (nI 2)), (3, .int (nI v))]) hl ⟨Nat.le_refl 0, Nat.le_refl 0⟩ d_X_change_14 (fun H locs hW => ?_)
    refine lv_if_eq (tgt := 33) X.x X.b d_X_change_17 (by decide) (fun c17 => ?_) (fun c17 => ?_)
    · have c17 := b2i_e c17
      have c17 := mt (inR_i (by omega) (by decide)).mpr c17
      omega
    · have c17 := b2i_n c17
      have c17 := (inR_i (by omega) (by decide)).mp c17
      refine lv_iload_n X.x X.b d_X_change_20 rfl (lv_at hl 3 rfl) ?_
      refine lv_iconst (v := nI 0) X.x X.b d_X_change_21 (by decide) ?_
      refine q_gets X hW X.Z.1 mw_225 d_X_change_22 ?_
      refine lv_iload_n X.x X.b d_X_change_25 rfl (lv_at hl 2 rfl) ?_
      refine g_zald X hW X.Z.1 (q_in (show 2 < 3 by omega) (by decide)) (q_tn (by omega) (Nat.zero_add _)) d_X_change_26 ?_
      rw [show zt0.getD 2 0 = nI 9999 from by decide]
      refine q_csi X (c_X_within l E S (nI v) (nI 0) (nI 9999)) hW ok_X_within mw_209 ⟨by decide, by decide⟩ (As := [.int (nI v), .int (nI 0), .int (nI 9999)]) rfl rfl (Nat.le_of_ble_eq_true rfl) (lv := [(0, .ref (eA E 0)), (1, .int (nI t)), (2, .int (nI 2)), (3, .int (nI v))]) hl ⟨Nat.le_refl 0, Nat.le_refl 0⟩ d_X_change_27 (fun H locs hW => ?_)
      refine lv_if_ne (tgt := 40) X.x X.b d_X_change_30 (by decide) (fun c30 => ?_) (fun c30 => ?_)
      · have c30 := b2i_n c30
        have c30 := (inR_i (by omega) (by decide)).mp c30
        refine lv_aload_n X.x X.b d_X_change_40 rfl (lv_at hl 0 rfl) ?_
        refine q_getr X hW qj3 rfl _ ds_X 0 (by decide) mw_183 rfl (c1 := cB 0) rfl d_X_change_41 ?_
        refine q_getr X hW qj0 rfl _ (ds_cm (k := 0) (by decide)) 1 (by decide) mw_103 rfl (c1 := cB 0 + 2) rfl d_X_change_44 ?_
        refine lv_iload_n X.x X.b d_X_change_47 rfl (lv_at hl 1 rfl) ?_
        refine g_th (show 0 < 3 by decide) X hW (show t < 8 by omega) d_X_change_48 ?_
        refine lv_iload_n X.x X.b d_X_change_49 rfl (lv_at hl 2 rfl) ?_
        refine g_ald X hW (ds_t (t := t) (k := 0) (by decide) (by omega)) (q_in (by omega) (by decide)) (p0 := 20 + 3 * t + 2) (q_tn (by omega) (by omega)) (v := ρ (20 + 3 * t + 2)) (by rw [hρ]) d_X_change_50 ?_
        refine lv_istore (lv' := [(4, .int (ρ (20 + 3 * t + 2))), (0, .ref (eA E 0)), (1, .int (nI t)), (2, .int (nI 2)), (3, .int (nI v))]) X.x X.b d_X_change_51 hl (by decide) rfl (fun ls hl => ?_)
        refine lv_aload_n X.x X.b d_X_change_53 rfl (lv_at hl 1 rfl) ?_
        refine q_getr X hW qj3 rfl _ ds_X 0 (by decide) mw_183 rfl (c1 := cB 0) rfl d_X_change_54 ?_
        refine q_getr X hW qj0 rfl _ (ds_cm (k := 0) (by decide)) 1 (by decide) mw_103 rfl (c1 := cB 0 + 2) rfl d_X_change_57 ?_
        refine lv_iload_n X.x X.b d_X_change_60 rfl (lv_at hl 2 rfl) ?_
        refine g_th (show 0 < 3 by decide) X hW (show t < 8 by omega) d_X_change_61 ?_
        refine lv_iload_n X.x X.b d_X_change_62 rfl (lv_at hl 3 rfl) ?_
        refine lv_iload_n X.x X.b d_X_change_63 rfl (lv_at hl 4 rfl) ?_
        refine g_ast X hW (ds_t (t := t) (k := 0) (by decide) (by omega)) (q_in (by omega) (by decide)) (p0 := 20 + 3 * t + 2) (q_tn (by omega) (by omega)) (ρ := ρ) (by rw [hρ]) d_X_change_64 (fun H locs hW => ?_)
        obtain ⟨r64, er64⟩ : ∃ z, z = upd ρ (20 + 3 * t + 2) (nI v) := ⟨_, rfl⟩
        rw [← er64] at hW
        refine lv_iload X.x X.b d_X_change_65 (lv_at hl 0 rfl) ?_
        exact q_zret X rfl hW ⟨rfl, by rw [er64]⟩ d_X_change_67
      · have c30 := b2i_e c30
        have c30 := mt (inR_i (by omega) (by decide)).mpr c30
        omega
set_option maxHeartbeats 1000000 in
set_option maxRecDepth 20000 in
theorem c_X_change_b2 (l : Launch) (E : QE) (S : QM) (ρ φ : Nat → Int32) (hρ : S 0 = ρ) (hφ : S 14 = φ) (hwf : WF ρ) (x z : Int32) (h : ¬ (isT ρ x ∧ inR 0 9999 z)) : qCI E l y_X_change prog_1_method_7_code 5 .int 3 [.ref (eA E 0), .int x, .int (nI 2), .int z] S (-1000001) (qr S 14 (fnS φ 0)) := by
  refine qCI_of (by decide) (Nat.le_of_ble_eq_true rfl) (fun p e s m below meth c ls X hW hl => ?_)
  have hl : lv_has ls 5 [(0, .ref (eA E 0)), (1, .int x), (2, .int (nI 2)), (3, .int z)] := hl
  have htl := hwf.tl
  have hwl := hwf.wl
  have hdl := hwf.dl
  refine lv_aload_n X.x X.b d_X_change_0 rfl (lv_at hl 0 rfl) ?_
  refine q_getr X hW qj3 rfl _ ds_X 0 (by decide) mw_183 rfl (c1 := cB 0) rfl d_X_change_1 ?_
  refine lv_iload_n X.x X.b d_X_change_4 rfl (lv_at hl 1 rfl) ?_
  refine q_cvi X (c_Cm_hasThing l E 0 (by decide) S ρ (by rw [hρ]) hwf x) hW (q_recv X hW (ds_cm (k := 0) (by decide)) rfl) ok_Cm_hasThing mw_244 ⟨by decide, by decide⟩ (As := [.int x]) rfl rfl (Nat.le_of_ble_eq_true rfl) (lv := [(0, .ref (eA E 0)), (1, .int x), (2, .int (nI 2)), (3, .int z)]) hl ⟨Nat.le_refl 0, Nat.le_refl 0⟩ d_X_change_5 (fun H locs hW => ?_)
  refine lv_if_eq (tgt := 33) X.x X.b d_X_change_8 (by decide) (fun c8 => ?_) (fun c8 => ?_)
  · have c8 := b2i_e c8
    refine lv_aload_n X.x X.b d_X_change_33 rfl (lv_at hl 0 rfl) ?_
    refine lv_ldc (v := (-1000001)) X.x X.b X.ow (X.ts _ mw_212) d_X_change_34 ?_
    refine q_cvi X (c_X_told_0 l E S φ (by rw [hφ])) hW (q_recv X hW ds_X rfl) ok_X_told mw_213 ⟨by decide, by decide⟩ (As := [.int (-1000001)]) rfl rfl (Nat.le_of_ble_eq_true rfl) (lv := [(0, .ref (eA E 0)), (1, .int x), (2, .int (nI 2)), (3, .int z)]) hl ⟨Nat.le_refl 0, Nat.le_refl 0⟩ d_X_change_36 (fun H locs hW => ?_)
    have hW : qWH E (qr S 14 (fnS φ 0)) s H locs := hW
    exact q_zret X rfl hW ⟨rfl, rfl⟩ d_X_change_39
  · have c8 := b2i_n c8
    refine lv_iload_n X.x X.b d_X_change_11 rfl (lv_at hl 2 rfl) ?_
    refine lv_iconst (v := nI 0) X.x X.b d_X_change_12 (by decide) ?_
    refine lv_iconst (v := nI 2) X.x X.b d_X_change_13 (by decide) ?_
    refine q_csi X (c_X_within l E S (nI 2) (nI 0) (nI 2)) hW ok_X_within mw_209 ⟨by decide, by decide⟩ (As := [.int (nI 2), .int (nI 0), .int (nI 2)]) rfl rfl (Nat.le_of_ble_eq_true rfl) (lv := [(0, .ref (eA E 0)), (1, .int x), (2, .int (nI 2)), (3, .int z)]) hl ⟨Nat.le_refl 0, Nat.le_refl 0⟩ d_X_change_14 (fun H locs hW => ?_)
    refine lv_if_eq (tgt := 33) X.x X.b d_X_change_17 (by decide) (fun c17 => ?_) (fun c17 => ?_)
    · have c17 := b2i_e c17
      have c17 := mt (inR_i (by omega) (by decide)).mpr c17
      omega
    · have c17 := b2i_n c17
      have c17 := (inR_i (by omega) (by decide)).mp c17
      refine lv_iload_n X.x X.b d_X_change_20 rfl (lv_at hl 3 rfl) ?_
      refine lv_iconst (v := nI 0) X.x X.b d_X_change_21 (by decide) ?_
      refine q_gets X hW X.Z.1 mw_225 d_X_change_22 ?_
      refine lv_iload_n X.x X.b d_X_change_25 rfl (lv_at hl 2 rfl) ?_
      refine g_zald X hW X.Z.1 (q_in (show 2 < 3 by omega) (by decide)) (q_tn (by omega) (Nat.zero_add _)) d_X_change_26 ?_
      rw [show zt0.getD 2 0 = nI 9999 from by decide]
      refine q_csi X (c_X_within l E S z (nI 0) (nI 9999)) hW ok_X_within mw_209 ⟨by decide, by decide⟩ (As := [.int z, .int (nI 0), .int (nI 9999)]) rfl rfl (Nat.le_of_ble_eq_true rfl) (lv := [(0, .ref (eA E 0)), (1, .int x), (2, .int (nI 2)), (3, .int z)]) hl ⟨Nat.le_refl 0, Nat.le_refl 0⟩ d_X_change_27 (fun H locs hW => ?_)
      refine lv_if_ne (tgt := 40) X.x X.b d_X_change_30 (by decide) (fun c30 => ?_) (fun c30 => ?_)
      · have c30 := b2i_n c30
        exact absurd ⟨c8, c30⟩ h
      · have c30 := b2i_e c30
        refine lv_aload_n X.x X.b d_X_change_33 rfl (lv_at hl 0 rfl) ?_
        refine lv_ldc (v := (-1000001)) X.x X.b X.ow (X.ts _ mw_212) d_X_change_34 ?_
        refine q_cvi X (c_X_told_0 l E S φ (by rw [hφ])) hW (q_recv X hW ds_X rfl) ok_X_told mw_213 ⟨by decide, by decide⟩ (As := [.int (-1000001)]) rfl rfl (Nat.le_of_ble_eq_true rfl) (lv := [(0, .ref (eA E 0)), (1, .int x), (2, .int (nI 2)), (3, .int z)]) hl ⟨Nat.le_refl 0, Nat.le_refl 0⟩ d_X_change_36 (fun H locs hW => ?_)
        have hW : qWH E (qr S 14 (fnS φ 0)) s H locs := hW
        exact q_zret X rfl hW ⟨rfl, rfl⟩ d_X_change_39
set_option maxHeartbeats 1000000 in
set_option maxRecDepth 20000 in
theorem c_X_change_b (l : Launch) (E : QE) (S : QM) (ρ φ : Nat → Int32) (hρ : S 0 = ρ) (hφ : S 14 = φ) (hwf : WF ρ) (x y z : Int32) (h : ¬ (isT ρ x ∧ inR 0 2 y)) : qCI E l y_X_change prog_1_method_7_code 5 .int 3 [.ref (eA E 0), .int x, .int y, .int z] S (-1000001) (qr S 14 (fnS φ 0)) := by
  refine qCI_of (by decide) (Nat.le_of_ble_eq_true rfl) (fun p e s m below meth c ls X hW hl => ?_)
  have hl : lv_has ls 5 [(0, .ref (eA E 0)), (1, .int x), (2, .int y), (3, .int z)] := hl
  have htl := hwf.tl
  have hwl := hwf.wl
  have hdl := hwf.dl
  refine lv_aload_n X.x X.b d_X_change_0 rfl (lv_at hl 0 rfl) ?_
  refine q_getr X hW qj3 rfl _ ds_X 0 (by decide) mw_183 rfl (c1 := cB 0) rfl d_X_change_1 ?_
  refine lv_iload_n X.x X.b d_X_change_4 rfl (lv_at hl 1 rfl) ?_
  refine q_cvi X (c_Cm_hasThing l E 0 (by decide) S ρ (by rw [hρ]) hwf x) hW (q_recv X hW (ds_cm (k := 0) (by decide)) rfl) ok_Cm_hasThing mw_244 ⟨by decide, by decide⟩ (As := [.int x]) rfl rfl (Nat.le_of_ble_eq_true rfl) (lv := [(0, .ref (eA E 0)), (1, .int x), (2, .int y), (3, .int z)]) hl ⟨Nat.le_refl 0, Nat.le_refl 0⟩ d_X_change_5 (fun H locs hW => ?_)
  refine lv_if_eq (tgt := 33) X.x X.b d_X_change_8 (by decide) (fun c8 => ?_) (fun c8 => ?_)
  · have c8 := b2i_e c8
    refine lv_aload_n X.x X.b d_X_change_33 rfl (lv_at hl 0 rfl) ?_
    refine lv_ldc (v := (-1000001)) X.x X.b X.ow (X.ts _ mw_212) d_X_change_34 ?_
    refine q_cvi X (c_X_told_0 l E S φ (by rw [hφ])) hW (q_recv X hW ds_X rfl) ok_X_told mw_213 ⟨by decide, by decide⟩ (As := [.int (-1000001)]) rfl rfl (Nat.le_of_ble_eq_true rfl) (lv := [(0, .ref (eA E 0)), (1, .int x), (2, .int y), (3, .int z)]) hl ⟨Nat.le_refl 0, Nat.le_refl 0⟩ d_X_change_36 (fun H locs hW => ?_)
    have hW : qWH E (qr S 14 (fnS φ 0)) s H locs := hW
    exact q_zret X rfl hW ⟨rfl, rfl⟩ d_X_change_39
  · have c8 := b2i_n c8
    refine lv_iload_n X.x X.b d_X_change_11 rfl (lv_at hl 2 rfl) ?_
    refine lv_iconst (v := nI 0) X.x X.b d_X_change_12 (by decide) ?_
    refine lv_iconst (v := nI 2) X.x X.b d_X_change_13 (by decide) ?_
    refine q_csi X (c_X_within l E S y (nI 0) (nI 2)) hW ok_X_within mw_209 ⟨by decide, by decide⟩ (As := [.int y, .int (nI 0), .int (nI 2)]) rfl rfl (Nat.le_of_ble_eq_true rfl) (lv := [(0, .ref (eA E 0)), (1, .int x), (2, .int y), (3, .int z)]) hl ⟨Nat.le_refl 0, Nat.le_refl 0⟩ d_X_change_14 (fun H locs hW => ?_)
    refine lv_if_eq (tgt := 33) X.x X.b d_X_change_17 (by decide) (fun c17 => ?_) (fun c17 => ?_)
    · have c17 := b2i_e c17
      refine lv_aload_n X.x X.b d_X_change_33 rfl (lv_at hl 0 rfl) ?_
      refine lv_ldc (v := (-1000001)) X.x X.b X.ow (X.ts _ mw_212) d_X_change_34 ?_
      refine q_cvi X (c_X_told_0 l E S φ (by rw [hφ])) hW (q_recv X hW ds_X rfl) ok_X_told mw_213 ⟨by decide, by decide⟩ (As := [.int (-1000001)]) rfl rfl (Nat.le_of_ble_eq_true rfl) (lv := [(0, .ref (eA E 0)), (1, .int x), (2, .int y), (3, .int z)]) hl ⟨Nat.le_refl 0, Nat.le_refl 0⟩ d_X_change_36 (fun H locs hW => ?_)
      have hW : qWH E (qr S 14 (fnS φ 0)) s H locs := hW
      exact q_zret X rfl hW ⟨rfl, rfl⟩ d_X_change_39
    · have c17 := b2i_n c17
      exact absurd ⟨c8, c17⟩ h
set_option maxHeartbeats 1000000 in
set_option maxRecDepth 20000 in
theorem c_X_ofWalker_g (l : Launch) (E : QE) (S : QM) (ρ φ : Nat → Int32) (hρ : S 0 = ρ) (hφ : S 14 = φ) (hwf : WF ρ) (w : Nat) (hw : w < nW ρ) (f : Nat) (hf : f ≤ 5) : qCI E l y_X_ofWalker prog_1_method_8_code 3 .int 3 [.ref (eA E 0), .int (nI w), .int (nI f)] S (ρ (44 + 6 * w + f)) S := by
  refine qCI_of (by decide) (Nat.le_of_ble_eq_true rfl) (fun p e s m below meth c ls X hW hl => ?_)
  have hl : lv_has ls 3 [(0, .ref (eA E 0)), (1, .int (nI w)), (2, .int (nI f))] := hl
  have htl := hwf.tl
  have hwl := hwf.wl
  have hdl := hwf.dl
  refine lv_aload_n X.x X.b d_X_ofWalker_0 rfl (lv_at hl 0 rfl) ?_
  refine q_getr X hW qj3 rfl _ ds_X 0 (by decide) mw_183 rfl (c1 := cB 0) rfl d_X_ofWalker_1 ?_
  refine lv_iload_n X.x X.b d_X_ofWalker_4 rfl (lv_at hl 1 rfl) ?_
  refine q_cvi X (c_Cm_hasWalker l E 0 (by decide) S ρ (by rw [hρ]) hwf (nI w)) hW (q_recv X hW (ds_cm (k := 0) (by decide)) rfl) ok_Cm_hasWalker mw_265 ⟨by decide, by decide⟩ (As := [.int (nI w)]) rfl rfl (Nat.le_of_ble_eq_true rfl) (lv := [(0, .ref (eA E 0)), (1, .int (nI w)), (2, .int (nI f))]) hl ⟨Nat.le_refl 0, Nat.le_refl 0⟩ d_X_ofWalker_5 (fun H locs hW => ?_)
  refine lv_if_eq (tgt := 20) X.x X.b d_X_ofWalker_8 (by decide) (fun c8 => ?_) (fun c8 => ?_)
  · have c8 := b2i_e c8
    have c8 := mt (isW_i hwf (by omega)).mpr c8
    omega
  · have c8 := b2i_n c8
    have c8 := (isW_i hwf (by omega)).mp c8
    refine lv_iload_n X.x X.b d_X_ofWalker_11 rfl (lv_at hl 2 rfl) ?_
    refine lv_iconst (v := nI 0) X.x X.b d_X_ofWalker_12 (by decide) ?_
    refine lv_iconst (v := nI 5) X.x X.b d_X_ofWalker_13 (by decide) ?_
    refine q_csi X (c_X_within l E S (nI f) (nI 0) (nI 5)) hW ok_X_within mw_209 ⟨by decide, by decide⟩ (As := [.int (nI f), .int (nI 0), .int (nI 5)]) rfl rfl (Nat.le_of_ble_eq_true rfl) (lv := [(0, .ref (eA E 0)), (1, .int (nI w)), (2, .int (nI f))]) hl ⟨Nat.le_refl 0, Nat.le_refl 0⟩ d_X_ofWalker_14 (fun H locs hW => ?_)
    refine lv_if_ne (tgt := 27) X.x X.b d_X_ofWalker_17 (by decide) (fun c17 => ?_) (fun c17 => ?_)
    · have c17 := b2i_n c17
      have c17 := (inR_i (by omega) (by decide)).mp c17
      refine lv_aload_n X.x X.b d_X_ofWalker_27 rfl (lv_at hl 0 rfl) ?_
      refine q_getr X hW qj3 rfl _ ds_X 0 (by decide) mw_183 rfl (c1 := cB 0) rfl d_X_ofWalker_28 ?_
      refine q_getr X hW qj0 rfl _ (ds_cm (k := 0) (by decide)) 2 (by decide) mw_106 rfl (c1 := cB 0 + 3) rfl d_X_ofWalker_31 ?_
      refine lv_iload_n X.x X.b d_X_ofWalker_34 rfl (lv_at hl 1 rfl) ?_
      refine g_wk (show 0 < 3 by decide) X hW (show w < 6 by omega) d_X_ofWalker_35 ?_
      refine lv_iload_n X.x X.b d_X_ofWalker_36 rfl (lv_at hl 2 rfl) ?_
      refine g_ald X hW (ds_w (w := w) (k := 0) (by decide) (by omega)) (q_in (by omega) (by decide)) (p0 := 44 + 6 * w + f) (q_tn (by omega) (by omega)) (v := ρ (44 + 6 * w + f)) (by rw [hρ]) d_X_ofWalker_37 ?_
      exact q_zret X rfl hW ⟨rfl, rfl⟩ d_X_ofWalker_38
    · have c17 := b2i_e c17
      have c17 := mt (inR_i (by omega) (by decide)).mpr c17
      omega
set_option maxHeartbeats 1000000 in
set_option maxRecDepth 20000 in
theorem c_X_ofWalker_b (l : Launch) (E : QE) (S : QM) (ρ φ : Nat → Int32) (hρ : S 0 = ρ) (hφ : S 14 = φ) (hwf : WF ρ) (x y : Int32) (h : ¬ (isW ρ x ∧ inR 0 5 y)) : qCI E l y_X_ofWalker prog_1_method_8_code 3 .int 3 [.ref (eA E 0), .int x, .int y] S (-1000001) (qr S 14 (fnS φ 0)) := by
  refine qCI_of (by decide) (Nat.le_of_ble_eq_true rfl) (fun p e s m below meth c ls X hW hl => ?_)
  have hl : lv_has ls 3 [(0, .ref (eA E 0)), (1, .int x), (2, .int y)] := hl
  have htl := hwf.tl
  have hwl := hwf.wl
  have hdl := hwf.dl
  refine lv_aload_n X.x X.b d_X_ofWalker_0 rfl (lv_at hl 0 rfl) ?_
  refine q_getr X hW qj3 rfl _ ds_X 0 (by decide) mw_183 rfl (c1 := cB 0) rfl d_X_ofWalker_1 ?_
  refine lv_iload_n X.x X.b d_X_ofWalker_4 rfl (lv_at hl 1 rfl) ?_
  refine q_cvi X (c_Cm_hasWalker l E 0 (by decide) S ρ (by rw [hρ]) hwf x) hW (q_recv X hW (ds_cm (k := 0) (by decide)) rfl) ok_Cm_hasWalker mw_265 ⟨by decide, by decide⟩ (As := [.int x]) rfl rfl (Nat.le_of_ble_eq_true rfl) (lv := [(0, .ref (eA E 0)), (1, .int x), (2, .int y)]) hl ⟨Nat.le_refl 0, Nat.le_refl 0⟩ d_X_ofWalker_5 (fun H locs hW => ?_)
  refine lv_if_eq (tgt := 20) X.x X.b d_X_ofWalker_8 (by decide) (fun c8 => ?_) (fun c8 => ?_)
  · have c8 := b2i_e c8
    refine lv_aload_n X.x X.b d_X_ofWalker_20 rfl (lv_at hl 0 rfl) ?_
    refine lv_ldc (v := (-1000001)) X.x X.b X.ow (X.ts _ mw_212) d_X_ofWalker_21 ?_
    refine q_cvi X (c_X_told_0 l E S φ (by rw [hφ])) hW (q_recv X hW ds_X rfl) ok_X_told mw_213 ⟨by decide, by decide⟩ (As := [.int (-1000001)]) rfl rfl (Nat.le_of_ble_eq_true rfl) (lv := [(0, .ref (eA E 0)), (1, .int x), (2, .int y)]) hl ⟨Nat.le_refl 0, Nat.le_refl 0⟩ d_X_ofWalker_23 (fun H locs hW => ?_)
    have hW : qWH E (qr S 14 (fnS φ 0)) s H locs := hW
    exact q_zret X rfl hW ⟨rfl, rfl⟩ d_X_ofWalker_26
  · have c8 := b2i_n c8
    refine lv_iload_n X.x X.b d_X_ofWalker_11 rfl (lv_at hl 2 rfl) ?_
    refine lv_iconst (v := nI 0) X.x X.b d_X_ofWalker_12 (by decide) ?_
    refine lv_iconst (v := nI 5) X.x X.b d_X_ofWalker_13 (by decide) ?_
    refine q_csi X (c_X_within l E S y (nI 0) (nI 5)) hW ok_X_within mw_209 ⟨by decide, by decide⟩ (As := [.int y, .int (nI 0), .int (nI 5)]) rfl rfl (Nat.le_of_ble_eq_true rfl) (lv := [(0, .ref (eA E 0)), (1, .int x), (2, .int y)]) hl ⟨Nat.le_refl 0, Nat.le_refl 0⟩ d_X_ofWalker_14 (fun H locs hW => ?_)
    refine lv_if_ne (tgt := 27) X.x X.b d_X_ofWalker_17 (by decide) (fun c17 => ?_) (fun c17 => ?_)
    · have c17 := b2i_n c17
      exact absurd ⟨c8, c17⟩ h
    · have c17 := b2i_e c17
      refine lv_aload_n X.x X.b d_X_ofWalker_20 rfl (lv_at hl 0 rfl) ?_
      refine lv_ldc (v := (-1000001)) X.x X.b X.ow (X.ts _ mw_212) d_X_ofWalker_21 ?_
      refine q_cvi X (c_X_told_0 l E S φ (by rw [hφ])) hW (q_recv X hW ds_X rfl) ok_X_told mw_213 ⟨by decide, by decide⟩ (As := [.int (-1000001)]) rfl rfl (Nat.le_of_ble_eq_true rfl) (lv := [(0, .ref (eA E 0)), (1, .int x), (2, .int y)]) hl ⟨Nat.le_refl 0, Nat.le_refl 0⟩ d_X_ofWalker_23 (fun H locs hW => ?_)
      have hW : qWH E (qr S 14 (fnS φ 0)) s H locs := hW
      exact q_zret X rfl hW ⟨rfl, rfl⟩ d_X_ofWalker_26
set_option maxHeartbeats 1000000 in
set_option maxRecDepth 20000 in
theorem c_X_lead_0 (l : Launch) (E : QE) (S : QM) (ρ φ : Nat → Int32) (hρ : S 0 = ρ) (hφ : S 14 = φ) (hwf : WF ρ) (w : Nat) (hw : w < nW ρ) (v : Nat) (hv0 : 0 ≤ v) (hv : v ≤ 15) : qCI E l y_X_lead prog_1_method_9_code 5 .int 3 [.ref (eA E 0), .int (nI w), .int (nI 0), .int (nI v)] S (ρ (44 + 6 * w)) (qr S 0 (upd ρ (44 + 6 * w) (nI v))) := by
  refine qCI_of (by decide) (Nat.le_of_ble_eq_true rfl) (fun p e s m below meth c ls X hW hl => ?_)
  have hl : lv_has ls 5 [(0, .ref (eA E 0)), (1, .int (nI w)), (2, .int (nI 0)), (3, .int (nI v))] := hl
  have htl := hwf.tl
  have hwl := hwf.wl
  have hdl := hwf.dl
  refine lv_aload_n X.x X.b d_X_lead_0 rfl (lv_at hl 0 rfl) ?_
  refine q_getr X hW qj3 rfl _ ds_X 0 (by decide) mw_183 rfl (c1 := cB 0) rfl d_X_lead_1 ?_
  refine lv_iload_n X.x X.b d_X_lead_4 rfl (lv_at hl 1 rfl) ?_
  refine q_cvi X (c_Cm_hasWalker l E 0 (by decide) S ρ (by rw [hρ]) hwf (nI w)) hW (q_recv X hW (ds_cm (k := 0) (by decide)) rfl) ok_Cm_hasWalker mw_265 ⟨by decide, by decide⟩ (As := [.int (nI w)]) rfl rfl (Nat.le_of_ble_eq_true rfl) (lv := [(0, .ref (eA E 0)), (1, .int (nI w)), (2, .int (nI 0)), (3, .int (nI v))]) hl ⟨Nat.le_refl 0, Nat.le_refl 0⟩ d_X_lead_5 (fun H locs hW => ?_)
  refine lv_if_eq (tgt := 37) X.x X.b d_X_lead_8 (by decide) (fun c8 => ?_) (fun c8 => ?_)
  · have c8 := b2i_e c8
    have c8 := mt (isW_i hwf (by omega)).mpr c8
    omega
  · have c8 := b2i_n c8
    have c8 := (isW_i hwf (by omega)).mp c8
    refine lv_iload_n X.x X.b d_X_lead_11 rfl (lv_at hl 2 rfl) ?_
    refine lv_iconst (v := nI 0) X.x X.b d_X_lead_12 (by decide) ?_
    refine lv_iconst (v := nI 5) X.x X.b d_X_lead_13 (by decide) ?_
    refine q_csi X (c_X_within l E S (nI 0) (nI 0) (nI 5)) hW ok_X_within mw_209 ⟨by decide, by decide⟩ (As := [.int (nI 0), .int (nI 0), .int (nI 5)]) rfl rfl (Nat.le_of_ble_eq_true rfl) (lv := [(0, .ref (eA E 0)), (1, .int (nI w)), (2, .int (nI 0)), (3, .int (nI v))]) hl ⟨Nat.le_refl 0, Nat.le_refl 0⟩ d_X_lead_14 (fun H locs hW => ?_)
    refine lv_if_eq (tgt := 37) X.x X.b d_X_lead_17 (by decide) (fun c17 => ?_) (fun c17 => ?_)
    · have c17 := b2i_e c17
      have c17 := mt (inR_i (by omega) (by decide)).mpr c17
      omega
    · have c17 := b2i_n c17
      have c17 := (inR_i (by omega) (by decide)).mp c17
      refine lv_iload_n X.x X.b d_X_lead_20 rfl (lv_at hl 3 rfl) ?_
      refine q_gets X hW X.Z.2.1 mw_273 d_X_lead_21 ?_
      refine lv_iload_n X.x X.b d_X_lead_24 rfl (lv_at hl 2 rfl) ?_
      refine g_zald X hW X.Z.2.1 (q_in (show 0 < 6 by omega) (by decide)) (q_tn (by omega) (Nat.zero_add _)) d_X_lead_25 ?_
      rw [show zt1.getD 0 0 = nI 0 from by decide]
      refine q_gets X hW X.Z.2.2.1 mw_275 d_X_lead_26 ?_
      refine lv_iload_n X.x X.b d_X_lead_29 rfl (lv_at hl 2 rfl) ?_
      refine g_zald X hW X.Z.2.2.1 (q_in (show 0 < 6 by omega) (by decide)) (q_tn (by omega) (Nat.zero_add _)) d_X_lead_30 ?_
      rw [show zt2.getD 0 0 = nI 15 from by decide]
      refine q_csi X (c_X_within l E S (nI v) (nI 0) (nI 15)) hW ok_X_within mw_209 ⟨by decide, by decide⟩ (As := [.int (nI v), .int (nI 0), .int (nI 15)]) rfl rfl (Nat.le_of_ble_eq_true rfl) (lv := [(0, .ref (eA E 0)), (1, .int (nI w)), (2, .int (nI 0)), (3, .int (nI v))]) hl ⟨Nat.le_refl 0, Nat.le_refl 0⟩ d_X_lead_31 (fun H locs hW => ?_)
      refine lv_if_ne (tgt := 44) X.x X.b d_X_lead_34 (by decide) (fun c34 => ?_) (fun c34 => ?_)
      · have c34 := b2i_n c34
        have c34 := (inR_i (by omega) (by decide)).mp c34
        refine lv_aload_n X.x X.b d_X_lead_44 rfl (lv_at hl 0 rfl) ?_
        refine q_getr X hW qj3 rfl _ ds_X 0 (by decide) mw_183 rfl (c1 := cB 0) rfl d_X_lead_45 ?_
        refine q_getr X hW qj0 rfl _ (ds_cm (k := 0) (by decide)) 2 (by decide) mw_106 rfl (c1 := cB 0 + 3) rfl d_X_lead_48 ?_
        refine lv_iload_n X.x X.b d_X_lead_51 rfl (lv_at hl 1 rfl) ?_
        refine g_wk (show 0 < 3 by decide) X hW (show w < 6 by omega) d_X_lead_52 ?_
        refine lv_iload_n X.x X.b d_X_lead_53 rfl (lv_at hl 2 rfl) ?_
        refine g_ald X hW (ds_w (w := w) (k := 0) (by decide) (by omega)) (q_in (by omega) (by decide)) (p0 := 44 + 6 * w) (q_tn (by omega) (by omega)) (v := ρ (44 + 6 * w)) (by rw [hρ]) d_X_lead_54 ?_
        refine lv_istore (lv' := [(4, .int (ρ (44 + 6 * w))), (0, .ref (eA E 0)), (1, .int (nI w)), (2, .int (nI 0)), (3, .int (nI v))]) X.x X.b d_X_lead_55 hl (by decide) rfl (fun ls hl => ?_)
        refine lv_aload_n X.x X.b d_X_lead_57 rfl (lv_at hl 1 rfl) ?_
        refine q_getr X hW qj3 rfl _ ds_X 0 (by decide) mw_183 rfl (c1 := cB 0) rfl d_X_lead_58 ?_
        refine q_getr X hW qj0 rfl _ (ds_cm (k := 0) (by decide)) 2 (by decide) mw_106 rfl (c1 := cB 0 + 3) rfl d_X_lead_61 ?_
        refine lv_iload_n X.x X.b d_X_lead_64 rfl (lv_at hl 2 rfl) ?_
        refine g_wk (show 0 < 3 by decide) X hW (show w < 6 by omega) d_X_lead_65 ?_
        refine lv_iload_n X.x X.b d_X_lead_66 rfl (lv_at hl 3 rfl) ?_
        refine lv_iload_n X.x X.b d_X_lead_67 rfl (lv_at hl 4 rfl) ?_
        refine g_ast X hW (ds_w (w := w) (k := 0) (by decide) (by omega)) (q_in (by omega) (by decide)) (p0 := 44 + 6 * w) (q_tn (by omega) (by omega)) (ρ := ρ) (by rw [hρ]) d_X_lead_68 (fun H locs hW => ?_)
        obtain ⟨r68, er68⟩ : ∃ z, z = upd ρ (44 + 6 * w) (nI v) := ⟨_, rfl⟩
        rw [← er68] at hW
        refine lv_iload X.x X.b d_X_lead_69 (lv_at hl 0 rfl) ?_
        exact q_zret X rfl hW ⟨rfl, by rw [er68]⟩ d_X_lead_71
      · have c34 := b2i_e c34
        have c34 := mt (inR_i (by omega) (by decide)).mpr c34
        omega
set_option maxHeartbeats 1000000 in
set_option maxRecDepth 20000 in
theorem c_X_lead_b0 (l : Launch) (E : QE) (S : QM) (ρ φ : Nat → Int32) (hρ : S 0 = ρ) (hφ : S 14 = φ) (hwf : WF ρ) (x z : Int32) (h : ¬ (isW ρ x ∧ inR 0 15 z)) : qCI E l y_X_lead prog_1_method_9_code 5 .int 3 [.ref (eA E 0), .int x, .int (nI 0), .int z] S (-1000001) (qr S 14 (fnS φ 0)) := by
  refine qCI_of (by decide) (Nat.le_of_ble_eq_true rfl) (fun p e s m below meth c ls X hW hl => ?_)
  have hl : lv_has ls 5 [(0, .ref (eA E 0)), (1, .int x), (2, .int (nI 0)), (3, .int z)] := hl
  have htl := hwf.tl
  have hwl := hwf.wl
  have hdl := hwf.dl
  refine lv_aload_n X.x X.b d_X_lead_0 rfl (lv_at hl 0 rfl) ?_
  refine q_getr X hW qj3 rfl _ ds_X 0 (by decide) mw_183 rfl (c1 := cB 0) rfl d_X_lead_1 ?_
  refine lv_iload_n X.x X.b d_X_lead_4 rfl (lv_at hl 1 rfl) ?_
  refine q_cvi X (c_Cm_hasWalker l E 0 (by decide) S ρ (by rw [hρ]) hwf x) hW (q_recv X hW (ds_cm (k := 0) (by decide)) rfl) ok_Cm_hasWalker mw_265 ⟨by decide, by decide⟩ (As := [.int x]) rfl rfl (Nat.le_of_ble_eq_true rfl) (lv := [(0, .ref (eA E 0)), (1, .int x), (2, .int (nI 0)), (3, .int z)]) hl ⟨Nat.le_refl 0, Nat.le_refl 0⟩ d_X_lead_5 (fun H locs hW => ?_)
  refine lv_if_eq (tgt := 37) X.x X.b d_X_lead_8 (by decide) (fun c8 => ?_) (fun c8 => ?_)
  · have c8 := b2i_e c8
    refine lv_aload_n X.x X.b d_X_lead_37 rfl (lv_at hl 0 rfl) ?_
    refine lv_ldc (v := (-1000001)) X.x X.b X.ow (X.ts _ mw_212) d_X_lead_38 ?_
    refine q_cvi X (c_X_told_0 l E S φ (by rw [hφ])) hW (q_recv X hW ds_X rfl) ok_X_told mw_213 ⟨by decide, by decide⟩ (As := [.int (-1000001)]) rfl rfl (Nat.le_of_ble_eq_true rfl) (lv := [(0, .ref (eA E 0)), (1, .int x), (2, .int (nI 0)), (3, .int z)]) hl ⟨Nat.le_refl 0, Nat.le_refl 0⟩ d_X_lead_40 (fun H locs hW => ?_)
    have hW : qWH E (qr S 14 (fnS φ 0)) s H locs := hW
    exact q_zret X rfl hW ⟨rfl, rfl⟩ d_X_lead_43
  · have c8 := b2i_n c8
    refine lv_iload_n X.x X.b d_X_lead_11 rfl (lv_at hl 2 rfl) ?_
    refine lv_iconst (v := nI 0) X.x X.b d_X_lead_12 (by decide) ?_
    refine lv_iconst (v := nI 5) X.x X.b d_X_lead_13 (by decide) ?_
    refine q_csi X (c_X_within l E S (nI 0) (nI 0) (nI 5)) hW ok_X_within mw_209 ⟨by decide, by decide⟩ (As := [.int (nI 0), .int (nI 0), .int (nI 5)]) rfl rfl (Nat.le_of_ble_eq_true rfl) (lv := [(0, .ref (eA E 0)), (1, .int x), (2, .int (nI 0)), (3, .int z)]) hl ⟨Nat.le_refl 0, Nat.le_refl 0⟩ d_X_lead_14 (fun H locs hW => ?_)
    refine lv_if_eq (tgt := 37) X.x X.b d_X_lead_17 (by decide) (fun c17 => ?_) (fun c17 => ?_)
    · have c17 := b2i_e c17
      have c17 := mt (inR_i (by omega) (by decide)).mpr c17
      omega
    · have c17 := b2i_n c17
      have c17 := (inR_i (by omega) (by decide)).mp c17
      refine lv_iload_n X.x X.b d_X_lead_20 rfl (lv_at hl 3 rfl) ?_
      refine q_gets X hW X.Z.2.1 mw_273 d_X_lead_21 ?_
      refine lv_iload_n X.x X.b d_X_lead_24 rfl (lv_at hl 2 rfl) ?_
      refine g_zald X hW X.Z.2.1 (q_in (show 0 < 6 by omega) (by decide)) (q_tn (by omega) (Nat.zero_add _)) d_X_lead_25 ?_
      rw [show zt1.getD 0 0 = nI 0 from by decide]
      refine q_gets X hW X.Z.2.2.1 mw_275 d_X_lead_26 ?_
      refine lv_iload_n X.x X.b d_X_lead_29 rfl (lv_at hl 2 rfl) ?_
      refine g_zald X hW X.Z.2.2.1 (q_in (show 0 < 6 by omega) (by decide)) (q_tn (by omega) (Nat.zero_add _)) d_X_lead_30 ?_
      rw [show zt2.getD 0 0 = nI 15 from by decide]
      refine q_csi X (c_X_within l E S z (nI 0) (nI 15)) hW ok_X_within mw_209 ⟨by decide, by decide⟩ (As := [.int z, .int (nI 0), .int (nI 15)]) rfl rfl (Nat.le_of_ble_eq_true rfl) (lv := [(0, .ref (eA E 0)), (1, .int x), (2, .int (nI 0)), (3, .int z)]) hl ⟨Nat.le_refl 0, Nat.le_refl 0⟩ d_X_lead_31 (fun H locs hW => ?_)
      refine lv_if_ne (tgt := 44) X.x X.b d_X_lead_34 (by decide) (fun c34 => ?_) (fun c34 => ?_)
      · have c34 := b2i_n c34
        exact absurd ⟨c8, c34⟩ h
      · have c34 := b2i_e c34
        refine lv_aload_n X.x X.b d_X_lead_37 rfl (lv_at hl 0 rfl) ?_
        refine lv_ldc (v := (-1000001)) X.x X.b X.ow (X.ts _ mw_212) d_X_lead_38 ?_
        refine q_cvi X (c_X_told_0 l E S φ (by rw [hφ])) hW (q_recv X hW ds_X rfl) ok_X_told mw_213 ⟨by decide, by decide⟩ (As := [.int (-1000001)]) rfl rfl (Nat.le_of_ble_eq_true rfl) (lv := [(0, .ref (eA E 0)), (1, .int x), (2, .int (nI 0)), (3, .int z)]) hl ⟨Nat.le_refl 0, Nat.le_refl 0⟩ d_X_lead_40 (fun H locs hW => ?_)
        have hW : qWH E (qr S 14 (fnS φ 0)) s H locs := hW
        exact q_zret X rfl hW ⟨rfl, rfl⟩ d_X_lead_43
set_option maxHeartbeats 1000000 in
set_option maxRecDepth 20000 in
theorem c_X_lead_1 (l : Launch) (E : QE) (S : QM) (ρ φ : Nat → Int32) (hρ : S 0 = ρ) (hφ : S 14 = φ) (hwf : WF ρ) (w : Nat) (hw : w < nW ρ) (v : Nat) (hv0 : 0 ≤ v) (hv : v ≤ 7) : qCI E l y_X_lead prog_1_method_9_code 5 .int 3 [.ref (eA E 0), .int (nI w), .int (nI 1), .int (nI v)] S (ρ (44 + 6 * w + 1)) (qr S 0 (upd ρ (44 + 6 * w + 1) (nI v))) := by
  refine qCI_of (by decide) (Nat.le_of_ble_eq_true rfl) (fun p e s m below meth c ls X hW hl => ?_)
  have hl : lv_has ls 5 [(0, .ref (eA E 0)), (1, .int (nI w)), (2, .int (nI 1)), (3, .int (nI v))] := hl
  have htl := hwf.tl
  have hwl := hwf.wl
  have hdl := hwf.dl
  refine lv_aload_n X.x X.b d_X_lead_0 rfl (lv_at hl 0 rfl) ?_
  refine q_getr X hW qj3 rfl _ ds_X 0 (by decide) mw_183 rfl (c1 := cB 0) rfl d_X_lead_1 ?_
  refine lv_iload_n X.x X.b d_X_lead_4 rfl (lv_at hl 1 rfl) ?_
  refine q_cvi X (c_Cm_hasWalker l E 0 (by decide) S ρ (by rw [hρ]) hwf (nI w)) hW (q_recv X hW (ds_cm (k := 0) (by decide)) rfl) ok_Cm_hasWalker mw_265 ⟨by decide, by decide⟩ (As := [.int (nI w)]) rfl rfl (Nat.le_of_ble_eq_true rfl) (lv := [(0, .ref (eA E 0)), (1, .int (nI w)), (2, .int (nI 1)), (3, .int (nI v))]) hl ⟨Nat.le_refl 0, Nat.le_refl 0⟩ d_X_lead_5 (fun H locs hW => ?_)
  refine lv_if_eq (tgt := 37) X.x X.b d_X_lead_8 (by decide) (fun c8 => ?_) (fun c8 => ?_)
  · have c8 := b2i_e c8
    have c8 := mt (isW_i hwf (by omega)).mpr c8
    omega
  · have c8 := b2i_n c8
    have c8 := (isW_i hwf (by omega)).mp c8
    refine lv_iload_n X.x X.b d_X_lead_11 rfl (lv_at hl 2 rfl) ?_
    refine lv_iconst (v := nI 0) X.x X.b d_X_lead_12 (by decide) ?_
    refine lv_iconst (v := nI 5) X.x X.b d_X_lead_13 (by decide) ?_
    refine q_csi X (c_X_within l E S (nI 1) (nI 0) (nI 5)) hW ok_X_within mw_209 ⟨by decide, by decide⟩ (As := [.int (nI 1), .int (nI 0), .int (nI 5)]) rfl rfl (Nat.le_of_ble_eq_true rfl) (lv := [(0, .ref (eA E 0)), (1, .int (nI w)), (2, .int (nI 1)), (3, .int (nI v))]) hl ⟨Nat.le_refl 0, Nat.le_refl 0⟩ d_X_lead_14 (fun H locs hW => ?_)
    refine lv_if_eq (tgt := 37) X.x X.b d_X_lead_17 (by decide) (fun c17 => ?_) (fun c17 => ?_)
    · have c17 := b2i_e c17
      have c17 := mt (inR_i (by omega) (by decide)).mpr c17
      omega
    · have c17 := b2i_n c17
      have c17 := (inR_i (by omega) (by decide)).mp c17
      refine lv_iload_n X.x X.b d_X_lead_20 rfl (lv_at hl 3 rfl) ?_
      refine q_gets X hW X.Z.2.1 mw_273 d_X_lead_21 ?_
      refine lv_iload_n X.x X.b d_X_lead_24 rfl (lv_at hl 2 rfl) ?_
      refine g_zald X hW X.Z.2.1 (q_in (show 1 < 6 by omega) (by decide)) (q_tn (by omega) (Nat.zero_add _)) d_X_lead_25 ?_
      rw [show zt1.getD 1 0 = nI 0 from by decide]
      refine q_gets X hW X.Z.2.2.1 mw_275 d_X_lead_26 ?_
      refine lv_iload_n X.x X.b d_X_lead_29 rfl (lv_at hl 2 rfl) ?_
      refine g_zald X hW X.Z.2.2.1 (q_in (show 1 < 6 by omega) (by decide)) (q_tn (by omega) (Nat.zero_add _)) d_X_lead_30 ?_
      rw [show zt2.getD 1 0 = nI 7 from by decide]
      refine q_csi X (c_X_within l E S (nI v) (nI 0) (nI 7)) hW ok_X_within mw_209 ⟨by decide, by decide⟩ (As := [.int (nI v), .int (nI 0), .int (nI 7)]) rfl rfl (Nat.le_of_ble_eq_true rfl) (lv := [(0, .ref (eA E 0)), (1, .int (nI w)), (2, .int (nI 1)), (3, .int (nI v))]) hl ⟨Nat.le_refl 0, Nat.le_refl 0⟩ d_X_lead_31 (fun H locs hW => ?_)
      refine lv_if_ne (tgt := 44) X.x X.b d_X_lead_34 (by decide) (fun c34 => ?_) (fun c34 => ?_)
      · have c34 := b2i_n c34
        have c34 := (inR_i (by omega) (by decide)).mp c34
        refine lv_aload_n X.x X.b d_X_lead_44 rfl (lv_at hl 0 rfl) ?_
        refine q_getr X hW qj3 rfl _ ds_X 0 (by decide) mw_183 rfl (c1 := cB 0) rfl d_X_lead_45 ?_
        refine q_getr X hW qj0 rfl _ (ds_cm (k := 0) (by decide)) 2 (by decide) mw_106 rfl (c1 := cB 0 + 3) rfl d_X_lead_48 ?_
        refine lv_iload_n X.x X.b d_X_lead_51 rfl (lv_at hl 1 rfl) ?_
        refine g_wk (show 0 < 3 by decide) X hW (show w < 6 by omega) d_X_lead_52 ?_
        refine lv_iload_n X.x X.b d_X_lead_53 rfl (lv_at hl 2 rfl) ?_
        refine g_ald X hW (ds_w (w := w) (k := 0) (by decide) (by omega)) (q_in (by omega) (by decide)) (p0 := 44 + 6 * w + 1) (q_tn (by omega) (by omega)) (v := ρ (44 + 6 * w + 1)) (by rw [hρ]) d_X_lead_54 ?_
        refine lv_istore (lv' := [(4, .int (ρ (44 + 6 * w + 1))), (0, .ref (eA E 0)), (1, .int (nI w)), (2, .int (nI 1)), (3, .int (nI v))]) X.x X.b d_X_lead_55 hl (by decide) rfl (fun ls hl => ?_)
        refine lv_aload_n X.x X.b d_X_lead_57 rfl (lv_at hl 1 rfl) ?_
        refine q_getr X hW qj3 rfl _ ds_X 0 (by decide) mw_183 rfl (c1 := cB 0) rfl d_X_lead_58 ?_
        refine q_getr X hW qj0 rfl _ (ds_cm (k := 0) (by decide)) 2 (by decide) mw_106 rfl (c1 := cB 0 + 3) rfl d_X_lead_61 ?_
        refine lv_iload_n X.x X.b d_X_lead_64 rfl (lv_at hl 2 rfl) ?_
        refine g_wk (show 0 < 3 by decide) X hW (show w < 6 by omega) d_X_lead_65 ?_
        refine lv_iload_n X.x X.b d_X_lead_66 rfl (lv_at hl 3 rfl) ?_
        refine lv_iload_n X.x X.b d_X_lead_67 rfl (lv_at hl 4 rfl) ?_
        refine g_ast X hW (ds_w (w := w) (k := 0) (by decide) (by omega)) (q_in (by omega) (by decide)) (p0 := 44 + 6 * w + 1) (q_tn (by omega) (by omega)) (ρ := ρ) (by rw [hρ]) d_X_lead_68 (fun H locs hW => ?_)
        obtain ⟨r68, er68⟩ : ∃ z, z = upd ρ (44 + 6 * w + 1) (nI v) := ⟨_, rfl⟩
        rw [← er68] at hW
        refine lv_iload X.x X.b d_X_lead_69 (lv_at hl 0 rfl) ?_
        exact q_zret X rfl hW ⟨rfl, by rw [er68]⟩ d_X_lead_71
      · have c34 := b2i_e c34
        have c34 := mt (inR_i (by omega) (by decide)).mpr c34
        omega
set_option maxHeartbeats 1000000 in
set_option maxRecDepth 20000 in
theorem c_X_lead_b1 (l : Launch) (E : QE) (S : QM) (ρ φ : Nat → Int32) (hρ : S 0 = ρ) (hφ : S 14 = φ) (hwf : WF ρ) (x z : Int32) (h : ¬ (isW ρ x ∧ inR 0 7 z)) : qCI E l y_X_lead prog_1_method_9_code 5 .int 3 [.ref (eA E 0), .int x, .int (nI 1), .int z] S (-1000001) (qr S 14 (fnS φ 0)) := by
  refine qCI_of (by decide) (Nat.le_of_ble_eq_true rfl) (fun p e s m below meth c ls X hW hl => ?_)
  have hl : lv_has ls 5 [(0, .ref (eA E 0)), (1, .int x), (2, .int (nI 1)), (3, .int z)] := hl
  have htl := hwf.tl
  have hwl := hwf.wl
  have hdl := hwf.dl
  refine lv_aload_n X.x X.b d_X_lead_0 rfl (lv_at hl 0 rfl) ?_
  refine q_getr X hW qj3 rfl _ ds_X 0 (by decide) mw_183 rfl (c1 := cB 0) rfl d_X_lead_1 ?_
  refine lv_iload_n X.x X.b d_X_lead_4 rfl (lv_at hl 1 rfl) ?_
  refine q_cvi X (c_Cm_hasWalker l E 0 (by decide) S ρ (by rw [hρ]) hwf x) hW (q_recv X hW (ds_cm (k := 0) (by decide)) rfl) ok_Cm_hasWalker mw_265 ⟨by decide, by decide⟩ (As := [.int x]) rfl rfl (Nat.le_of_ble_eq_true rfl) (lv := [(0, .ref (eA E 0)), (1, .int x), (2, .int (nI 1)), (3, .int z)]) hl ⟨Nat.le_refl 0, Nat.le_refl 0⟩ d_X_lead_5 (fun H locs hW => ?_)
  refine lv_if_eq (tgt := 37) X.x X.b d_X_lead_8 (by decide) (fun c8 => ?_) (fun c8 => ?_)
  · have c8 := b2i_e c8
    refine lv_aload_n X.x X.b d_X_lead_37 rfl (lv_at hl 0 rfl) ?_
    refine lv_ldc (v := (-1000001)) X.x X.b X.ow (X.ts _ mw_212) d_X_lead_38 ?_
    refine q_cvi X (c_X_told_0 l E S φ (by rw [hφ])) hW (q_recv X hW ds_X rfl) ok_X_told mw_213 ⟨by decide, by decide⟩ (As := [.int (-1000001)]) rfl rfl (Nat.le_of_ble_eq_true rfl) (lv := [(0, .ref (eA E 0)), (1, .int x), (2, .int (nI 1)), (3, .int z)]) hl ⟨Nat.le_refl 0, Nat.le_refl 0⟩ d_X_lead_40 (fun H locs hW => ?_)
    have hW : qWH E (qr S 14 (fnS φ 0)) s H locs := hW
    exact q_zret X rfl hW ⟨rfl, rfl⟩ d_X_lead_43
  · have c8 := b2i_n c8
    refine lv_iload_n X.x X.b d_X_lead_11 rfl (lv_at hl 2 rfl) ?_
    refine lv_iconst (v := nI 0) X.x X.b d_X_lead_12 (by decide) ?_
    refine lv_iconst (v := nI 5) X.x X.b d_X_lead_13 (by decide) ?_
    refine q_csi X (c_X_within l E S (nI 1) (nI 0) (nI 5)) hW ok_X_within mw_209 ⟨by decide, by decide⟩ (As := [.int (nI 1), .int (nI 0), .int (nI 5)]) rfl rfl (Nat.le_of_ble_eq_true rfl) (lv := [(0, .ref (eA E 0)), (1, .int x), (2, .int (nI 1)), (3, .int z)]) hl ⟨Nat.le_refl 0, Nat.le_refl 0⟩ d_X_lead_14 (fun H locs hW => ?_)
    refine lv_if_eq (tgt := 37) X.x X.b d_X_lead_17 (by decide) (fun c17 => ?_) (fun c17 => ?_)
    · have c17 := b2i_e c17
      have c17 := mt (inR_i (by omega) (by decide)).mpr c17
      omega
    · have c17 := b2i_n c17
      have c17 := (inR_i (by omega) (by decide)).mp c17
      refine lv_iload_n X.x X.b d_X_lead_20 rfl (lv_at hl 3 rfl) ?_
      refine q_gets X hW X.Z.2.1 mw_273 d_X_lead_21 ?_
      refine lv_iload_n X.x X.b d_X_lead_24 rfl (lv_at hl 2 rfl) ?_
      refine g_zald X hW X.Z.2.1 (q_in (show 1 < 6 by omega) (by decide)) (q_tn (by omega) (Nat.zero_add _)) d_X_lead_25 ?_
      rw [show zt1.getD 1 0 = nI 0 from by decide]
      refine q_gets X hW X.Z.2.2.1 mw_275 d_X_lead_26 ?_
      refine lv_iload_n X.x X.b d_X_lead_29 rfl (lv_at hl 2 rfl) ?_
      refine g_zald X hW X.Z.2.2.1 (q_in (show 1 < 6 by omega) (by decide)) (q_tn (by omega) (Nat.zero_add _)) d_X_lead_30 ?_
      rw [show zt2.getD 1 0 = nI 7 from by decide]
      refine q_csi X (c_X_within l E S z (nI 0) (nI 7)) hW ok_X_within mw_209 ⟨by decide, by decide⟩ (As := [.int z, .int (nI 0), .int (nI 7)]) rfl rfl (Nat.le_of_ble_eq_true rfl) (lv := [(0, .ref (eA E 0)), (1, .int x), (2, .int (nI 1)), (3, .int z)]) hl ⟨Nat.le_refl 0, Nat.le_refl 0⟩ d_X_lead_31 (fun H locs hW => ?_)
      refine lv_if_ne (tgt := 44) X.x X.b d_X_lead_34 (by decide) (fun c34 => ?_) (fun c34 => ?_)
      · have c34 := b2i_n c34
        exact absurd ⟨c8, c34⟩ h
      · have c34 := b2i_e c34
        refine lv_aload_n X.x X.b d_X_lead_37 rfl (lv_at hl 0 rfl) ?_
        refine lv_ldc (v := (-1000001)) X.x X.b X.ow (X.ts _ mw_212) d_X_lead_38 ?_
        refine q_cvi X (c_X_told_0 l E S φ (by rw [hφ])) hW (q_recv X hW ds_X rfl) ok_X_told mw_213 ⟨by decide, by decide⟩ (As := [.int (-1000001)]) rfl rfl (Nat.le_of_ble_eq_true rfl) (lv := [(0, .ref (eA E 0)), (1, .int x), (2, .int (nI 1)), (3, .int z)]) hl ⟨Nat.le_refl 0, Nat.le_refl 0⟩ d_X_lead_40 (fun H locs hW => ?_)
        have hW : qWH E (qr S 14 (fnS φ 0)) s H locs := hW
        exact q_zret X rfl hW ⟨rfl, rfl⟩ d_X_lead_43
set_option maxHeartbeats 1000000 in
set_option maxRecDepth 20000 in
theorem c_X_lead_2 (l : Launch) (E : QE) (S : QM) (ρ φ : Nat → Int32) (hρ : S 0 = ρ) (hφ : S 14 = φ) (hwf : WF ρ) (w : Nat) (hw : w < nW ρ) (v : Nat) (hv0 : 1 ≤ v) (hv : v ≤ 5) : qCI E l y_X_lead prog_1_method_9_code 5 .int 3 [.ref (eA E 0), .int (nI w), .int (nI 2), .int (nI v)] S (ρ (44 + 6 * w + 2)) (qr S 0 (upd ρ (44 + 6 * w + 2) (nI v))) := by
  refine qCI_of (by decide) (Nat.le_of_ble_eq_true rfl) (fun p e s m below meth c ls X hW hl => ?_)
  have hl : lv_has ls 5 [(0, .ref (eA E 0)), (1, .int (nI w)), (2, .int (nI 2)), (3, .int (nI v))] := hl
  have htl := hwf.tl
  have hwl := hwf.wl
  have hdl := hwf.dl
  refine lv_aload_n X.x X.b d_X_lead_0 rfl (lv_at hl 0 rfl) ?_
  refine q_getr X hW qj3 rfl _ ds_X 0 (by decide) mw_183 rfl (c1 := cB 0) rfl d_X_lead_1 ?_
  refine lv_iload_n X.x X.b d_X_lead_4 rfl (lv_at hl 1 rfl) ?_
  refine q_cvi X (c_Cm_hasWalker l E 0 (by decide) S ρ (by rw [hρ]) hwf (nI w)) hW (q_recv X hW (ds_cm (k := 0) (by decide)) rfl) ok_Cm_hasWalker mw_265 ⟨by decide, by decide⟩ (As := [.int (nI w)]) rfl rfl (Nat.le_of_ble_eq_true rfl) (lv := [(0, .ref (eA E 0)), (1, .int (nI w)), (2, .int (nI 2)), (3, .int (nI v))]) hl ⟨Nat.le_refl 0, Nat.le_refl 0⟩ d_X_lead_5 (fun H locs hW => ?_)
  refine lv_if_eq (tgt := 37) X.x X.b d_X_lead_8 (by decide) (fun c8 => ?_) (fun c8 => ?_)
  · have c8 := b2i_e c8
    have c8 := mt (isW_i hwf (by omega)).mpr c8
    omega
  · have c8 := b2i_n c8
    have c8 := (isW_i hwf (by omega)).mp c8
    refine lv_iload_n X.x X.b d_X_lead_11 rfl (lv_at hl 2 rfl) ?_
    refine lv_iconst (v := nI 0) X.x X.b d_X_lead_12 (by decide) ?_
    refine lv_iconst (v := nI 5) X.x X.b d_X_lead_13 (by decide) ?_
    refine q_csi X (c_X_within l E S (nI 2) (nI 0) (nI 5)) hW ok_X_within mw_209 ⟨by decide, by decide⟩ (As := [.int (nI 2), .int (nI 0), .int (nI 5)]) rfl rfl (Nat.le_of_ble_eq_true rfl) (lv := [(0, .ref (eA E 0)), (1, .int (nI w)), (2, .int (nI 2)), (3, .int (nI v))]) hl ⟨Nat.le_refl 0, Nat.le_refl 0⟩ d_X_lead_14 (fun H locs hW => ?_)
    refine lv_if_eq (tgt := 37) X.x X.b d_X_lead_17 (by decide) (fun c17 => ?_) (fun c17 => ?_)
    · have c17 := b2i_e c17
      have c17 := mt (inR_i (by omega) (by decide)).mpr c17
      omega
    · have c17 := b2i_n c17
      have c17 := (inR_i (by omega) (by decide)).mp c17
      refine lv_iload_n X.x X.b d_X_lead_20 rfl (lv_at hl 3 rfl) ?_
      refine q_gets X hW X.Z.2.1 mw_273 d_X_lead_21 ?_
      refine lv_iload_n X.x X.b d_X_lead_24 rfl (lv_at hl 2 rfl) ?_
      refine g_zald X hW X.Z.2.1 (q_in (show 2 < 6 by omega) (by decide)) (q_tn (by omega) (Nat.zero_add _)) d_X_lead_25 ?_
      rw [show zt1.getD 2 0 = nI 1 from by decide]
      refine q_gets X hW X.Z.2.2.1 mw_275 d_X_lead_26 ?_
      refine lv_iload_n X.x X.b d_X_lead_29 rfl (lv_at hl 2 rfl) ?_
      refine g_zald X hW X.Z.2.2.1 (q_in (show 2 < 6 by omega) (by decide)) (q_tn (by omega) (Nat.zero_add _)) d_X_lead_30 ?_
      rw [show zt2.getD 2 0 = nI 5 from by decide]
      refine q_csi X (c_X_within l E S (nI v) (nI 1) (nI 5)) hW ok_X_within mw_209 ⟨by decide, by decide⟩ (As := [.int (nI v), .int (nI 1), .int (nI 5)]) rfl rfl (Nat.le_of_ble_eq_true rfl) (lv := [(0, .ref (eA E 0)), (1, .int (nI w)), (2, .int (nI 2)), (3, .int (nI v))]) hl ⟨Nat.le_refl 0, Nat.le_refl 0⟩ d_X_lead_31 (fun H locs hW => ?_)
      refine lv_if_ne (tgt := 44) X.x X.b d_X_lead_34 (by decide) (fun c34 => ?_) (fun c34 => ?_)
      · have c34 := b2i_n c34
        have c34 := (inR_i (by omega) (by decide)).mp c34
        refine lv_aload_n X.x X.b d_X_lead_44 rfl (lv_at hl 0 rfl) ?_
        refine q_getr X hW qj3 rfl _ ds_X 0 (by decide) mw_183 rfl (c1 := cB 0) rfl d_X_lead_45 ?_
        refine q_getr X hW qj0 rfl _ (ds_cm (k := 0) (by decide)) 2 (by decide) mw_106 rfl (c1 := cB 0 + 3) rfl d_X_lead_48 ?_
        refine lv_iload_n X.x X.b d_X_lead_51 rfl (lv_at hl 1 rfl) ?_
        refine g_wk (show 0 < 3 by decide) X hW (show w < 6 by omega) d_X_lead_52 ?_
        refine lv_iload_n X.x X.b d_X_lead_53 rfl (lv_at hl 2 rfl) ?_
        refine g_ald X hW (ds_w (w := w) (k := 0) (by decide) (by omega)) (q_in (by omega) (by decide)) (p0 := 44 + 6 * w + 2) (q_tn (by omega) (by omega)) (v := ρ (44 + 6 * w + 2)) (by rw [hρ]) d_X_lead_54 ?_
        refine lv_istore (lv' := [(4, .int (ρ (44 + 6 * w + 2))), (0, .ref (eA E 0)), (1, .int (nI w)), (2, .int (nI 2)), (3, .int (nI v))]) X.x X.b d_X_lead_55 hl (by decide) rfl (fun ls hl => ?_)
        refine lv_aload_n X.x X.b d_X_lead_57 rfl (lv_at hl 1 rfl) ?_
        refine q_getr X hW qj3 rfl _ ds_X 0 (by decide) mw_183 rfl (c1 := cB 0) rfl d_X_lead_58 ?_
        refine q_getr X hW qj0 rfl _ (ds_cm (k := 0) (by decide)) 2 (by decide) mw_106 rfl (c1 := cB 0 + 3) rfl d_X_lead_61 ?_
        refine lv_iload_n X.x X.b d_X_lead_64 rfl (lv_at hl 2 rfl) ?_
        refine g_wk (show 0 < 3 by decide) X hW (show w < 6 by omega) d_X_lead_65 ?_
        refine lv_iload_n X.x X.b d_X_lead_66 rfl (lv_at hl 3 rfl) ?_
        refine lv_iload_n X.x X.b d_X_lead_67 rfl (lv_at hl 4 rfl) ?_
        refine g_ast X hW (ds_w (w := w) (k := 0) (by decide) (by omega)) (q_in (by omega) (by decide)) (p0 := 44 + 6 * w + 2) (q_tn (by omega) (by omega)) (ρ := ρ) (by rw [hρ]) d_X_lead_68 (fun H locs hW => ?_)
        obtain ⟨r68, er68⟩ : ∃ z, z = upd ρ (44 + 6 * w + 2) (nI v) := ⟨_, rfl⟩
        rw [← er68] at hW
        refine lv_iload X.x X.b d_X_lead_69 (lv_at hl 0 rfl) ?_
        exact q_zret X rfl hW ⟨rfl, by rw [er68]⟩ d_X_lead_71
      · have c34 := b2i_e c34
        have c34 := mt (inR_i (by omega) (by decide)).mpr c34
        omega
set_option maxHeartbeats 1000000 in
set_option maxRecDepth 20000 in
theorem c_X_lead_b2 (l : Launch) (E : QE) (S : QM) (ρ φ : Nat → Int32) (hρ : S 0 = ρ) (hφ : S 14 = φ) (hwf : WF ρ) (x z : Int32) (h : ¬ (isW ρ x ∧ inR 1 5 z)) : qCI E l y_X_lead prog_1_method_9_code 5 .int 3 [.ref (eA E 0), .int x, .int (nI 2), .int z] S (-1000001) (qr S 14 (fnS φ 0)) := by
  refine qCI_of (by decide) (Nat.le_of_ble_eq_true rfl) (fun p e s m below meth c ls X hW hl => ?_)
  have hl : lv_has ls 5 [(0, .ref (eA E 0)), (1, .int x), (2, .int (nI 2)), (3, .int z)] := hl
  have htl := hwf.tl
  have hwl := hwf.wl
  have hdl := hwf.dl
  refine lv_aload_n X.x X.b d_X_lead_0 rfl (lv_at hl 0 rfl) ?_
  refine q_getr X hW qj3 rfl _ ds_X 0 (by decide) mw_183 rfl (c1 := cB 0) rfl d_X_lead_1 ?_
  refine lv_iload_n X.x X.b d_X_lead_4 rfl (lv_at hl 1 rfl) ?_
  refine q_cvi X (c_Cm_hasWalker l E 0 (by decide) S ρ (by rw [hρ]) hwf x) hW (q_recv X hW (ds_cm (k := 0) (by decide)) rfl) ok_Cm_hasWalker mw_265 ⟨by decide, by decide⟩ (As := [.int x]) rfl rfl (Nat.le_of_ble_eq_true rfl) (lv := [(0, .ref (eA E 0)), (1, .int x), (2, .int (nI 2)), (3, .int z)]) hl ⟨Nat.le_refl 0, Nat.le_refl 0⟩ d_X_lead_5 (fun H locs hW => ?_)
  refine lv_if_eq (tgt := 37) X.x X.b d_X_lead_8 (by decide) (fun c8 => ?_) (fun c8 => ?_)
  · have c8 := b2i_e c8
    refine lv_aload_n X.x X.b d_X_lead_37 rfl (lv_at hl 0 rfl) ?_
    refine lv_ldc (v := (-1000001)) X.x X.b X.ow (X.ts _ mw_212) d_X_lead_38 ?_
    refine q_cvi X (c_X_told_0 l E S φ (by rw [hφ])) hW (q_recv X hW ds_X rfl) ok_X_told mw_213 ⟨by decide, by decide⟩ (As := [.int (-1000001)]) rfl rfl (Nat.le_of_ble_eq_true rfl) (lv := [(0, .ref (eA E 0)), (1, .int x), (2, .int (nI 2)), (3, .int z)]) hl ⟨Nat.le_refl 0, Nat.le_refl 0⟩ d_X_lead_40 (fun H locs hW => ?_)
    have hW : qWH E (qr S 14 (fnS φ 0)) s H locs := hW
    exact q_zret X rfl hW ⟨rfl, rfl⟩ d_X_lead_43
  · have c8 := b2i_n c8
    refine lv_iload_n X.x X.b d_X_lead_11 rfl (lv_at hl 2 rfl) ?_
    refine lv_iconst (v := nI 0) X.x X.b d_X_lead_12 (by decide) ?_
    refine lv_iconst (v := nI 5) X.x X.b d_X_lead_13 (by decide) ?_
    refine q_csi X (c_X_within l E S (nI 2) (nI 0) (nI 5)) hW ok_X_within mw_209 ⟨by decide, by decide⟩ (As := [.int (nI 2), .int (nI 0), .int (nI 5)]) rfl rfl (Nat.le_of_ble_eq_true rfl) (lv := [(0, .ref (eA E 0)), (1, .int x), (2, .int (nI 2)), (3, .int z)]) hl ⟨Nat.le_refl 0, Nat.le_refl 0⟩ d_X_lead_14 (fun H locs hW => ?_)
    refine lv_if_eq (tgt := 37) X.x X.b d_X_lead_17 (by decide) (fun c17 => ?_) (fun c17 => ?_)
    · have c17 := b2i_e c17
      have c17 := mt (inR_i (by omega) (by decide)).mpr c17
      omega
    · have c17 := b2i_n c17
      have c17 := (inR_i (by omega) (by decide)).mp c17
      refine lv_iload_n X.x X.b d_X_lead_20 rfl (lv_at hl 3 rfl) ?_
      refine q_gets X hW X.Z.2.1 mw_273 d_X_lead_21 ?_
      refine lv_iload_n X.x X.b d_X_lead_24 rfl (lv_at hl 2 rfl) ?_
      refine g_zald X hW X.Z.2.1 (q_in (show 2 < 6 by omega) (by decide)) (q_tn (by omega) (Nat.zero_add _)) d_X_lead_25 ?_
      rw [show zt1.getD 2 0 = nI 1 from by decide]
      refine q_gets X hW X.Z.2.2.1 mw_275 d_X_lead_26 ?_
      refine lv_iload_n X.x X.b d_X_lead_29 rfl (lv_at hl 2 rfl) ?_
      refine g_zald X hW X.Z.2.2.1 (q_in (show 2 < 6 by omega) (by decide)) (q_tn (by omega) (Nat.zero_add _)) d_X_lead_30 ?_
      rw [show zt2.getD 2 0 = nI 5 from by decide]
      refine q_csi X (c_X_within l E S z (nI 1) (nI 5)) hW ok_X_within mw_209 ⟨by decide, by decide⟩ (As := [.int z, .int (nI 1), .int (nI 5)]) rfl rfl (Nat.le_of_ble_eq_true rfl) (lv := [(0, .ref (eA E 0)), (1, .int x), (2, .int (nI 2)), (3, .int z)]) hl ⟨Nat.le_refl 0, Nat.le_refl 0⟩ d_X_lead_31 (fun H locs hW => ?_)
      refine lv_if_ne (tgt := 44) X.x X.b d_X_lead_34 (by decide) (fun c34 => ?_) (fun c34 => ?_)
      · have c34 := b2i_n c34
        exact absurd ⟨c8, c34⟩ h
      · have c34 := b2i_e c34
        refine lv_aload_n X.x X.b d_X_lead_37 rfl (lv_at hl 0 rfl) ?_
        refine lv_ldc (v := (-1000001)) X.x X.b X.ow (X.ts _ mw_212) d_X_lead_38 ?_
        refine q_cvi X (c_X_told_0 l E S φ (by rw [hφ])) hW (q_recv X hW ds_X rfl) ok_X_told mw_213 ⟨by decide, by decide⟩ (As := [.int (-1000001)]) rfl rfl (Nat.le_of_ble_eq_true rfl) (lv := [(0, .ref (eA E 0)), (1, .int x), (2, .int (nI 2)), (3, .int z)]) hl ⟨Nat.le_refl 0, Nat.le_refl 0⟩ d_X_lead_40 (fun H locs hW => ?_)
        have hW : qWH E (qr S 14 (fnS φ 0)) s H locs := hW
        exact q_zret X rfl hW ⟨rfl, rfl⟩ d_X_lead_43
set_option maxHeartbeats 1000000 in
set_option maxRecDepth 20000 in
theorem c_X_lead_3 (l : Launch) (E : QE) (S : QM) (ρ φ : Nat → Int32) (hρ : S 0 = ρ) (hφ : S 14 = φ) (hwf : WF ρ) (w : Nat) (hw : w < nW ρ) (v : Nat) (hv0 : 0 ≤ v) (hv : v ≤ 255) : qCI E l y_X_lead prog_1_method_9_code 5 .int 3 [.ref (eA E 0), .int (nI w), .int (nI 3), .int (nI v)] S (ρ (44 + 6 * w + 3)) (qr S 0 (upd ρ (44 + 6 * w + 3) (nI v))) := by
  refine qCI_of (by decide) (Nat.le_of_ble_eq_true rfl) (fun p e s m below meth c ls X hW hl => ?_)
  have hl : lv_has ls 5 [(0, .ref (eA E 0)), (1, .int (nI w)), (2, .int (nI 3)), (3, .int (nI v))] := hl
  have htl := hwf.tl
  have hwl := hwf.wl
  have hdl := hwf.dl
  refine lv_aload_n X.x X.b d_X_lead_0 rfl (lv_at hl 0 rfl) ?_
  refine q_getr X hW qj3 rfl _ ds_X 0 (by decide) mw_183 rfl (c1 := cB 0) rfl d_X_lead_1 ?_
  refine lv_iload_n X.x X.b d_X_lead_4 rfl (lv_at hl 1 rfl) ?_
  refine q_cvi X (c_Cm_hasWalker l E 0 (by decide) S ρ (by rw [hρ]) hwf (nI w)) hW (q_recv X hW (ds_cm (k := 0) (by decide)) rfl) ok_Cm_hasWalker mw_265 ⟨by decide, by decide⟩ (As := [.int (nI w)]) rfl rfl (Nat.le_of_ble_eq_true rfl) (lv := [(0, .ref (eA E 0)), (1, .int (nI w)), (2, .int (nI 3)), (3, .int (nI v))]) hl ⟨Nat.le_refl 0, Nat.le_refl 0⟩ d_X_lead_5 (fun H locs hW => ?_)
  refine lv_if_eq (tgt := 37) X.x X.b d_X_lead_8 (by decide) (fun c8 => ?_) (fun c8 => ?_)
  · have c8 := b2i_e c8
    have c8 := mt (isW_i hwf (by omega)).mpr c8
    omega
  · have c8 := b2i_n c8
    have c8 := (isW_i hwf (by omega)).mp c8
    refine lv_iload_n X.x X.b d_X_lead_11 rfl (lv_at hl 2 rfl) ?_
    refine lv_iconst (v := nI 0) X.x X.b d_X_lead_12 (by decide) ?_
    refine lv_iconst (v := nI 5) X.x X.b d_X_lead_13 (by decide) ?_
    refine q_csi X (c_X_within l E S (nI 3) (nI 0) (nI 5)) hW ok_X_within mw_209 ⟨by decide, by decide⟩ (As := [.int (nI 3), .int (nI 0), .int (nI 5)]) rfl rfl (Nat.le_of_ble_eq_true rfl) (lv := [(0, .ref (eA E 0)), (1, .int (nI w)), (2, .int (nI 3)), (3, .int (nI v))]) hl ⟨Nat.le_refl 0, Nat.le_refl 0⟩ d_X_lead_14 (fun H locs hW => ?_)
    refine lv_if_eq (tgt := 37) X.x X.b d_X_lead_17 (by decide) (fun c17 => ?_) (fun c17 => ?_)
    · have c17 := b2i_e c17
      have c17 := mt (inR_i (by omega) (by decide)).mpr c17
      omega
    · have c17 := b2i_n c17
      have c17 := (inR_i (by omega) (by decide)).mp c17
      refine lv_iload_n X.x X.b d_X_lead_20 rfl (lv_at hl 3 rfl) ?_
      refine q_gets X hW X.Z.2.1 mw_273 d_X_lead_21 ?_
      refine lv_iload_n X.x X.b d_X_lead_24 rfl (lv_at hl 2 rfl) ?_
      refine g_zald X hW X.Z.2.1 (q_in (show 3 < 6 by omega) (by decide)) (q_tn (by omega) (Nat.zero_add _)) d_X_lead_25 ?_
      rw [show zt1.getD 3 0 = nI 0 from by decide]
      refine q_gets X hW X.Z.2.2.1 mw_275 d_X_lead_26 ?_
      refine lv_iload_n X.x X.b d_X_lead_29 rfl (lv_at hl 2 rfl) ?_
      refine g_zald X hW X.Z.2.2.1 (q_in (show 3 < 6 by omega) (by decide)) (q_tn (by omega) (Nat.zero_add _)) d_X_lead_30 ?_
      rw [show zt2.getD 3 0 = nI 255 from by decide]
      refine q_csi X (c_X_within l E S (nI v) (nI 0) (nI 255)) hW ok_X_within mw_209 ⟨by decide, by decide⟩ (As := [.int (nI v), .int (nI 0), .int (nI 255)]) rfl rfl (Nat.le_of_ble_eq_true rfl) (lv := [(0, .ref (eA E 0)), (1, .int (nI w)), (2, .int (nI 3)), (3, .int (nI v))]) hl ⟨Nat.le_refl 0, Nat.le_refl 0⟩ d_X_lead_31 (fun H locs hW => ?_)
      refine lv_if_ne (tgt := 44) X.x X.b d_X_lead_34 (by decide) (fun c34 => ?_) (fun c34 => ?_)
      · have c34 := b2i_n c34
        have c34 := (inR_i (by omega) (by decide)).mp c34
        refine lv_aload_n X.x X.b d_X_lead_44 rfl (lv_at hl 0 rfl) ?_
        refine q_getr X hW qj3 rfl _ ds_X 0 (by decide) mw_183 rfl (c1 := cB 0) rfl d_X_lead_45 ?_
        refine q_getr X hW qj0 rfl _ (ds_cm (k := 0) (by decide)) 2 (by decide) mw_106 rfl (c1 := cB 0 + 3) rfl d_X_lead_48 ?_
        refine lv_iload_n X.x X.b d_X_lead_51 rfl (lv_at hl 1 rfl) ?_
        refine g_wk (show 0 < 3 by decide) X hW (show w < 6 by omega) d_X_lead_52 ?_
        refine lv_iload_n X.x X.b d_X_lead_53 rfl (lv_at hl 2 rfl) ?_
        refine g_ald X hW (ds_w (w := w) (k := 0) (by decide) (by omega)) (q_in (by omega) (by decide)) (p0 := 44 + 6 * w + 3) (q_tn (by omega) (by omega)) (v := ρ (44 + 6 * w + 3)) (by rw [hρ]) d_X_lead_54 ?_
        refine lv_istore (lv' := [(4, .int (ρ (44 + 6 * w + 3))), (0, .ref (eA E 0)), (1, .int (nI w)), (2, .int (nI 3)), (3, .int (nI v))]) X.x X.b d_X_lead_55 hl (by decide) rfl (fun ls hl => ?_)
        refine lv_aload_n X.x X.b d_X_lead_57 rfl (lv_at hl 1 rfl) ?_
        refine q_getr X hW qj3 rfl _ ds_X 0 (by decide) mw_183 rfl (c1 := cB 0) rfl d_X_lead_58 ?_
        refine q_getr X hW qj0 rfl _ (ds_cm (k := 0) (by decide)) 2 (by decide) mw_106 rfl (c1 := cB 0 + 3) rfl d_X_lead_61 ?_
        refine lv_iload_n X.x X.b d_X_lead_64 rfl (lv_at hl 2 rfl) ?_
        refine g_wk (show 0 < 3 by decide) X hW (show w < 6 by omega) d_X_lead_65 ?_
        refine lv_iload_n X.x X.b d_X_lead_66 rfl (lv_at hl 3 rfl) ?_
        refine lv_iload_n X.x X.b d_X_lead_67 rfl (lv_at hl 4 rfl) ?_
        refine g_ast X hW (ds_w (w := w) (k := 0) (by decide) (by omega)) (q_in (by omega) (by decide)) (p0 := 44 + 6 * w + 3) (q_tn (by omega) (by omega)) (ρ := ρ) (by rw [hρ]) d_X_lead_68 (fun H locs hW => ?_)
        obtain ⟨r68, er68⟩ : ∃ z, z = upd ρ (44 + 6 * w + 3) (nI v) := ⟨_, rfl⟩
        rw [← er68] at hW
        refine lv_iload X.x X.b d_X_lead_69 (lv_at hl 0 rfl) ?_
        exact q_zret X rfl hW ⟨rfl, by rw [er68]⟩ d_X_lead_71
      · have c34 := b2i_e c34
        have c34 := mt (inR_i (by omega) (by decide)).mpr c34
        omega
set_option maxHeartbeats 1000000 in
set_option maxRecDepth 20000 in
theorem c_X_lead_b3 (l : Launch) (E : QE) (S : QM) (ρ φ : Nat → Int32) (hρ : S 0 = ρ) (hφ : S 14 = φ) (hwf : WF ρ) (x z : Int32) (h : ¬ (isW ρ x ∧ inR 0 255 z)) : qCI E l y_X_lead prog_1_method_9_code 5 .int 3 [.ref (eA E 0), .int x, .int (nI 3), .int z] S (-1000001) (qr S 14 (fnS φ 0)) := by
  refine qCI_of (by decide) (Nat.le_of_ble_eq_true rfl) (fun p e s m below meth c ls X hW hl => ?_)
  have hl : lv_has ls 5 [(0, .ref (eA E 0)), (1, .int x), (2, .int (nI 3)), (3, .int z)] := hl
  have htl := hwf.tl
  have hwl := hwf.wl
  have hdl := hwf.dl
  refine lv_aload_n X.x X.b d_X_lead_0 rfl (lv_at hl 0 rfl) ?_
  refine q_getr X hW qj3 rfl _ ds_X 0 (by decide) mw_183 rfl (c1 := cB 0) rfl d_X_lead_1 ?_
  refine lv_iload_n X.x X.b d_X_lead_4 rfl (lv_at hl 1 rfl) ?_
  refine q_cvi X (c_Cm_hasWalker l E 0 (by decide) S ρ (by rw [hρ]) hwf x) hW (q_recv X hW (ds_cm (k := 0) (by decide)) rfl) ok_Cm_hasWalker mw_265 ⟨by decide, by decide⟩ (As := [.int x]) rfl rfl (Nat.le_of_ble_eq_true rfl) (lv := [(0, .ref (eA E 0)), (1, .int x), (2, .int (nI 3)), (3, .int z)]) hl ⟨Nat.le_refl 0, Nat.le_refl 0⟩ d_X_lead_5 (fun H locs hW => ?_)
  refine lv_if_eq (tgt := 37) X.x X.b d_X_lead_8 (by decide) (fun c8 => ?_) (fun c8 => ?_)
  · have c8 := b2i_e c8
    refine lv_aload_n X.x X.b d_X_lead_37 rfl (lv_at hl 0 rfl) ?_
    refine lv_ldc (v := (-1000001)) X.x X.b X.ow (X.ts _ mw_212) d_X_lead_38 ?_
    refine q_cvi X (c_X_told_0 l E S φ (by rw [hφ])) hW (q_recv X hW ds_X rfl) ok_X_told mw_213 ⟨by decide, by decide⟩ (As := [.int (-1000001)]) rfl rfl (Nat.le_of_ble_eq_true rfl) (lv := [(0, .ref (eA E 0)), (1, .int x), (2, .int (nI 3)), (3, .int z)]) hl ⟨Nat.le_refl 0, Nat.le_refl 0⟩ d_X_lead_40 (fun H locs hW => ?_)
    have hW : qWH E (qr S 14 (fnS φ 0)) s H locs := hW
    exact q_zret X rfl hW ⟨rfl, rfl⟩ d_X_lead_43
  · have c8 := b2i_n c8
    refine lv_iload_n X.x X.b d_X_lead_11 rfl (lv_at hl 2 rfl) ?_
    refine lv_iconst (v := nI 0) X.x X.b d_X_lead_12 (by decide) ?_
    refine lv_iconst (v := nI 5) X.x X.b d_X_lead_13 (by decide) ?_
    refine q_csi X (c_X_within l E S (nI 3) (nI 0) (nI 5)) hW ok_X_within mw_209 ⟨by decide, by decide⟩ (As := [.int (nI 3), .int (nI 0), .int (nI 5)]) rfl rfl (Nat.le_of_ble_eq_true rfl) (lv := [(0, .ref (eA E 0)), (1, .int x), (2, .int (nI 3)), (3, .int z)]) hl ⟨Nat.le_refl 0, Nat.le_refl 0⟩ d_X_lead_14 (fun H locs hW => ?_)
    refine lv_if_eq (tgt := 37) X.x X.b d_X_lead_17 (by decide) (fun c17 => ?_) (fun c17 => ?_)
    · have c17 := b2i_e c17
      have c17 := mt (inR_i (by omega) (by decide)).mpr c17
      omega
    · have c17 := b2i_n c17
      have c17 := (inR_i (by omega) (by decide)).mp c17
      refine lv_iload_n X.x X.b d_X_lead_20 rfl (lv_at hl 3 rfl) ?_
      refine q_gets X hW X.Z.2.1 mw_273 d_X_lead_21 ?_
      refine lv_iload_n X.x X.b d_X_lead_24 rfl (lv_at hl 2 rfl) ?_
      refine g_zald X hW X.Z.2.1 (q_in (show 3 < 6 by omega) (by decide)) (q_tn (by omega) (Nat.zero_add _)) d_X_lead_25 ?_
      rw [show zt1.getD 3 0 = nI 0 from by decide]
      refine q_gets X hW X.Z.2.2.1 mw_275 d_X_lead_26 ?_
      refine lv_iload_n X.x X.b d_X_lead_29 rfl (lv_at hl 2 rfl) ?_
      refine g_zald X hW X.Z.2.2.1 (q_in (show 3 < 6 by omega) (by decide)) (q_tn (by omega) (Nat.zero_add _)) d_X_lead_30 ?_
      rw [show zt2.getD 3 0 = nI 255 from by decide]
      refine q_csi X (c_X_within l E S z (nI 0) (nI 255)) hW ok_X_within mw_209 ⟨by decide, by decide⟩ (As := [.int z, .int (nI 0), .int (nI 255)]) rfl rfl (Nat.le_of_ble_eq_true rfl) (lv := [(0, .ref (eA E 0)), (1, .int x), (2, .int (nI 3)), (3, .int z)]) hl ⟨Nat.le_refl 0, Nat.le_refl 0⟩ d_X_lead_31 (fun H locs hW => ?_)
      refine lv_if_ne (tgt := 44) X.x X.b d_X_lead_34 (by decide) (fun c34 => ?_) (fun c34 => ?_)
      · have c34 := b2i_n c34
        exact absurd ⟨c8, c34⟩ h
      · have c34 := b2i_e c34
        refine lv_aload_n X.x X.b d_X_lead_37 rfl (lv_at hl 0 rfl) ?_
        refine lv_ldc (v := (-1000001)) X.x X.b X.ow (X.ts _ mw_212) d_X_lead_38 ?_
        refine q_cvi X (c_X_told_0 l E S φ (by rw [hφ])) hW (q_recv X hW ds_X rfl) ok_X_told mw_213 ⟨by decide, by decide⟩ (As := [.int (-1000001)]) rfl rfl (Nat.le_of_ble_eq_true rfl) (lv := [(0, .ref (eA E 0)), (1, .int x), (2, .int (nI 3)), (3, .int z)]) hl ⟨Nat.le_refl 0, Nat.le_refl 0⟩ d_X_lead_40 (fun H locs hW => ?_)
        have hW : qWH E (qr S 14 (fnS φ 0)) s H locs := hW
        exact q_zret X rfl hW ⟨rfl, rfl⟩ d_X_lead_43
set_option maxHeartbeats 1000000 in
set_option maxRecDepth 20000 in
theorem c_X_lead_4 (l : Launch) (E : QE) (S : QM) (ρ φ : Nat → Int32) (hρ : S 0 = ρ) (hφ : S 14 = φ) (hwf : WF ρ) (w : Nat) (hw : w < nW ρ) (v : Nat) (hv0 : 0 ≤ v) (hv : v ≤ 9999) : qCI E l y_X_lead prog_1_method_9_code 5 .int 3 [.ref (eA E 0), .int (nI w), .int (nI 4), .int (nI v)] S (ρ (44 + 6 * w + 4)) (qr S 0 (upd ρ (44 + 6 * w + 4) (nI v))) := by
  refine qCI_of (by decide) (Nat.le_of_ble_eq_true rfl) (fun p e s m below meth c ls X hW hl => ?_)
  have hl : lv_has ls 5 [(0, .ref (eA E 0)), (1, .int (nI w)), (2, .int (nI 4)), (3, .int (nI v))] := hl
  have htl := hwf.tl
  have hwl := hwf.wl
  have hdl := hwf.dl
  refine lv_aload_n X.x X.b d_X_lead_0 rfl (lv_at hl 0 rfl) ?_
  refine q_getr X hW qj3 rfl _ ds_X 0 (by decide) mw_183 rfl (c1 := cB 0) rfl d_X_lead_1 ?_
  refine lv_iload_n X.x X.b d_X_lead_4 rfl (lv_at hl 1 rfl) ?_
  refine q_cvi X (c_Cm_hasWalker l E 0 (by decide) S ρ (by rw [hρ]) hwf (nI w)) hW (q_recv X hW (ds_cm (k := 0) (by decide)) rfl) ok_Cm_hasWalker mw_265 ⟨by decide, by decide⟩ (As := [.int (nI w)]) rfl rfl (Nat.le_of_ble_eq_true rfl) (lv := [(0, .ref (eA E 0)), (1, .int (nI w)), (2, .int (nI 4)), (3, .int (nI v))]) hl ⟨Nat.le_refl 0, Nat.le_refl 0⟩ d_X_lead_5 (fun H locs hW => ?_)
  refine lv_if_eq (tgt := 37) X.x X.b d_X_lead_8 (by decide) (fun c8 => ?_) (fun c8 => ?_)
  · have c8 := b2i_e c8
    have c8 := mt (isW_i hwf (by omega)).mpr c8
    omega
  · have c8 := b2i_n c8
    have c8 := (isW_i hwf (by omega)).mp c8
    refine lv_iload_n X.x X.b d_X_lead_11 rfl (lv_at hl 2 rfl) ?_
    refine lv_iconst (v := nI 0) X.x X.b d_X_lead_12 (by decide) ?_
    refine lv_iconst (v := nI 5) X.x X.b d_X_lead_13 (by decide) ?_
    refine q_csi X (c_X_within l E S (nI 4) (nI 0) (nI 5)) hW ok_X_within mw_209 ⟨by decide, by decide⟩ (As := [.int (nI 4), .int (nI 0), .int (nI 5)]) rfl rfl (Nat.le_of_ble_eq_true rfl) (lv := [(0, .ref (eA E 0)), (1, .int (nI w)), (2, .int (nI 4)), (3, .int (nI v))]) hl ⟨Nat.le_refl 0, Nat.le_refl 0⟩ d_X_lead_14 (fun H locs hW => ?_)
    refine lv_if_eq (tgt := 37) X.x X.b d_X_lead_17 (by decide) (fun c17 => ?_) (fun c17 => ?_)
    · have c17 := b2i_e c17
      have c17 := mt (inR_i (by omega) (by decide)).mpr c17
      omega
    · have c17 := b2i_n c17
      have c17 := (inR_i (by omega) (by decide)).mp c17
      refine lv_iload_n X.x X.b d_X_lead_20 rfl (lv_at hl 3 rfl) ?_
      refine q_gets X hW X.Z.2.1 mw_273 d_X_lead_21 ?_
      refine lv_iload_n X.x X.b d_X_lead_24 rfl (lv_at hl 2 rfl) ?_
      refine g_zald X hW X.Z.2.1 (q_in (show 4 < 6 by omega) (by decide)) (q_tn (by omega) (Nat.zero_add _)) d_X_lead_25 ?_
      rw [show zt1.getD 4 0 = nI 0 from by decide]
      refine q_gets X hW X.Z.2.2.1 mw_275 d_X_lead_26 ?_
      refine lv_iload_n X.x X.b d_X_lead_29 rfl (lv_at hl 2 rfl) ?_
      refine g_zald X hW X.Z.2.2.1 (q_in (show 4 < 6 by omega) (by decide)) (q_tn (by omega) (Nat.zero_add _)) d_X_lead_30 ?_
      rw [show zt2.getD 4 0 = nI 9999 from by decide]
      refine q_csi X (c_X_within l E S (nI v) (nI 0) (nI 9999)) hW ok_X_within mw_209 ⟨by decide, by decide⟩ (As := [.int (nI v), .int (nI 0), .int (nI 9999)]) rfl rfl (Nat.le_of_ble_eq_true rfl) (lv := [(0, .ref (eA E 0)), (1, .int (nI w)), (2, .int (nI 4)), (3, .int (nI v))]) hl ⟨Nat.le_refl 0, Nat.le_refl 0⟩ d_X_lead_31 (fun H locs hW => ?_)
      refine lv_if_ne (tgt := 44) X.x X.b d_X_lead_34 (by decide) (fun c34 => ?_) (fun c34 => ?_)
      · have c34 := b2i_n c34
        have c34 := (inR_i (by omega) (by decide)).mp c34
        refine lv_aload_n X.x X.b d_X_lead_44 rfl (lv_at hl 0 rfl) ?_
        refine q_getr X hW qj3 rfl _ ds_X 0 (by decide) mw_183 rfl (c1 := cB 0) rfl d_X_lead_45 ?_
        refine q_getr X hW qj0 rfl _ (ds_cm (k := 0) (by decide)) 2 (by decide) mw_106 rfl (c1 := cB 0 + 3) rfl d_X_lead_48 ?_
        refine lv_iload_n X.x X.b d_X_lead_51 rfl (lv_at hl 1 rfl) ?_
        refine g_wk (show 0 < 3 by decide) X hW (show w < 6 by omega) d_X_lead_52 ?_
        refine lv_iload_n X.x X.b d_X_lead_53 rfl (lv_at hl 2 rfl) ?_
        refine g_ald X hW (ds_w (w := w) (k := 0) (by decide) (by omega)) (q_in (by omega) (by decide)) (p0 := 44 + 6 * w + 4) (q_tn (by omega) (by omega)) (v := ρ (44 + 6 * w + 4)) (by rw [hρ]) d_X_lead_54 ?_
        refine lv_istore (lv' := [(4, .int (ρ (44 + 6 * w + 4))), (0, .ref (eA E 0)), (1, .int (nI w)), (2, .int (nI 4)), (3, .int (nI v))]) X.x X.b d_X_lead_55 hl (by decide) rfl (fun ls hl => ?_)
        refine lv_aload_n X.x X.b d_X_lead_57 rfl (lv_at hl 1 rfl) ?_
        refine q_getr X hW qj3 rfl _ ds_X 0 (by decide) mw_183 rfl (c1 := cB 0) rfl d_X_lead_58 ?_
        refine q_getr X hW qj0 rfl _ (ds_cm (k := 0) (by decide)) 2 (by decide) mw_106 rfl (c1 := cB 0 + 3) rfl d_X_lead_61 ?_
        refine lv_iload_n X.x X.b d_X_lead_64 rfl (lv_at hl 2 rfl) ?_
        refine g_wk (show 0 < 3 by decide) X hW (show w < 6 by omega) d_X_lead_65 ?_
        refine lv_iload_n X.x X.b d_X_lead_66 rfl (lv_at hl 3 rfl) ?_
        refine lv_iload_n X.x X.b d_X_lead_67 rfl (lv_at hl 4 rfl) ?_
        refine g_ast X hW (ds_w (w := w) (k := 0) (by decide) (by omega)) (q_in (by omega) (by decide)) (p0 := 44 + 6 * w + 4) (q_tn (by omega) (by omega)) (ρ := ρ) (by rw [hρ]) d_X_lead_68 (fun H locs hW => ?_)
        obtain ⟨r68, er68⟩ : ∃ z, z = upd ρ (44 + 6 * w + 4) (nI v) := ⟨_, rfl⟩
        rw [← er68] at hW
        refine lv_iload X.x X.b d_X_lead_69 (lv_at hl 0 rfl) ?_
        exact q_zret X rfl hW ⟨rfl, by rw [er68]⟩ d_X_lead_71
      · have c34 := b2i_e c34
        have c34 := mt (inR_i (by omega) (by decide)).mpr c34
        omega
set_option maxHeartbeats 1000000 in
set_option maxRecDepth 20000 in
theorem c_X_lead_b4 (l : Launch) (E : QE) (S : QM) (ρ φ : Nat → Int32) (hρ : S 0 = ρ) (hφ : S 14 = φ) (hwf : WF ρ) (x z : Int32) (h : ¬ (isW ρ x ∧ inR 0 9999 z)) : qCI E l y_X_lead prog_1_method_9_code 5 .int 3 [.ref (eA E 0), .int x, .int (nI 4), .int z] S (-1000001) (qr S 14 (fnS φ 0)) := by
  refine qCI_of (by decide) (Nat.le_of_ble_eq_true rfl) (fun p e s m below meth c ls X hW hl => ?_)
  have hl : lv_has ls 5 [(0, .ref (eA E 0)), (1, .int x), (2, .int (nI 4)), (3, .int z)] := hl
  have htl := hwf.tl
  have hwl := hwf.wl
  have hdl := hwf.dl
  refine lv_aload_n X.x X.b d_X_lead_0 rfl (lv_at hl 0 rfl) ?_
  refine q_getr X hW qj3 rfl _ ds_X 0 (by decide) mw_183 rfl (c1 := cB 0) rfl d_X_lead_1 ?_
  refine lv_iload_n X.x X.b d_X_lead_4 rfl (lv_at hl 1 rfl) ?_
  refine q_cvi X (c_Cm_hasWalker l E 0 (by decide) S ρ (by rw [hρ]) hwf x) hW (q_recv X hW (ds_cm (k := 0) (by decide)) rfl) ok_Cm_hasWalker mw_265 ⟨by decide, by decide⟩ (As := [.int x]) rfl rfl (Nat.le_of_ble_eq_true rfl) (lv := [(0, .ref (eA E 0)), (1, .int x), (2, .int (nI 4)), (3, .int z)]) hl ⟨Nat.le_refl 0, Nat.le_refl 0⟩ d_X_lead_5 (fun H locs hW => ?_)
  refine lv_if_eq (tgt := 37) X.x X.b d_X_lead_8 (by decide) (fun c8 => ?_) (fun c8 => ?_)
  · have c8 := b2i_e c8
    refine lv_aload_n X.x X.b d_X_lead_37 rfl (lv_at hl 0 rfl) ?_
    refine lv_ldc (v := (-1000001)) X.x X.b X.ow (X.ts _ mw_212) d_X_lead_38 ?_
    refine q_cvi X (c_X_told_0 l E S φ (by rw [hφ])) hW (q_recv X hW ds_X rfl) ok_X_told mw_213 ⟨by decide, by decide⟩ (As := [.int (-1000001)]) rfl rfl (Nat.le_of_ble_eq_true rfl) (lv := [(0, .ref (eA E 0)), (1, .int x), (2, .int (nI 4)), (3, .int z)]) hl ⟨Nat.le_refl 0, Nat.le_refl 0⟩ d_X_lead_40 (fun H locs hW => ?_)
    have hW : qWH E (qr S 14 (fnS φ 0)) s H locs := hW
    exact q_zret X rfl hW ⟨rfl, rfl⟩ d_X_lead_43
  · have c8 := b2i_n c8
    refine lv_iload_n X.x X.b d_X_lead_11 rfl (lv_at hl 2 rfl) ?_
    refine lv_iconst (v := nI 0) X.x X.b d_X_lead_12 (by decide) ?_
    refine lv_iconst (v := nI 5) X.x X.b d_X_lead_13 (by decide) ?_
    refine q_csi X (c_X_within l E S (nI 4) (nI 0) (nI 5)) hW ok_X_within mw_209 ⟨by decide, by decide⟩ (As := [.int (nI 4), .int (nI 0), .int (nI 5)]) rfl rfl (Nat.le_of_ble_eq_true rfl) (lv := [(0, .ref (eA E 0)), (1, .int x), (2, .int (nI 4)), (3, .int z)]) hl ⟨Nat.le_refl 0, Nat.le_refl 0⟩ d_X_lead_14 (fun H locs hW => ?_)
    refine lv_if_eq (tgt := 37) X.x X.b d_X_lead_17 (by decide) (fun c17 => ?_) (fun c17 => ?_)
    · have c17 := b2i_e c17
      have c17 := mt (inR_i (by omega) (by decide)).mpr c17
      omega
    · have c17 := b2i_n c17
      have c17 := (inR_i (by omega) (by decide)).mp c17
      refine lv_iload_n X.x X.b d_X_lead_20 rfl (lv_at hl 3 rfl) ?_
      refine q_gets X hW X.Z.2.1 mw_273 d_X_lead_21 ?_
      refine lv_iload_n X.x X.b d_X_lead_24 rfl (lv_at hl 2 rfl) ?_
      refine g_zald X hW X.Z.2.1 (q_in (show 4 < 6 by omega) (by decide)) (q_tn (by omega) (Nat.zero_add _)) d_X_lead_25 ?_
      rw [show zt1.getD 4 0 = nI 0 from by decide]
      refine q_gets X hW X.Z.2.2.1 mw_275 d_X_lead_26 ?_
      refine lv_iload_n X.x X.b d_X_lead_29 rfl (lv_at hl 2 rfl) ?_
      refine g_zald X hW X.Z.2.2.1 (q_in (show 4 < 6 by omega) (by decide)) (q_tn (by omega) (Nat.zero_add _)) d_X_lead_30 ?_
      rw [show zt2.getD 4 0 = nI 9999 from by decide]
      refine q_csi X (c_X_within l E S z (nI 0) (nI 9999)) hW ok_X_within mw_209 ⟨by decide, by decide⟩ (As := [.int z, .int (nI 0), .int (nI 9999)]) rfl rfl (Nat.le_of_ble_eq_true rfl) (lv := [(0, .ref (eA E 0)), (1, .int x), (2, .int (nI 4)), (3, .int z)]) hl ⟨Nat.le_refl 0, Nat.le_refl 0⟩ d_X_lead_31 (fun H locs hW => ?_)
      refine lv_if_ne (tgt := 44) X.x X.b d_X_lead_34 (by decide) (fun c34 => ?_) (fun c34 => ?_)
      · have c34 := b2i_n c34
        exact absurd ⟨c8, c34⟩ h
      · have c34 := b2i_e c34
        refine lv_aload_n X.x X.b d_X_lead_37 rfl (lv_at hl 0 rfl) ?_
        refine lv_ldc (v := (-1000001)) X.x X.b X.ow (X.ts _ mw_212) d_X_lead_38 ?_
        refine q_cvi X (c_X_told_0 l E S φ (by rw [hφ])) hW (q_recv X hW ds_X rfl) ok_X_told mw_213 ⟨by decide, by decide⟩ (As := [.int (-1000001)]) rfl rfl (Nat.le_of_ble_eq_true rfl) (lv := [(0, .ref (eA E 0)), (1, .int x), (2, .int (nI 4)), (3, .int z)]) hl ⟨Nat.le_refl 0, Nat.le_refl 0⟩ d_X_lead_40 (fun H locs hW => ?_)
        have hW : qWH E (qr S 14 (fnS φ 0)) s H locs := hW
        exact q_zret X rfl hW ⟨rfl, rfl⟩ d_X_lead_43
set_option maxHeartbeats 1000000 in
set_option maxRecDepth 20000 in
theorem c_X_lead_5 (l : Launch) (E : QE) (S : QM) (ρ φ : Nat → Int32) (hρ : S 0 = ρ) (hφ : S 14 = φ) (hwf : WF ρ) (w : Nat) (hw : w < nW ρ) (v : Nat) (hv0 : 0 ≤ v) (hv : v ≤ 9999) : qCI E l y_X_lead prog_1_method_9_code 5 .int 3 [.ref (eA E 0), .int (nI w), .int (nI 5), .int (nI v)] S (ρ (44 + 6 * w + 5)) (qr S 0 (upd ρ (44 + 6 * w + 5) (nI v))) := by
  refine qCI_of (by decide) (Nat.le_of_ble_eq_true rfl) (fun p e s m below meth c ls X hW hl => ?_)
  have hl : lv_has ls 5 [(0, .ref (eA E 0)), (1, .int (nI w)), (2, .int (nI 5)), (3, .int (nI v))] := hl
  have htl := hwf.tl
  have hwl := hwf.wl
  have hdl := hwf.dl
  refine lv_aload_n X.x X.b d_X_lead_0 rfl (lv_at hl 0 rfl) ?_
  refine q_getr X hW qj3 rfl _ ds_X 0 (by decide) mw_183 rfl (c1 := cB 0) rfl d_X_lead_1 ?_
  refine lv_iload_n X.x X.b d_X_lead_4 rfl (lv_at hl 1 rfl) ?_
  refine q_cvi X (c_Cm_hasWalker l E 0 (by decide) S ρ (by rw [hρ]) hwf (nI w)) hW (q_recv X hW (ds_cm (k := 0) (by decide)) rfl) ok_Cm_hasWalker mw_265 ⟨by decide, by decide⟩ (As := [.int (nI w)]) rfl rfl (Nat.le_of_ble_eq_true rfl) (lv := [(0, .ref (eA E 0)), (1, .int (nI w)), (2, .int (nI 5)), (3, .int (nI v))]) hl ⟨Nat.le_refl 0, Nat.le_refl 0⟩ d_X_lead_5 (fun H locs hW => ?_)
  refine lv_if_eq (tgt := 37) X.x X.b d_X_lead_8 (by decide) (fun c8 => ?_) (fun c8 => ?_)
  · have c8 := b2i_e c8
    have c8 := mt (isW_i hwf (by omega)).mpr c8
    omega
  · have c8 := b2i_n c8
    have c8 := (isW_i hwf (by omega)).mp c8
    refine lv_iload_n X.x X.b d_X_lead_11 rfl (lv_at hl 2 rfl) ?_
    refine lv_iconst (v := nI 0) X.x X.b d_X_lead_12 (by decide) ?_
    refine lv_iconst (v := nI 5) X.x X.b d_X_lead_13 (by decide) ?_
    refine q_csi X (c_X_within l E S (nI 5) (nI 0) (nI 5)) hW ok_X_within mw_209 ⟨by decide, by decide⟩ (As := [.int (nI 5), .int (nI 0), .int (nI 5)]) rfl rfl (Nat.le_of_ble_eq_true rfl) (lv := [(0, .ref (eA E 0)), (1, .int (nI w)), (2, .int (nI 5)), (3, .int (nI v))]) hl ⟨Nat.le_refl 0, Nat.le_refl 0⟩ d_X_lead_14 (fun H locs hW => ?_)
    refine lv_if_eq (tgt := 37) X.x X.b d_X_lead_17 (by decide) (fun c17 => ?_) (fun c17 => ?_)
    · have c17 := b2i_e c17
      have c17 := mt (inR_i (by omega) (by decide)).mpr c17
      omega
    · have c17 := b2i_n c17
      have c17 := (inR_i (by omega) (by decide)).mp c17
      refine lv_iload_n X.x X.b d_X_lead_20 rfl (lv_at hl 3 rfl) ?_
      refine q_gets X hW X.Z.2.1 mw_273 d_X_lead_21 ?_
      refine lv_iload_n X.x X.b d_X_lead_24 rfl (lv_at hl 2 rfl) ?_
      refine g_zald X hW X.Z.2.1 (q_in (show 5 < 6 by omega) (by decide)) (q_tn (by omega) (Nat.zero_add _)) d_X_lead_25 ?_
      rw [show zt1.getD 5 0 = nI 0 from by decide]
      refine q_gets X hW X.Z.2.2.1 mw_275 d_X_lead_26 ?_
      refine lv_iload_n X.x X.b d_X_lead_29 rfl (lv_at hl 2 rfl) ?_
      refine g_zald X hW X.Z.2.2.1 (q_in (show 5 < 6 by omega) (by decide)) (q_tn (by omega) (Nat.zero_add _)) d_X_lead_30 ?_
      rw [show zt2.getD 5 0 = nI 9999 from by decide]
      refine q_csi X (c_X_within l E S (nI v) (nI 0) (nI 9999)) hW ok_X_within mw_209 ⟨by decide, by decide⟩ (As := [.int (nI v), .int (nI 0), .int (nI 9999)]) rfl rfl (Nat.le_of_ble_eq_true rfl) (lv := [(0, .ref (eA E 0)), (1, .int (nI w)), (2, .int (nI 5)), (3, .int (nI v))]) hl ⟨Nat.le_refl 0, Nat.le_refl 0⟩ d_X_lead_31 (fun H locs hW => ?_)
      refine lv_if_ne (tgt := 44) X.x X.b d_X_lead_34 (by decide) (fun c34 => ?_) (fun c34 => ?_)
      · have c34 := b2i_n c34
        have c34 := (inR_i (by omega) (by decide)).mp c34
        refine lv_aload_n X.x X.b d_X_lead_44 rfl (lv_at hl 0 rfl) ?_
        refine q_getr X hW qj3 rfl _ ds_X 0 (by decide) mw_183 rfl (c1 := cB 0) rfl d_X_lead_45 ?_
        refine q_getr X hW qj0 rfl _ (ds_cm (k := 0) (by decide)) 2 (by decide) mw_106 rfl (c1 := cB 0 + 3) rfl d_X_lead_48 ?_
        refine lv_iload_n X.x X.b d_X_lead_51 rfl (lv_at hl 1 rfl) ?_
        refine g_wk (show 0 < 3 by decide) X hW (show w < 6 by omega) d_X_lead_52 ?_
        refine lv_iload_n X.x X.b d_X_lead_53 rfl (lv_at hl 2 rfl) ?_
        refine g_ald X hW (ds_w (w := w) (k := 0) (by decide) (by omega)) (q_in (by omega) (by decide)) (p0 := 44 + 6 * w + 5) (q_tn (by omega) (by omega)) (v := ρ (44 + 6 * w + 5)) (by rw [hρ]) d_X_lead_54 ?_
        refine lv_istore (lv' := [(4, .int (ρ (44 + 6 * w + 5))), (0, .ref (eA E 0)), (1, .int (nI w)), (2, .int (nI 5)), (3, .int (nI v))]) X.x X.b d_X_lead_55 hl (by decide) rfl (fun ls hl => ?_)
        refine lv_aload_n X.x X.b d_X_lead_57 rfl (lv_at hl 1 rfl) ?_
        refine q_getr X hW qj3 rfl _ ds_X 0 (by decide) mw_183 rfl (c1 := cB 0) rfl d_X_lead_58 ?_
        refine q_getr X hW qj0 rfl _ (ds_cm (k := 0) (by decide)) 2 (by decide) mw_106 rfl (c1 := cB 0 + 3) rfl d_X_lead_61 ?_
        refine lv_iload_n X.x X.b d_X_lead_64 rfl (lv_at hl 2 rfl) ?_
        refine g_wk (show 0 < 3 by decide) X hW (show w < 6 by omega) d_X_lead_65 ?_
        refine lv_iload_n X.x X.b d_X_lead_66 rfl (lv_at hl 3 rfl) ?_
        refine lv_iload_n X.x X.b d_X_lead_67 rfl (lv_at hl 4 rfl) ?_
        refine g_ast X hW (ds_w (w := w) (k := 0) (by decide) (by omega)) (q_in (by omega) (by decide)) (p0 := 44 + 6 * w + 5) (q_tn (by omega) (by omega)) (ρ := ρ) (by rw [hρ]) d_X_lead_68 (fun H locs hW => ?_)
        obtain ⟨r68, er68⟩ : ∃ z, z = upd ρ (44 + 6 * w + 5) (nI v) := ⟨_, rfl⟩
        rw [← er68] at hW
        refine lv_iload X.x X.b d_X_lead_69 (lv_at hl 0 rfl) ?_
        exact q_zret X rfl hW ⟨rfl, by rw [er68]⟩ d_X_lead_71
      · have c34 := b2i_e c34
        have c34 := mt (inR_i (by omega) (by decide)).mpr c34
        omega
set_option maxHeartbeats 1000000 in
set_option maxRecDepth 20000 in
theorem c_X_lead_b5 (l : Launch) (E : QE) (S : QM) (ρ φ : Nat → Int32) (hρ : S 0 = ρ) (hφ : S 14 = φ) (hwf : WF ρ) (x z : Int32) (h : ¬ (isW ρ x ∧ inR 0 9999 z)) : qCI E l y_X_lead prog_1_method_9_code 5 .int 3 [.ref (eA E 0), .int x, .int (nI 5), .int z] S (-1000001) (qr S 14 (fnS φ 0)) := by
  refine qCI_of (by decide) (Nat.le_of_ble_eq_true rfl) (fun p e s m below meth c ls X hW hl => ?_)
  have hl : lv_has ls 5 [(0, .ref (eA E 0)), (1, .int x), (2, .int (nI 5)), (3, .int z)] := hl
  have htl := hwf.tl
  have hwl := hwf.wl
  have hdl := hwf.dl
  refine lv_aload_n X.x X.b d_X_lead_0 rfl (lv_at hl 0 rfl) ?_
  refine q_getr X hW qj3 rfl _ ds_X 0 (by decide) mw_183 rfl (c1 := cB 0) rfl d_X_lead_1 ?_
  refine lv_iload_n X.x X.b d_X_lead_4 rfl (lv_at hl 1 rfl) ?_
  refine q_cvi X (c_Cm_hasWalker l E 0 (by decide) S ρ (by rw [hρ]) hwf x) hW (q_recv X hW (ds_cm (k := 0) (by decide)) rfl) ok_Cm_hasWalker mw_265 ⟨by decide, by decide⟩ (As := [.int x]) rfl rfl (Nat.le_of_ble_eq_true rfl) (lv := [(0, .ref (eA E 0)), (1, .int x), (2, .int (nI 5)), (3, .int z)]) hl ⟨Nat.le_refl 0, Nat.le_refl 0⟩ d_X_lead_5 (fun H locs hW => ?_)
  refine lv_if_eq (tgt := 37) X.x X.b d_X_lead_8 (by decide) (fun c8 => ?_) (fun c8 => ?_)
  · have c8 := b2i_e c8
    refine lv_aload_n X.x X.b d_X_lead_37 rfl (lv_at hl 0 rfl) ?_
    refine lv_ldc (v := (-1000001)) X.x X.b X.ow (X.ts _ mw_212) d_X_lead_38 ?_
    refine q_cvi X (c_X_told_0 l E S φ (by rw [hφ])) hW (q_recv X hW ds_X rfl) ok_X_told mw_213 ⟨by decide, by decide⟩ (As := [.int (-1000001)]) rfl rfl (Nat.le_of_ble_eq_true rfl) (lv := [(0, .ref (eA E 0)), (1, .int x), (2, .int (nI 5)), (3, .int z)]) hl ⟨Nat.le_refl 0, Nat.le_refl 0⟩ d_X_lead_40 (fun H locs hW => ?_)
    have hW : qWH E (qr S 14 (fnS φ 0)) s H locs := hW
    exact q_zret X rfl hW ⟨rfl, rfl⟩ d_X_lead_43
  · have c8 := b2i_n c8
    refine lv_iload_n X.x X.b d_X_lead_11 rfl (lv_at hl 2 rfl) ?_
    refine lv_iconst (v := nI 0) X.x X.b d_X_lead_12 (by decide) ?_
    refine lv_iconst (v := nI 5) X.x X.b d_X_lead_13 (by decide) ?_
    refine q_csi X (c_X_within l E S (nI 5) (nI 0) (nI 5)) hW ok_X_within mw_209 ⟨by decide, by decide⟩ (As := [.int (nI 5), .int (nI 0), .int (nI 5)]) rfl rfl (Nat.le_of_ble_eq_true rfl) (lv := [(0, .ref (eA E 0)), (1, .int x), (2, .int (nI 5)), (3, .int z)]) hl ⟨Nat.le_refl 0, Nat.le_refl 0⟩ d_X_lead_14 (fun H locs hW => ?_)
    refine lv_if_eq (tgt := 37) X.x X.b d_X_lead_17 (by decide) (fun c17 => ?_) (fun c17 => ?_)
    · have c17 := b2i_e c17
      have c17 := mt (inR_i (by omega) (by decide)).mpr c17
      omega
    · have c17 := b2i_n c17
      have c17 := (inR_i (by omega) (by decide)).mp c17
      refine lv_iload_n X.x X.b d_X_lead_20 rfl (lv_at hl 3 rfl) ?_
      refine q_gets X hW X.Z.2.1 mw_273 d_X_lead_21 ?_
      refine lv_iload_n X.x X.b d_X_lead_24 rfl (lv_at hl 2 rfl) ?_
      refine g_zald X hW X.Z.2.1 (q_in (show 5 < 6 by omega) (by decide)) (q_tn (by omega) (Nat.zero_add _)) d_X_lead_25 ?_
      rw [show zt1.getD 5 0 = nI 0 from by decide]
      refine q_gets X hW X.Z.2.2.1 mw_275 d_X_lead_26 ?_
      refine lv_iload_n X.x X.b d_X_lead_29 rfl (lv_at hl 2 rfl) ?_
      refine g_zald X hW X.Z.2.2.1 (q_in (show 5 < 6 by omega) (by decide)) (q_tn (by omega) (Nat.zero_add _)) d_X_lead_30 ?_
      rw [show zt2.getD 5 0 = nI 9999 from by decide]
      refine q_csi X (c_X_within l E S z (nI 0) (nI 9999)) hW ok_X_within mw_209 ⟨by decide, by decide⟩ (As := [.int z, .int (nI 0), .int (nI 9999)]) rfl rfl (Nat.le_of_ble_eq_true rfl) (lv := [(0, .ref (eA E 0)), (1, .int x), (2, .int (nI 5)), (3, .int z)]) hl ⟨Nat.le_refl 0, Nat.le_refl 0⟩ d_X_lead_31 (fun H locs hW => ?_)
      refine lv_if_ne (tgt := 44) X.x X.b d_X_lead_34 (by decide) (fun c34 => ?_) (fun c34 => ?_)
      · have c34 := b2i_n c34
        exact absurd ⟨c8, c34⟩ h
      · have c34 := b2i_e c34
        refine lv_aload_n X.x X.b d_X_lead_37 rfl (lv_at hl 0 rfl) ?_
        refine lv_ldc (v := (-1000001)) X.x X.b X.ow (X.ts _ mw_212) d_X_lead_38 ?_
        refine q_cvi X (c_X_told_0 l E S φ (by rw [hφ])) hW (q_recv X hW ds_X rfl) ok_X_told mw_213 ⟨by decide, by decide⟩ (As := [.int (-1000001)]) rfl rfl (Nat.le_of_ble_eq_true rfl) (lv := [(0, .ref (eA E 0)), (1, .int x), (2, .int (nI 5)), (3, .int z)]) hl ⟨Nat.le_refl 0, Nat.le_refl 0⟩ d_X_lead_40 (fun H locs hW => ?_)
        have hW : qWH E (qr S 14 (fnS φ 0)) s H locs := hW
        exact q_zret X rfl hW ⟨rfl, rfl⟩ d_X_lead_43
set_option maxHeartbeats 1000000 in
set_option maxRecDepth 20000 in
theorem c_X_lead_b (l : Launch) (E : QE) (S : QM) (ρ φ : Nat → Int32) (hρ : S 0 = ρ) (hφ : S 14 = φ) (hwf : WF ρ) (x y z : Int32) (h : ¬ (isW ρ x ∧ inR 0 5 y)) : qCI E l y_X_lead prog_1_method_9_code 5 .int 3 [.ref (eA E 0), .int x, .int y, .int z] S (-1000001) (qr S 14 (fnS φ 0)) := by
  refine qCI_of (by decide) (Nat.le_of_ble_eq_true rfl) (fun p e s m below meth c ls X hW hl => ?_)
  have hl : lv_has ls 5 [(0, .ref (eA E 0)), (1, .int x), (2, .int y), (3, .int z)] := hl
  have htl := hwf.tl
  have hwl := hwf.wl
  have hdl := hwf.dl
  refine lv_aload_n X.x X.b d_X_lead_0 rfl (lv_at hl 0 rfl) ?_
  refine q_getr X hW qj3 rfl _ ds_X 0 (by decide) mw_183 rfl (c1 := cB 0) rfl d_X_lead_1 ?_
  refine lv_iload_n X.x X.b d_X_lead_4 rfl (lv_at hl 1 rfl) ?_
  refine q_cvi X (c_Cm_hasWalker l E 0 (by decide) S ρ (by rw [hρ]) hwf x) hW (q_recv X hW (ds_cm (k := 0) (by decide)) rfl) ok_Cm_hasWalker mw_265 ⟨by decide, by decide⟩ (As := [.int x]) rfl rfl (Nat.le_of_ble_eq_true rfl) (lv := [(0, .ref (eA E 0)), (1, .int x), (2, .int y), (3, .int z)]) hl ⟨Nat.le_refl 0, Nat.le_refl 0⟩ d_X_lead_5 (fun H locs hW => ?_)
  refine lv_if_eq (tgt := 37) X.x X.b d_X_lead_8 (by decide) (fun c8 => ?_) (fun c8 => ?_)
  · have c8 := b2i_e c8
    refine lv_aload_n X.x X.b d_X_lead_37 rfl (lv_at hl 0 rfl) ?_
    refine lv_ldc (v := (-1000001)) X.x X.b X.ow (X.ts _ mw_212) d_X_lead_38 ?_
    refine q_cvi X (c_X_told_0 l E S φ (by rw [hφ])) hW (q_recv X hW ds_X rfl) ok_X_told mw_213 ⟨by decide, by decide⟩ (As := [.int (-1000001)]) rfl rfl (Nat.le_of_ble_eq_true rfl) (lv := [(0, .ref (eA E 0)), (1, .int x), (2, .int y), (3, .int z)]) hl ⟨Nat.le_refl 0, Nat.le_refl 0⟩ d_X_lead_40 (fun H locs hW => ?_)
    have hW : qWH E (qr S 14 (fnS φ 0)) s H locs := hW
    exact q_zret X rfl hW ⟨rfl, rfl⟩ d_X_lead_43
  · have c8 := b2i_n c8
    refine lv_iload_n X.x X.b d_X_lead_11 rfl (lv_at hl 2 rfl) ?_
    refine lv_iconst (v := nI 0) X.x X.b d_X_lead_12 (by decide) ?_
    refine lv_iconst (v := nI 5) X.x X.b d_X_lead_13 (by decide) ?_
    refine q_csi X (c_X_within l E S y (nI 0) (nI 5)) hW ok_X_within mw_209 ⟨by decide, by decide⟩ (As := [.int y, .int (nI 0), .int (nI 5)]) rfl rfl (Nat.le_of_ble_eq_true rfl) (lv := [(0, .ref (eA E 0)), (1, .int x), (2, .int y), (3, .int z)]) hl ⟨Nat.le_refl 0, Nat.le_refl 0⟩ d_X_lead_14 (fun H locs hW => ?_)
    refine lv_if_eq (tgt := 37) X.x X.b d_X_lead_17 (by decide) (fun c17 => ?_) (fun c17 => ?_)
    · have c17 := b2i_e c17
      refine lv_aload_n X.x X.b d_X_lead_37 rfl (lv_at hl 0 rfl) ?_
      refine lv_ldc (v := (-1000001)) X.x X.b X.ow (X.ts _ mw_212) d_X_lead_38 ?_
      refine q_cvi X (c_X_told_0 l E S φ (by rw [hφ])) hW (q_recv X hW ds_X rfl) ok_X_told mw_213 ⟨by decide, by decide⟩ (As := [.int (-1000001)]) rfl rfl (Nat.le_of_ble_eq_true rfl) (lv := [(0, .ref (eA E 0)), (1, .int x), (2, .int y), (3, .int z)]) hl ⟨Nat.le_refl 0, Nat.le_refl 0⟩ d_X_lead_40 (fun H locs hW => ?_)
      have hW : qWH E (qr S 14 (fnS φ 0)) s H locs := hW
      exact q_zret X rfl hW ⟨rfl, rfl⟩ d_X_lead_43
    · have c17 := b2i_n c17
      exact absurd ⟨c8, c17⟩ h
set_option maxHeartbeats 1000000 in
set_option maxRecDepth 20000 in
theorem c_X_sees_g (l : Launch) (E : QE) (S : QM) (ρ φ : Nat → Int32) (hρ : S 0 = ρ) (hφ : S 14 = φ) (hwf : WF ρ) (w : Nat) (hw : w < nW ρ) : qCI E l y_X_sees prog_1_method_10_code 4 .int 4 [.ref (eA E 0), .int (nI w)] S (seeS ρ w) S := by
  refine qCI_of (by decide) (Nat.le_of_ble_eq_true rfl) (fun p e s m below meth c ls X hW hl => ?_)
  have hl : lv_has ls 4 [(0, .ref (eA E 0)), (1, .int (nI w))] := hl
  have htl := hwf.tl
  have hwl := hwf.wl
  have hdl := hwf.dl
  refine lv_aload_n X.x X.b d_X_sees_0 rfl (lv_at hl 0 rfl) ?_
  refine q_getr X hW qj3 rfl _ ds_X 0 (by decide) mw_183 rfl (c1 := cB 0) rfl d_X_sees_1 ?_
  refine lv_iload_n X.x X.b d_X_sees_4 rfl (lv_at hl 1 rfl) ?_
  refine q_cvi X (c_Cm_hasWalker l E 0 (by decide) S ρ (by rw [hρ]) hwf (nI w)) hW (q_recv X hW (ds_cm (k := 0) (by decide)) rfl) ok_Cm_hasWalker mw_265 ⟨by decide, by decide⟩ (As := [.int (nI w)]) rfl rfl (Nat.le_of_ble_eq_true rfl) (lv := [(0, .ref (eA E 0)), (1, .int (nI w))]) hl ⟨Nat.le_refl 0, Nat.le_refl 0⟩ d_X_sees_5 (fun H locs hW => ?_)
  refine lv_if_ne (tgt := 18) X.x X.b d_X_sees_8 (by decide) (fun c8 => ?_) (fun c8 => ?_)
  · have c8 := b2i_n c8
    have c8 := (isW_i hwf (by omega)).mp c8
    refine lv_iconst (v := nI 0) X.x X.b d_X_sees_18 (by decide) ?_
    refine lv_istore_n (lv' := [(2, .int (nI 0)), (0, .ref (eA E 0)), (1, .int (nI w))]) X.x X.b d_X_sees_19 rfl hl (by decide) rfl (fun ls hl => ?_)
    refine lv_iconst (v := nI 0) X.x X.b d_X_sees_20 (by decide) ?_
    refine lv_istore_n (lv' := [(3, .int (nI 0)), (2, .int (nI 0)), (0, .ref (eA E 0)), (1, .int (nI w))]) X.x X.b d_X_sees_21 rfl hl (by decide) rfl (fun ls hl => ?_)
    have loop22 : ∀ (fu22 : Nat) (j : Nat) (a : Int32), j ≤ nT ρ → a = fo (fun i a => if see ρ w i then a ||| bt i else a) j (nI 0) → nT ρ - j < fu22 → ∀ (H : Heap) (locs : List Loc) (ls : Array Slot), qWH E S s H locs → lv_has ls 4 [(3, .int (nI j)), (2, .int a), (0, .ref (eA E 0)), (1, .int (nI w))] → W p l e (qRm 4) s m ([.ref (eA E 0), .int (nI w)] : List Value).toArray below meth c H locs 0 0 (MQ below (qQi E (seeS ρ w) S s.heap.size) ([.ref (eA E 0), .int (nI w)] : List Value).toArray s 0 0 (qAA E s.heap.size)) (F0 m 22 ls []) := by
      intro fu22
      induction fu22 with
      | zero =>
        intro j a hj ha hfu
        exact absurd hfu (Nat.not_lt_zero _)
      | succ fu22 ih22 =>
        intro j a hj ha hfu H locs ls hW hl
        refine lv_iload_n X.x X.b d_X_sees_22 rfl (lv_at hl 0 rfl) ?_
        refine lv_aload_n X.x X.b d_X_sees_23 rfl (lv_at hl 2 rfl) ?_
        refine q_getr X hW qj3 rfl _ ds_X 0 (by decide) mw_183 rfl (c1 := cB 0) rfl d_X_sees_24 ?_
        refine g_geti X hW qj0 rfl _ (ds_cm (k := 0) (by decide)) 4 (by decide) mw_110 rfl (r0 := 0) (p0 := 1) rfl (v := ρ 1) (by rw [hρ]) d_X_sees_27 ?_
        rw [hwf.t]
        refine lv_icmp_ge (tgt := 57) X.x X.b d_X_sees_30 (by decide) (fun c30 => ?_) (fun c30 => ?_)
        · have c30 : (nT ρ) ≤ j := (nI_leI (by omega) (by omega)).mp c30
          refine lv_iload_n X.x X.b d_X_sees_57 rfl (lv_at hl 1 rfl) ?_
          exact q_zret X rfl hW ⟨by rw [ha, show j = nT ρ by omega]; rfl, rfl⟩ d_X_sees_58
        · have c30 : ¬ (nT ρ) ≤ j := fun z => c30 ((nI_leI (by omega) (by omega)).mpr z)
          refine lv_aload_n X.x X.b d_X_sees_33 rfl (lv_at hl 2 rfl) ?_
          refine q_getr X hW qj3 rfl _ ds_X 0 (by decide) mw_183 rfl (c1 := cB 0) rfl d_X_sees_34 ?_
          refine lv_iload_n X.x X.b d_X_sees_37 rfl (lv_at hl 3 rfl) ?_
          refine lv_iload_n X.x X.b d_X_sees_38 rfl (lv_at hl 0 rfl) ?_
          refine q_cvi X (c_Cm_canSee l E 0 (by decide) S ρ (by rw [hρ]) hwf w j (by omega) (by omega)) hW (q_recv X hW (ds_cm (k := 0) (by decide)) rfl) ok_Cm_canSee mw_281 ⟨by decide, by decide⟩ (As := [.int (nI w), .int (nI j)]) rfl rfl (Nat.le_of_ble_eq_true rfl) (lv := [(3, .int (nI j)), (2, .int a), (0, .ref (eA E 0)), (1, .int (nI w))]) hl ⟨Nat.le_refl 0, Nat.le_refl 0⟩ d_X_sees_39 (fun H locs hW => ?_)
          refine lv_if_eq (tgt := 51) X.x X.b d_X_sees_42 (by decide) (fun c42 => ?_) (fun c42 => ?_)
          · have c42 := b2i_e c42
            refine lv_iinc (v := nI (j + 1)) (lv' := [(3, .int (nI (j + 1))), (2, .int a), (0, .ref (eA E 0)), (1, .int (nI w))]) X.x X.b d_X_sees_51 hl (k := 0) rfl (by rw [show Int32.ofInt 1 = nI 1 from by decide, nI_add]) (by decide) rfl (fun ls hl => ?_)
            refine lv_goto (tgt := 22) X.x X.b d_X_sees_54 (by decide) ?_
            exact ih22 (j + 1) a (by omega) (by rw [fo_succ, ← ha]; first | exact (if_pos c42).symm | exact (if_neg c42).symm) (by omega) _ _ _ hW (lv_sub hl [0, 1, 2, 3] rfl)
          · have c42 := b2i_n c42
            refine lv_iload_n X.x X.b d_X_sees_45 rfl (lv_at hl 1 rfl) ?_
            refine lv_iconst (v := nI 1) X.x X.b d_X_sees_46 (by decide) ?_
            refine lv_iload_n X.x X.b d_X_sees_47 rfl (lv_at hl 0 rfl) ?_
            refine lv_ishl X.x X.b d_X_sees_48 ?_
            refine lv_ior X.x X.b d_X_sees_49 ?_
            refine lv_istore_n (lv' := [(2, .int (a ||| ((nI 1) <<< ((nI j) &&& 31)))), (3, .int (nI j)), (0, .ref (eA E 0)), (1, .int (nI w))]) X.x X.b d_X_sees_50 rfl hl (by decide) rfl (fun ls hl => ?_)
            refine lv_iinc (v := nI (j + 1)) (lv' := [(3, .int (nI (j + 1))), (2, .int (a ||| ((nI 1) <<< ((nI j) &&& 31)))), (0, .ref (eA E 0)), (1, .int (nI w))]) X.x X.b d_X_sees_51 hl (k := 1) rfl (by rw [show Int32.ofInt 1 = nI 1 from by decide, nI_add]) (by decide) rfl (fun ls hl => ?_)
            refine lv_goto (tgt := 22) X.x X.b d_X_sees_54 (by decide) ?_
            exact ih22 (j + 1) (a ||| ((nI 1) <<< ((nI j) &&& 31))) (by omega) (by rw [fo_succ, ← ha]; first | exact (if_pos c42).symm | exact (if_neg c42).symm) (by omega) _ _ _ hW (lv_sub hl [0, 1, 2, 3] rfl)
    exact loop22 (nT ρ - 0 + 1) 0 (nI 0) (by omega) rfl (Nat.lt_succ_self _) _ _ _ hW (lv_sub hl [0, 1, 2, 3] rfl)
  · have c8 := b2i_e c8
    have c8 := mt (isW_i hwf (by omega)).mpr c8
    omega
set_option maxHeartbeats 1000000 in
set_option maxRecDepth 20000 in
theorem c_X_sees_b (l : Launch) (E : QE) (S : QM) (ρ φ : Nat → Int32) (hρ : S 0 = ρ) (hφ : S 14 = φ) (hwf : WF ρ) (x : Int32) (h : ¬ (isW ρ x)) : qCI E l y_X_sees prog_1_method_10_code 4 .int 3 [.ref (eA E 0), .int x] S (-1000001) (qr S 14 (fnS φ 0)) := by
  refine qCI_of (by decide) (Nat.le_of_ble_eq_true rfl) (fun p e s m below meth c ls X hW hl => ?_)
  have hl : lv_has ls 4 [(0, .ref (eA E 0)), (1, .int x)] := hl
  have htl := hwf.tl
  have hwl := hwf.wl
  have hdl := hwf.dl
  refine lv_aload_n X.x X.b d_X_sees_0 rfl (lv_at hl 0 rfl) ?_
  refine q_getr X hW qj3 rfl _ ds_X 0 (by decide) mw_183 rfl (c1 := cB 0) rfl d_X_sees_1 ?_
  refine lv_iload_n X.x X.b d_X_sees_4 rfl (lv_at hl 1 rfl) ?_
  refine q_cvi X (c_Cm_hasWalker l E 0 (by decide) S ρ (by rw [hρ]) hwf x) hW (q_recv X hW (ds_cm (k := 0) (by decide)) rfl) ok_Cm_hasWalker mw_265 ⟨by decide, by decide⟩ (As := [.int x]) rfl rfl (Nat.le_of_ble_eq_true rfl) (lv := [(0, .ref (eA E 0)), (1, .int x)]) hl ⟨Nat.le_refl 0, Nat.le_refl 0⟩ d_X_sees_5 (fun H locs hW => ?_)
  refine lv_if_ne (tgt := 18) X.x X.b d_X_sees_8 (by decide) (fun c8 => ?_) (fun c8 => ?_)
  · have c8 := b2i_n c8
    exact absurd c8 h
  · have c8 := b2i_e c8
    refine lv_aload_n X.x X.b d_X_sees_11 rfl (lv_at hl 0 rfl) ?_
    refine lv_ldc (v := (-1000001)) X.x X.b X.ow (X.ts _ mw_212) d_X_sees_12 ?_
    refine q_cvi X (c_X_told_0 l E S φ (by rw [hφ])) hW (q_recv X hW ds_X rfl) ok_X_told mw_213 ⟨by decide, by decide⟩ (As := [.int (-1000001)]) rfl rfl (Nat.le_of_ble_eq_true rfl) (lv := [(0, .ref (eA E 0)), (1, .int x)]) hl ⟨Nat.le_refl 0, Nat.le_refl 0⟩ d_X_sees_14 (fun H locs hW => ?_)
    have hW : qWH E (qr S 14 (fnS φ 0)) s H locs := hW
    exact q_zret X rfl hW ⟨rfl, rfl⟩ d_X_sees_17
set_option maxHeartbeats 1000000 in
set_option maxRecDepth 20000 in
theorem c_X_seenBy_g (l : Launch) (E : QE) (S : QM) (ρ φ : Nat → Int32) (hρ : S 0 = ρ) (hφ : S 14 = φ) (hwf : WF ρ) (t : Nat) (ht : t < nT ρ) : qCI E l y_X_seenBy prog_1_method_11_code 2 .int 4 [.ref (eA E 0), .int (nI t)] S (snbS ρ t) S := by
  refine qCI_of (by decide) (Nat.le_of_ble_eq_true rfl) (fun p e s m below meth c ls X hW hl => ?_)
  have hl : lv_has ls 2 [(0, .ref (eA E 0)), (1, .int (nI t))] := hl
  have htl := hwf.tl
  have hwl := hwf.wl
  have hdl := hwf.dl
  refine lv_aload_n X.x X.b d_X_seenBy_0 rfl (lv_at hl 0 rfl) ?_
  refine q_getr X hW qj3 rfl _ ds_X 0 (by decide) mw_183 rfl (c1 := cB 0) rfl d_X_seenBy_1 ?_
  refine lv_iload_n X.x X.b d_X_seenBy_4 rfl (lv_at hl 1 rfl) ?_
  refine q_cvi X (c_Cm_hasThing l E 0 (by decide) S ρ (by rw [hρ]) hwf (nI t)) hW (q_recv X hW (ds_cm (k := 0) (by decide)) rfl) ok_Cm_hasThing mw_244 ⟨by decide, by decide⟩ (As := [.int (nI t)]) rfl rfl (Nat.le_of_ble_eq_true rfl) (lv := [(0, .ref (eA E 0)), (1, .int (nI t))]) hl ⟨Nat.le_refl 0, Nat.le_refl 0⟩ d_X_seenBy_5 (fun H locs hW => ?_)
  refine lv_if_eq (tgt := 22) X.x X.b d_X_seenBy_8 (by decide) (fun c8 => ?_) (fun c8 => ?_)
  · have c8 := b2i_e c8
    have c8 := mt (isT_i hwf (by omega)).mpr c8
    omega
  · have c8 := b2i_n c8
    have c8 := (isT_i hwf (by omega)).mp c8
    refine lv_aload_n X.x X.b d_X_seenBy_11 rfl (lv_at hl 0 rfl) ?_
    refine q_getr X hW qj3 rfl _ ds_X 0 (by decide) mw_183 rfl (c1 := cB 0) rfl d_X_seenBy_12 ?_
    refine lv_iload_n X.x X.b d_X_seenBy_15 rfl (lv_at hl 1 rfl) ?_
    refine q_cvi X (c_Cm_seersOf l E 0 (by decide) S ρ (by rw [hρ]) hwf t (by omega)) hW (q_recv X hW (ds_cm (k := 0) (by decide)) rfl) ok_Cm_seersOf mw_294 ⟨by decide, by decide⟩ (As := [.int (nI t)]) rfl rfl (Nat.le_of_ble_eq_true rfl) (lv := [(0, .ref (eA E 0)), (1, .int (nI t))]) hl ⟨Nat.le_refl 0, Nat.le_refl 0⟩ d_X_seenBy_16 (fun H locs hW => ?_)
    refine lv_goto (tgt := 28) X.x X.b d_X_seenBy_19 (by decide) ?_
    exact q_zret X rfl hW ⟨rfl, rfl⟩ d_X_seenBy_28
set_option maxHeartbeats 1000000 in
set_option maxRecDepth 20000 in
theorem c_X_seenBy_b (l : Launch) (E : QE) (S : QM) (ρ φ : Nat → Int32) (hρ : S 0 = ρ) (hφ : S 14 = φ) (hwf : WF ρ) (x : Int32) (h : ¬ (isT ρ x)) : qCI E l y_X_seenBy prog_1_method_11_code 2 .int 3 [.ref (eA E 0), .int x] S (-1000001) (qr S 14 (fnS φ 0)) := by
  refine qCI_of (by decide) (Nat.le_of_ble_eq_true rfl) (fun p e s m below meth c ls X hW hl => ?_)
  have hl : lv_has ls 2 [(0, .ref (eA E 0)), (1, .int x)] := hl
  have htl := hwf.tl
  have hwl := hwf.wl
  have hdl := hwf.dl
  refine lv_aload_n X.x X.b d_X_seenBy_0 rfl (lv_at hl 0 rfl) ?_
  refine q_getr X hW qj3 rfl _ ds_X 0 (by decide) mw_183 rfl (c1 := cB 0) rfl d_X_seenBy_1 ?_
  refine lv_iload_n X.x X.b d_X_seenBy_4 rfl (lv_at hl 1 rfl) ?_
  refine q_cvi X (c_Cm_hasThing l E 0 (by decide) S ρ (by rw [hρ]) hwf x) hW (q_recv X hW (ds_cm (k := 0) (by decide)) rfl) ok_Cm_hasThing mw_244 ⟨by decide, by decide⟩ (As := [.int x]) rfl rfl (Nat.le_of_ble_eq_true rfl) (lv := [(0, .ref (eA E 0)), (1, .int x)]) hl ⟨Nat.le_refl 0, Nat.le_refl 0⟩ d_X_seenBy_5 (fun H locs hW => ?_)
  refine lv_if_eq (tgt := 22) X.x X.b d_X_seenBy_8 (by decide) (fun c8 => ?_) (fun c8 => ?_)
  · have c8 := b2i_e c8
    refine lv_aload_n X.x X.b d_X_seenBy_22 rfl (lv_at hl 0 rfl) ?_
    refine lv_ldc (v := (-1000001)) X.x X.b X.ow (X.ts _ mw_212) d_X_seenBy_23 ?_
    refine q_cvi X (c_X_told_0 l E S φ (by rw [hφ])) hW (q_recv X hW ds_X rfl) ok_X_told mw_213 ⟨by decide, by decide⟩ (As := [.int (-1000001)]) rfl rfl (Nat.le_of_ble_eq_true rfl) (lv := [(0, .ref (eA E 0)), (1, .int x)]) hl ⟨Nat.le_refl 0, Nat.le_refl 0⟩ d_X_seenBy_25 (fun H locs hW => ?_)
    have hW : qWH E (qr S 14 (fnS φ 0)) s H locs := hW
    exact q_zret X rfl hW ⟨rfl, rfl⟩ d_X_seenBy_28
  · have c8 := b2i_n c8
    exact absurd c8 h
