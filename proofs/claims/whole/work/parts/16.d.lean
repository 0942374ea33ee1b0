theorem d_R_turn_0 : decode prog_7_method_14_code 0 = .ok (.iload_n 1, 1) := by decide +kernel
theorem d_R_turn_1 : decode prog_7_method_14_code 1 = .ok (.invokestatic 74, 3) := by decide +kernel
theorem d_R_turn_4 : decode prog_7_method_14_code 4 = .ok (.ifCond .eq 35, 3) := by decide +kernel
theorem d_R_turn_7 : decode prog_7_method_14_code 7 = .ok (.iload_n 2, 1) := by decide +kernel
theorem d_R_turn_8 : decode prog_7_method_14_code 8 = .ok (.iconst 0, 1) := by decide +kernel
theorem d_R_turn_9 : decode prog_7_method_14_code 9 = .ok (.iconst 5, 1) := by decide +kernel
theorem d_R_turn_10 : decode prog_7_method_14_code 10 = .ok (.invokestatic 70, 3) := by decide +kernel
theorem d_R_turn_13 : decode prog_7_method_14_code 13 = .ok (.ifCond .eq 26, 3) := by decide +kernel
theorem d_R_turn_16 : decode prog_7_method_14_code 16 = .ok (.iload_n 3, 1) := by decide +kernel
theorem d_R_turn_17 : decode prog_7_method_14_code 17 = .ok (.invokestatic 78, 3) := by decide +kernel
theorem d_R_turn_20 : decode prog_7_method_14_code 20 = .ok (.ifCond .eq 19, 3) := by decide +kernel
theorem d_R_turn_23 : decode prog_7_method_14_code 23 = .ok (.aload_n 0, 1) := by decide +kernel
theorem d_R_turn_24 : decode prog_7_method_14_code 24 = .ok (.iconst 4, 1) := by decide +kernel
theorem d_R_turn_25 : decode prog_7_method_14_code 25 = .ok (.iload_n 1, 1) := by decide +kernel
theorem d_R_turn_26 : decode prog_7_method_14_code 26 = .ok (.iadd, 1) := by decide +kernel
theorem d_R_turn_27 : decode prog_7_method_14_code 27 = .ok (.bipush 10, 2) := by decide +kernel
theorem d_R_turn_29 : decode prog_7_method_14_code 29 = .ok (.iload_n 2, 1) := by decide +kernel
theorem d_R_turn_30 : decode prog_7_method_14_code 30 = .ok (.imul, 1) := by decide +kernel
theorem d_R_turn_31 : decode prog_7_method_14_code 31 = .ok (.iload_n 3, 1) := by decide +kernel
theorem d_R_turn_32 : decode prog_7_method_14_code 32 = .ok (.iadd, 1) := by decide +kernel
theorem d_R_turn_33 : decode prog_7_method_14_code 33 = .ok (.invokevirtual 81, 3) := by decide +kernel
theorem d_R_turn_36 : decode prog_7_method_14_code 36 = .ok (.goto 9, 3) := by decide +kernel
theorem d_R_turn_45 : decode prog_7_method_14_code 45 = .ok (.ireturn, 1) := by decide +kernel
theorem d_R_turn_39 : decode prog_7_method_14_code 39 = .ok (.aload_n 0, 1) := by decide +kernel
theorem d_R_turn_40 : decode prog_7_method_14_code 40 = .ok (.ldc 60, 2) := by decide +kernel
theorem d_R_turn_42 : decode prog_7_method_14_code 42 = .ok (.invokevirtual 66, 3) := by decide +kernel
theorem d_R_listed_0 : decode prog_7_method_15_code 0 = .ok (.iload_n 1, 1) := by decide +kernel
theorem d_R_listed_1 : decode prog_7_method_15_code 1 = .ok (.invokestatic 74, 3) := by decide +kernel
theorem d_R_listed_4 : decode prog_7_method_15_code 4 = .ok (.ifCond .eq 14, 3) := by decide +kernel
theorem d_R_listed_7 : decode prog_7_method_15_code 7 = .ok (.aload_n 0, 1) := by decide +kernel
theorem d_R_listed_8 : decode prog_7_method_15_code 8 = .ok (.getfield 9, 3) := by decide +kernel
theorem d_R_listed_11 : decode prog_7_method_15_code 11 = .ok (.iconst 4, 1) := by decide +kernel
theorem d_R_listed_12 : decode prog_7_method_15_code 12 = .ok (.iload_n 1, 1) := by decide +kernel
theorem d_R_listed_13 : decode prog_7_method_15_code 13 = .ok (.iadd, 1) := by decide +kernel
theorem d_R_listed_14 : decode prog_7_method_15_code 14 = .ok (.iaload, 1) := by decide +kernel
theorem d_R_listed_15 : decode prog_7_method_15_code 15 = .ok (.goto 9, 3) := by decide +kernel
theorem d_R_listed_24 : decode prog_7_method_15_code 24 = .ok (.ireturn, 1) := by decide +kernel
theorem d_R_listed_18 : decode prog_7_method_15_code 18 = .ok (.aload_n 0, 1) := by decide +kernel
theorem d_R_listed_19 : decode prog_7_method_15_code 19 = .ok (.ldc 60, 2) := by decide +kernel
theorem d_R_listed_21 : decode prog_7_method_15_code 21 = .ok (.invokevirtual 66, 3) := by decide +kernel
theorem d_R_thing_0 : decode prog_7_method_25_code 0 = .ok (.iload_n 1, 1) := by decide +kernel
theorem d_R_thing_1 : decode prog_7_method_25_code 1 = .ok (.invokestatic 91, 3) := by decide +kernel
theorem d_R_thing_4 : decode prog_7_method_25_code 4 = .ok (.ifCond .eq 10, 3) := by decide +kernel
theorem d_R_thing_7 : decode prog_7_method_25_code 7 = .ok (.iload_n 2, 1) := by decide +kernel
theorem d_R_thing_8 : decode prog_7_method_25_code 8 = .ok (.invokestatic 94, 3) := by decide +kernel
theorem d_R_thing_11 : decode prog_7_method_25_code 11 = .ok (.ifCond .ne 10, 3) := by decide +kernel
theorem d_R_thing_21 : decode prog_7_method_25_code 21 = .ok (.aload_n 0, 1) := by decide +kernel
theorem d_R_thing_22 : decode prog_7_method_25_code 22 = .ok (.getfield 9, 3) := by decide +kernel
theorem d_R_thing_25 : decode prog_7_method_25_code 25 = .ok (.iconst 1, 1) := by decide +kernel
theorem d_R_thing_26 : decode prog_7_method_25_code 26 = .ok (.iaload, 1) := by decide +kernel
theorem d_R_thing_27 : decode prog_7_method_25_code 27 = .ok (.bipush 8, 2) := by decide +kernel
theorem d_R_thing_29 : decode prog_7_method_25_code 29 = .ok (.if_icmp .ne 12, 3) := by decide +kernel
theorem d_R_thing_41 : decode prog_7_method_25_code 41 = .ok (.aload_n 0, 1) := by decide +kernel
theorem d_R_thing_42 : decode prog_7_method_25_code 42 = .ok (.iload_n 1, 1) := by decide +kernel
theorem d_R_thing_43 : decode prog_7_method_25_code 43 = .ok (.iload_n 2, 1) := by decide +kernel
theorem d_R_thing_44 : decode prog_7_method_25_code 44 = .ok (.invokevirtual 98, 3) := by decide +kernel
theorem d_R_thing_47 : decode prog_7_method_25_code 47 = .ok (.ireturn, 1) := by decide +kernel
theorem d_R_thing_32 : decode prog_7_method_25_code 32 = .ok (.aload_n 0, 1) := by decide +kernel
theorem d_R_thing_33 : decode prog_7_method_25_code 33 = .ok (.ldc 97, 2) := by decide +kernel
theorem d_R_thing_35 : decode prog_7_method_25_code 35 = .ok (.invokevirtual 66, 3) := by decide +kernel
theorem d_R_thing_38 : decode prog_7_method_25_code 38 = .ok (.goto 9, 3) := by decide +kernel
theorem d_R_thing_14 : decode prog_7_method_25_code 14 = .ok (.aload_n 0, 1) := by decide +kernel
theorem d_R_thing_15 : decode prog_7_method_25_code 15 = .ok (.ldc 60, 2) := by decide +kernel
theorem d_R_thing_17 : decode prog_7_method_25_code 17 = .ok (.invokevirtual 66, 3) := by decide +kernel
theorem d_R_thing_20 : decode prog_7_method_25_code 20 = .ok (.ireturn, 1) := by decide +kernel
theorem d_R_walker_0 : decode prog_7_method_27_code 0 = .ok (.iload_n 1, 1) := by decide +kernel
theorem d_R_walker_1 : decode prog_7_method_27_code 1 = .ok (.invokestatic 94, 3) := by decide +kernel
theorem d_R_walker_4 : decode prog_7_method_27_code 4 = .ok (.ifCond .eq 10, 3) := by decide +kernel
theorem d_R_walker_7 : decode prog_7_method_27_code 7 = .ok (.iload_n 2, 1) := by decide +kernel
theorem d_R_walker_8 : decode prog_7_method_27_code 8 = .ok (.invokestatic 78, 3) := by decide +kernel
theorem d_R_walker_11 : decode prog_7_method_27_code 11 = .ok (.ifCond .ne 10, 3) := by decide +kernel
theorem d_R_walker_21 : decode prog_7_method_27_code 21 = .ok (.aload_n 0, 1) := by decide +kernel
theorem d_R_walker_22 : decode prog_7_method_27_code 22 = .ok (.getfield 9, 3) := by decide +kernel
theorem d_R_walker_25 : decode prog_7_method_27_code 25 = .ok (.iconst 3, 1) := by decide +kernel
theorem d_R_walker_26 : decode prog_7_method_27_code 26 = .ok (.iaload, 1) := by decide +kernel
theorem d_R_walker_27 : decode prog_7_method_27_code 27 = .ok (.bipush 6, 2) := by decide +kernel
theorem d_R_walker_29 : decode prog_7_method_27_code 29 = .ok (.if_icmp .ne 12, 3) := by decide +kernel
theorem d_R_walker_41 : decode prog_7_method_27_code 41 = .ok (.aload_n 0, 1) := by decide +kernel
theorem d_R_walker_42 : decode prog_7_method_27_code 42 = .ok (.iload_n 1, 1) := by decide +kernel
theorem d_R_walker_43 : decode prog_7_method_27_code 43 = .ok (.iload_n 2, 1) := by decide +kernel
theorem d_R_walker_44 : decode prog_7_method_27_code 44 = .ok (.invokevirtual 101, 3) := by decide +kernel
theorem d_R_walker_47 : decode prog_7_method_27_code 47 = .ok (.ireturn, 1) := by decide +kernel
theorem d_R_walker_32 : decode prog_7_method_27_code 32 = .ok (.aload_n 0, 1) := by decide +kernel
theorem d_R_walker_33 : decode prog_7_method_27_code 33 = .ok (.ldc 97, 2) := by decide +kernel
theorem d_R_walker_35 : decode prog_7_method_27_code 35 = .ok (.invokevirtual 66, 3) := by decide +kernel
theorem d_R_walker_38 : decode prog_7_method_27_code 38 = .ok (.goto 9, 3) := by decide +kernel
theorem d_R_walker_14 : decode prog_7_method_27_code 14 = .ok (.aload_n 0, 1) := by decide +kernel
theorem d_R_walker_15 : decode prog_7_method_27_code 15 = .ok (.ldc 60, 2) := by decide +kernel
theorem d_R_walker_17 : decode prog_7_method_27_code 17 = .ok (.invokevirtual 66, 3) := by decide +kernel
theorem d_R_walker_20 : decode prog_7_method_27_code 20 = .ok (.ireturn, 1) := by decide +kernel
theorem d_R_of_0 : decode prog_7_method_33_code 0 = .ok (.aload_n 0, 1) := by decide +kernel
theorem d_R_of_1 : decode prog_7_method_33_code 1 = .ok (.iload_n 1, 1) := by decide +kernel
theorem d_R_of_2 : decode prog_7_method_33_code 2 = .ok (.invokevirtual 116, 3) := by decide +kernel
theorem d_R_of_5 : decode prog_7_method_33_code 5 = .ok (.ifCond .eq 21, 3) := by decide +kernel
theorem d_R_of_8 : decode prog_7_method_33_code 8 = .ok (.iload_n 2, 1) := by decide +kernel
theorem d_R_of_9 : decode prog_7_method_33_code 9 = .ok (.iconst 0, 1) := by decide +kernel
theorem d_R_of_10 : decode prog_7_method_33_code 10 = .ok (.iconst 5, 1) := by decide +kernel
theorem d_R_of_11 : decode prog_7_method_33_code 11 = .ok (.invokestatic 70, 3) := by decide +kernel
theorem d_R_of_14 : decode prog_7_method_33_code 14 = .ok (.ifCond .eq 12, 3) := by decide +kernel
theorem d_R_of_17 : decode prog_7_method_33_code 17 = .ok (.aload_n 0, 1) := by decide +kernel
theorem d_R_of_18 : decode prog_7_method_33_code 18 = .ok (.iload_n 1, 1) := by decide +kernel
theorem d_R_of_19 : decode prog_7_method_33_code 19 = .ok (.iload_n 2, 1) := by decide +kernel
theorem d_R_of_20 : decode prog_7_method_33_code 20 = .ok (.invokevirtual 119, 3) := by decide +kernel
theorem d_R_of_23 : decode prog_7_method_33_code 23 = .ok (.goto 9, 3) := by decide +kernel
theorem d_R_of_32 : decode prog_7_method_33_code 32 = .ok (.ireturn, 1) := by decide +kernel
theorem d_R_of_26 : decode prog_7_method_33_code 26 = .ok (.aload_n 0, 1) := by decide +kernel
theorem d_R_of_27 : decode prog_7_method_33_code 27 = .ok (.ldc 60, 2) := by decide +kernel
theorem d_R_of_29 : decode prog_7_method_33_code 29 = .ok (.invokevirtual 66, 3) := by decide +kernel
theorem d_R_change_0 : decode prog_7_method_34_code 0 = .ok (.iload_n 2, 1) := by decide +kernel
theorem d_R_change_1 : decode prog_7_method_34_code 1 = .ok (.ifCond .ne 10, 3) := by decide +kernel
theorem d_R_change_4 : decode prog_7_method_34_code 4 = .ok (.iload_n 3, 1) := by decide +kernel
theorem d_R_change_5 : decode prog_7_method_34_code 5 = .ok (.invokestatic 91, 3) := by decide +kernel
theorem d_R_change_8 : decode prog_7_method_34_code 8 = .ok (.goto 36, 3) := by decide +kernel
theorem d_R_change_44 : decode prog_7_method_34_code 44 = .ok (.istore 4, 2) := by decide +kernel
theorem d_R_change_46 : decode prog_7_method_34_code 46 = .ok (.aload_n 0, 1) := by decide +kernel
theorem d_R_change_47 : decode prog_7_method_34_code 47 = .ok (.iload_n 1, 1) := by decide +kernel
theorem d_R_change_48 : decode prog_7_method_34_code 48 = .ok (.invokevirtual 116, 3) := by decide +kernel
theorem d_R_change_51 : decode prog_7_method_34_code 51 = .ok (.ifCond .eq 21, 3) := by decide +kernel
theorem d_R_change_54 : decode prog_7_method_34_code 54 = .ok (.iload 4, 2) := by decide +kernel
theorem d_R_change_56 : decode prog_7_method_34_code 56 = .ok (.ifCond .eq 16, 3) := by decide +kernel
theorem d_R_change_59 : decode prog_7_method_34_code 59 = .ok (.aload_n 0, 1) := by decide +kernel
theorem d_R_change_60 : decode prog_7_method_34_code 60 = .ok (.iload_n 1, 1) := by decide +kernel
theorem d_R_change_61 : decode prog_7_method_34_code 61 = .ok (.iload_n 2, 1) := by decide +kernel
theorem d_R_change_62 : decode prog_7_method_34_code 62 = .ok (.invokestatic 85, 3) := by decide +kernel
theorem d_R_change_65 : decode prog_7_method_34_code 65 = .ok (.iload_n 3, 1) := by decide +kernel
theorem d_R_change_66 : decode prog_7_method_34_code 66 = .ok (.invokevirtual 81, 3) := by decide +kernel
theorem d_R_change_69 : decode prog_7_method_34_code 69 = .ok (.goto 9, 3) := by decide +kernel
theorem d_R_change_78 : decode prog_7_method_34_code 78 = .ok (.ireturn, 1) := by decide +kernel
theorem d_R_change_72 : decode prog_7_method_34_code 72 = .ok (.aload_n 0, 1) := by decide +kernel
theorem d_R_change_73 : decode prog_7_method_34_code 73 = .ok (.ldc 60, 2) := by decide +kernel
theorem d_R_change_75 : decode prog_7_method_34_code 75 = .ok (.invokevirtual 66, 3) := by decide +kernel
theorem d_R_change_11 : decode prog_7_method_34_code 11 = .ok (.iload_n 2, 1) := by decide +kernel
theorem d_R_change_12 : decode prog_7_method_34_code 12 = .ok (.iconst 1, 1) := by decide +kernel
theorem d_R_change_13 : decode prog_7_method_34_code 13 = .ok (.if_icmp .ne 10, 3) := by decide +kernel
theorem d_R_change_16 : decode prog_7_method_34_code 16 = .ok (.iload_n 3, 1) := by decide +kernel
theorem d_R_change_17 : decode prog_7_method_34_code 17 = .ok (.invokestatic 94, 3) := by decide +kernel
theorem d_R_change_20 : decode prog_7_method_34_code 20 = .ok (.goto 24, 3) := by decide +kernel
theorem d_R_change_23 : decode prog_7_method_34_code 23 = .ok (.iload_n 2, 1) := by decide +kernel
theorem d_R_change_24 : decode prog_7_method_34_code 24 = .ok (.iconst 2, 1) := by decide +kernel
theorem d_R_change_25 : decode prog_7_method_34_code 25 = .ok (.if_icmp .ne 18, 3) := by decide +kernel
theorem d_R_change_28 : decode prog_7_method_34_code 28 = .ok (.iload_n 3, 1) := by decide +kernel
theorem d_R_change_29 : decode prog_7_method_34_code 29 = .ok (.iconst 0, 1) := by decide +kernel
theorem d_R_change_30 : decode prog_7_method_34_code 30 = .ok (.sipush 9999, 3) := by decide +kernel
theorem d_R_change_33 : decode prog_7_method_34_code 33 = .ok (.invokestatic 70, 3) := by decide +kernel
theorem d_R_change_36 : decode prog_7_method_34_code 36 = .ok (.ifCond .eq 7, 3) := by decide +kernel
theorem d_R_change_39 : decode prog_7_method_34_code 39 = .ok (.iconst 1, 1) := by decide +kernel
theorem d_R_change_40 : decode prog_7_method_34_code 40 = .ok (.goto 4, 3) := by decide +kernel
theorem d_R_change_43 : decode prog_7_method_34_code 43 = .ok (.iconst 0, 1) := by decide +kernel
theorem d_R_ofWalker_0 : decode prog_7_method_35_code 0 = .ok (.aload_n 0, 1) := by decide +kernel
theorem d_R_ofWalker_1 : decode prog_7_method_35_code 1 = .ok (.iload_n 1, 1) := by decide +kernel
theorem d_R_ofWalker_2 : decode prog_7_method_35_code 2 = .ok (.invokevirtual 122, 3) := by decide +kernel
theorem d_R_ofWalker_5 : decode prog_7_method_35_code 5 = .ok (.ifCond .eq 21, 3) := by decide +kernel
theorem d_R_ofWalker_8 : decode prog_7_method_35_code 8 = .ok (.iload_n 2, 1) := by decide +kernel
theorem d_R_ofWalker_9 : decode prog_7_method_35_code 9 = .ok (.iconst 0, 1) := by decide +kernel
theorem d_R_ofWalker_10 : decode prog_7_method_35_code 10 = .ok (.iconst 5, 1) := by decide +kernel
theorem d_R_ofWalker_11 : decode prog_7_method_35_code 11 = .ok (.invokestatic 70, 3) := by decide +kernel
theorem d_R_ofWalker_14 : decode prog_7_method_35_code 14 = .ok (.ifCond .eq 12, 3) := by decide +kernel
theorem d_R_ofWalker_17 : decode prog_7_method_35_code 17 = .ok (.aload_n 0, 1) := by decide +kernel
theorem d_R_ofWalker_18 : decode prog_7_method_35_code 18 = .ok (.iload_n 1, 1) := by decide +kernel
theorem d_R_ofWalker_19 : decode prog_7_method_35_code 19 = .ok (.iload_n 2, 1) := by decide +kernel
theorem d_R_ofWalker_20 : decode prog_7_method_35_code 20 = .ok (.invokevirtual 125, 3) := by decide +kernel
theorem d_R_ofWalker_23 : decode prog_7_method_35_code 23 = .ok (.goto 9, 3) := by decide +kernel
theorem d_R_ofWalker_32 : decode prog_7_method_35_code 32 = .ok (.ireturn, 1) := by decide +kernel
theorem d_R_ofWalker_26 : decode prog_7_method_35_code 26 = .ok (.aload_n 0, 1) := by decide +kernel
theorem d_R_ofWalker_27 : decode prog_7_method_35_code 27 = .ok (.ldc 60, 2) := by decide +kernel
theorem d_R_ofWalker_29 : decode prog_7_method_35_code 29 = .ok (.invokevirtual 66, 3) := by decide +kernel
theorem d_R_isField_0 : decode prog_7_method_36_code 0 = .ok (.iload_n 0, 1) := by decide +kernel
theorem d_R_isField_1 : decode prog_7_method_36_code 1 = .ok (.tableswitch 68 0 5 #[39, 44, 49, 54, 59, 59], 39) := by decide +kernel
theorem d_R_isField_40 : decode prog_7_method_36_code 40 = .ok (.iload_n 1, 1) := by decide +kernel
theorem d_R_isField_41 : decode prog_7_method_36_code 41 = .ok (.invokestatic 94, 3) := by decide +kernel
theorem d_R_isField_44 : decode prog_7_method_36_code 44 = .ok (.ireturn, 1) := by decide +kernel
theorem d_R_isField_45 : decode prog_7_method_36_code 45 = .ok (.iload_n 1, 1) := by decide +kernel
theorem d_R_isField_46 : decode prog_7_method_36_code 46 = .ok (.invokestatic 78, 3) := by decide +kernel
theorem d_R_isField_49 : decode prog_7_method_36_code 49 = .ok (.ireturn, 1) := by decide +kernel
theorem d_R_isField_50 : decode prog_7_method_36_code 50 = .ok (.iload_n 1, 1) := by decide +kernel
theorem d_R_isField_51 : decode prog_7_method_36_code 51 = .ok (.invokestatic 128, 3) := by decide +kernel
theorem d_R_isField_54 : decode prog_7_method_36_code 54 = .ok (.ireturn, 1) := by decide +kernel
theorem d_R_isField_55 : decode prog_7_method_36_code 55 = .ok (.iload_n 1, 1) := by decide +kernel
theorem d_R_isField_56 : decode prog_7_method_36_code 56 = .ok (.invokestatic 131, 3) := by decide +kernel
theorem d_R_isField_59 : decode prog_7_method_36_code 59 = .ok (.ireturn, 1) := by decide +kernel
theorem d_R_isField_60 : decode prog_7_method_36_code 60 = .ok (.iload_n 1, 1) := by decide +kernel
theorem d_R_isField_61 : decode prog_7_method_36_code 61 = .ok (.iconst 0, 1) := by decide +kernel
theorem d_R_isField_62 : decode prog_7_method_36_code 62 = .ok (.sipush 9999, 3) := by decide +kernel
theorem d_R_isField_65 : decode prog_7_method_36_code 65 = .ok (.invokestatic 70, 3) := by decide +kernel
theorem d_R_isField_68 : decode prog_7_method_36_code 68 = .ok (.ireturn, 1) := by decide +kernel
theorem d_R_isField_69 : decode prog_7_method_36_code 69 = .ok (.iconst 0, 1) := by decide +kernel
theorem d_R_isField_70 : decode prog_7_method_36_code 70 = .ok (.ireturn, 1) := by decide +kernel
theorem d_R_lead_0 : decode prog_7_method_37_code 0 = .ok (.aload_n 0, 1) := by decide +kernel
theorem d_R_lead_1 : decode prog_7_method_37_code 1 = .ok (.iload_n 1, 1) := by decide +kernel
theorem d_R_lead_2 : decode prog_7_method_37_code 2 = .ok (.invokevirtual 122, 3) := by decide +kernel
theorem d_R_lead_5 : decode prog_7_method_37_code 5 = .ok (.ifCond .eq 24, 3) := by decide +kernel
theorem d_R_lead_8 : decode prog_7_method_37_code 8 = .ok (.iload_n 2, 1) := by decide +kernel
theorem d_R_lead_9 : decode prog_7_method_37_code 9 = .ok (.iload_n 3, 1) := by decide +kernel
theorem d_R_lead_10 : decode prog_7_method_37_code 10 = .ok (.invokestatic 134, 3) := by decide +kernel
theorem d_R_lead_13 : decode prog_7_method_37_code 13 = .ok (.ifCond .eq 16, 3) := by decide +kernel
theorem d_R_lead_16 : decode prog_7_method_37_code 16 = .ok (.aload_n 0, 1) := by decide +kernel
theorem d_R_lead_17 : decode prog_7_method_37_code 17 = .ok (.iload_n 1, 1) := by decide +kernel
theorem d_R_lead_18 : decode prog_7_method_37_code 18 = .ok (.iload_n 2, 1) := by decide +kernel
theorem d_R_lead_19 : decode prog_7_method_37_code 19 = .ok (.invokestatic 88, 3) := by decide +kernel
theorem d_R_lead_22 : decode prog_7_method_37_code 22 = .ok (.iload_n 3, 1) := by decide +kernel
theorem d_R_lead_23 : decode prog_7_method_37_code 23 = .ok (.invokevirtual 81, 3) := by decide +kernel
theorem d_R_lead_26 : decode prog_7_method_37_code 26 = .ok (.goto 9, 3) := by decide +kernel
theorem d_R_lead_35 : decode prog_7_method_37_code 35 = .ok (.ireturn, 1) := by decide +kernel
theorem d_R_lead_29 : decode prog_7_method_37_code 29 = .ok (.aload_n 0, 1) := by decide +kernel
theorem d_R_lead_30 : decode prog_7_method_37_code 30 = .ok (.ldc 60, 2) := by decide +kernel
theorem d_R_lead_32 : decode prog_7_method_37_code 32 = .ok (.invokevirtual 66, 3) := by decide +kernel
theorem d_R_sees_0 : decode prog_7_method_40_code 0 = .ok (.aload_n 0, 1) := by decide +kernel
theorem d_R_sees_1 : decode prog_7_method_40_code 1 = .ok (.iload_n 1, 1) := by decide +kernel
theorem d_R_sees_2 : decode prog_7_method_40_code 2 = .ok (.invokevirtual 122, 3) := by decide +kernel
theorem d_R_sees_5 : decode prog_7_method_40_code 5 = .ok (.ifCond .ne 10, 3) := by decide +kernel
theorem d_R_sees_15 : decode prog_7_method_40_code 15 = .ok (.iconst 0, 1) := by decide +kernel
theorem d_R_sees_16 : decode prog_7_method_40_code 16 = .ok (.istore_n 2, 1) := by decide +kernel
theorem d_R_sees_17 : decode prog_7_method_40_code 17 = .ok (.iconst 0, 1) := by decide +kernel
theorem d_R_sees_18 : decode prog_7_method_40_code 18 = .ok (.istore_n 3, 1) := by decide +kernel
theorem d_R_sees_19 : decode prog_7_method_40_code 19 = .ok (.iload_n 3, 1) := by decide +kernel
theorem d_R_sees_20 : decode prog_7_method_40_code 20 = .ok (.aload_n 0, 1) := by decide +kernel
theorem d_R_sees_21 : decode prog_7_method_40_code 21 = .ok (.getfield 9, 3) := by decide +kernel
theorem d_R_sees_24 : decode prog_7_method_40_code 24 = .ok (.iconst 1, 1) := by decide +kernel
theorem d_R_sees_25 : decode prog_7_method_40_code 25 = .ok (.iaload, 1) := by decide +kernel
theorem d_R_sees_26 : decode prog_7_method_40_code 26 = .ok (.if_icmp .ge 28, 3) := by decide +kernel
theorem d_R_sees_29 : decode prog_7_method_40_code 29 = .ok (.iload_n 2, 1) := by decide +kernel
theorem d_R_sees_30 : decode prog_7_method_40_code 30 = .ok (.aload_n 0, 1) := by decide +kernel
theorem d_R_sees_31 : decode prog_7_method_40_code 31 = .ok (.iload_n 1, 1) := by decide +kernel
theorem d_R_sees_32 : decode prog_7_method_40_code 32 = .ok (.iload_n 3, 1) := by decide +kernel
theorem d_R_sees_33 : decode prog_7_method_40_code 33 = .ok (.invokevirtual 146, 3) := by decide +kernel
theorem d_R_sees_36 : decode prog_7_method_40_code 36 = .ok (.ifCond .eq 9, 3) := by decide +kernel
theorem d_R_sees_39 : decode prog_7_method_40_code 39 = .ok (.iconst 1, 1) := by decide +kernel
theorem d_R_sees_40 : decode prog_7_method_40_code 40 = .ok (.iload_n 3, 1) := by decide +kernel
theorem d_R_sees_41 : decode prog_7_method_40_code 41 = .ok (.ishl, 1) := by decide +kernel
theorem d_R_sees_42 : decode prog_7_method_40_code 42 = .ok (.goto 4, 3) := by decide +kernel
theorem d_R_sees_45 : decode prog_7_method_40_code 45 = .ok (.iconst 0, 1) := by decide +kernel
theorem d_R_sees_46 : decode prog_7_method_40_code 46 = .ok (.ior, 1) := by decide +kernel
theorem d_R_sees_47 : decode prog_7_method_40_code 47 = .ok (.istore_n 2, 1) := by decide +kernel
theorem d_R_sees_48 : decode prog_7_method_40_code 48 = .ok (.iinc 3 1, 3) := by decide +kernel
theorem d_R_sees_51 : decode prog_7_method_40_code 51 = .ok (.goto (-32), 3) := by decide +kernel
theorem d_R_sees_54 : decode prog_7_method_40_code 54 = .ok (.iload_n 2, 1) := by decide +kernel
theorem d_R_sees_55 : decode prog_7_method_40_code 55 = .ok (.ireturn, 1) := by decide +kernel
theorem d_R_sees_8 : decode prog_7_method_40_code 8 = .ok (.aload_n 0, 1) := by decide +kernel
theorem d_R_sees_9 : decode prog_7_method_40_code 9 = .ok (.ldc 60, 2) := by decide +kernel
theorem d_R_sees_11 : decode prog_7_method_40_code 11 = .ok (.invokevirtual 66, 3) := by decide +kernel
theorem d_R_sees_14 : decode prog_7_method_40_code 14 = .ok (.ireturn, 1) := by decide +kernel
theorem d_R_seenBy_0 : decode prog_7_method_42_code 0 = .ok (.aload_n 0, 1) := by decide +kernel
theorem d_R_seenBy_1 : decode prog_7_method_42_code 1 = .ok (.iload_n 1, 1) := by decide +kernel
theorem d_R_seenBy_2 : decode prog_7_method_42_code 2 = .ok (.invokevirtual 116, 3) := by decide +kernel
theorem d_R_seenBy_5 : decode prog_7_method_42_code 5 = .ok (.ifCond .eq 11, 3) := by decide +kernel
theorem d_R_seenBy_8 : decode prog_7_method_42_code 8 = .ok (.aload_n 0, 1) := by decide +kernel
theorem d_R_seenBy_9 : decode prog_7_method_42_code 9 = .ok (.iload_n 1, 1) := by decide +kernel
theorem d_R_seenBy_10 : decode prog_7_method_42_code 10 = .ok (.invokevirtual 149, 3) := by decide +kernel
theorem d_R_seenBy_13 : decode prog_7_method_42_code 13 = .ok (.goto 9, 3) := by decide +kernel
theorem d_R_seenBy_22 : decode prog_7_method_42_code 22 = .ok (.ireturn, 1) := by decide +kernel
theorem d_R_seenBy_16 : decode prog_7_method_42_code 16 = .ok (.aload_n 0, 1) := by decide +kernel
theorem d_R_seenBy_17 : decode prog_7_method_42_code 17 = .ok (.ldc 60, 2) := by decide +kernel
theorem d_R_seenBy_19 : decode prog_7_method_42_code 19 = .ok (.invokevirtual 66, 3) := by decide +kernel
theorem d_R_go_0 : decode prog_7_method_50_code 0 = .ok (.iload_n 1, 1) := by decide +kernel
theorem d_R_go_1 : decode prog_7_method_50_code 1 = .ok (.iconst 1, 1) := by decide +kernel
theorem d_R_go_2 : decode prog_7_method_50_code 2 = .ok (.bipush 60, 2) := by decide +kernel
theorem d_R_go_4 : decode prog_7_method_50_code 4 = .ok (.invokestatic 70, 3) := by decide +kernel
theorem d_R_go_7 : decode prog_7_method_50_code 7 = .ok (.ifCond .ne 10, 3) := by decide +kernel
theorem d_R_go_17 : decode prog_7_method_50_code 17 = .ok (.aload_n 0, 1) := by decide +kernel
theorem d_R_go_18 : decode prog_7_method_50_code 18 = .ok (.getfield 9, 3) := by decide +kernel
theorem d_R_go_21 : decode prog_7_method_50_code 21 = .ok (.iconst 0, 1) := by decide +kernel
theorem d_R_go_22 : decode prog_7_method_50_code 22 = .ok (.iaload, 1) := by decide +kernel
theorem d_R_go_23 : decode prog_7_method_50_code 23 = .ok (.iload_n 1, 1) := by decide +kernel
theorem d_R_go_24 : decode prog_7_method_50_code 24 = .ok (.iadd, 1) := by decide +kernel
theorem d_R_go_25 : decode prog_7_method_50_code 25 = .ok (.ldc 181, 2) := by decide +kernel
theorem d_R_go_27 : decode prog_7_method_50_code 27 = .ok (.if_icmp .le 10, 3) := by decide +kernel
theorem d_R_go_37 : decode prog_7_method_50_code 37 = .ok (.aload_n 0, 1) := by decide +kernel
theorem d_R_go_38 : decode prog_7_method_50_code 38 = .ok (.iload_n 1, 1) := by decide +kernel
theorem d_R_go_39 : decode prog_7_method_50_code 39 = .ok (.invokevirtual 186, 3) := by decide +kernel
theorem d_R_go_42 : decode prog_7_method_50_code 42 = .ok (.aload_n 0, 1) := by decide +kernel
theorem d_R_go_43 : decode prog_7_method_50_code 43 = .ok (.iconst 4, 1) := by decide +kernel
theorem d_R_go_44 : decode prog_7_method_50_code 44 = .ok (.invokevirtual 190, 3) := by decide +kernel
theorem d_R_go_47 : decode prog_7_method_50_code 47 = .ok (.ireturn, 1) := by decide +kernel
theorem d_R_go_30 : decode prog_7_method_50_code 30 = .ok (.aload_n 0, 1) := by decide +kernel
theorem d_R_go_31 : decode prog_7_method_50_code 31 = .ok (.ldc 185, 2) := by decide +kernel
theorem d_R_go_33 : decode prog_7_method_50_code 33 = .ok (.invokevirtual 66, 3) := by decide +kernel
theorem d_R_go_36 : decode prog_7_method_50_code 36 = .ok (.ireturn, 1) := by decide +kernel
theorem d_R_go_10 : decode prog_7_method_50_code 10 = .ok (.aload_n 0, 1) := by decide +kernel
theorem d_R_go_11 : decode prog_7_method_50_code 11 = .ok (.ldc 60, 2) := by decide +kernel
theorem d_R_go_13 : decode prog_7_method_50_code 13 = .ok (.invokevirtual 66, 3) := by decide +kernel
theorem d_R_go_16 : decode prog_7_method_50_code 16 = .ok (.ireturn, 1) := by decide +kernel
theorem d_R_now_0 : decode prog_7_method_56_code 0 = .ok (.iload_n 1, 1) := by decide +kernel
theorem d_R_now_1 : decode prog_7_method_56_code 1 = .ok (.tableswitch 91 0 7 #[47, 54, 60, 66, 71, 76, 81, 86], 47) := by decide +kernel
theorem d_R_now_48 : decode prog_7_method_56_code 48 = .ok (.aload_n 0, 1) := by decide +kernel
theorem d_R_now_49 : decode prog_7_method_56_code 49 = .ok (.getfield 9, 3) := by decide +kernel
theorem d_R_now_52 : decode prog_7_method_56_code 52 = .ok (.iconst 0, 1) := by decide +kernel
theorem d_R_now_53 : decode prog_7_method_56_code 53 = .ok (.iaload, 1) := by decide +kernel
theorem d_R_now_54 : decode prog_7_method_56_code 54 = .ok (.ireturn, 1) := by decide +kernel
theorem d_R_now_55 : decode prog_7_method_56_code 55 = .ok (.aload_n 0, 1) := by decide +kernel
theorem d_R_now_56 : decode prog_7_method_56_code 56 = .ok (.iconst 4, 1) := by decide +kernel
theorem d_R_now_57 : decode prog_7_method_56_code 57 = .ok (.invokevirtual 190, 3) := by decide +kernel
theorem d_R_now_60 : decode prog_7_method_56_code 60 = .ok (.ireturn, 1) := by decide +kernel
theorem d_R_now_61 : decode prog_7_method_56_code 61 = .ok (.aload_n 0, 1) := by decide +kernel
theorem d_R_now_62 : decode prog_7_method_56_code 62 = .ok (.iconst 5, 1) := by decide +kernel
theorem d_R_now_63 : decode prog_7_method_56_code 63 = .ok (.invokevirtual 190, 3) := by decide +kernel
theorem d_R_now_66 : decode prog_7_method_56_code 66 = .ok (.ireturn, 1) := by decide +kernel
theorem d_R_now_67 : decode prog_7_method_56_code 67 = .ok (.aload_n 0, 1) := by decide +kernel
theorem d_R_now_68 : decode prog_7_method_56_code 68 = .ok (.invokevirtual 193, 3) := by decide +kernel
theorem d_R_now_71 : decode prog_7_method_56_code 71 = .ok (.ireturn, 1) := by decide +kernel
theorem d_R_now_72 : decode prog_7_method_56_code 72 = .ok (.aload_n 0, 1) := by decide +kernel
theorem d_R_now_73 : decode prog_7_method_56_code 73 = .ok (.invokevirtual 196, 3) := by decide +kernel
theorem d_R_now_76 : decode prog_7_method_56_code 76 = .ok (.ireturn, 1) := by decide +kernel
theorem d_R_now_77 : decode prog_7_method_56_code 77 = .ok (.aload_n 0, 1) := by decide +kernel
theorem d_R_now_78 : decode prog_7_method_56_code 78 = .ok (.invokevirtual 199, 3) := by decide +kernel
theorem d_R_now_81 : decode prog_7_method_56_code 81 = .ok (.ireturn, 1) := by decide +kernel
theorem d_R_now_82 : decode prog_7_method_56_code 82 = .ok (.aload_n 0, 1) := by decide +kernel
theorem d_R_now_83 : decode prog_7_method_56_code 83 = .ok (.invokevirtual 202, 3) := by decide +kernel
theorem d_R_now_86 : decode prog_7_method_56_code 86 = .ok (.ireturn, 1) := by decide +kernel
theorem d_R_now_87 : decode prog_7_method_56_code 87 = .ok (.aload_n 0, 1) := by decide +kernel
theorem d_R_now_88 : decode prog_7_method_56_code 88 = .ok (.invokevirtual 205, 3) := by decide +kernel
theorem d_R_now_91 : decode prog_7_method_56_code 91 = .ok (.ireturn, 1) := by decide +kernel
theorem d_R_now_92 : decode prog_7_method_56_code 92 = .ok (.aload_n 0, 1) := by decide +kernel
theorem d_R_now_93 : decode prog_7_method_56_code 93 = .ok (.ldc 60, 2) := by decide +kernel
theorem d_R_now_95 : decode prog_7_method_56_code 95 = .ok (.invokevirtual 66, 3) := by decide +kernel
theorem d_R_now_98 : decode prog_7_method_56_code 98 = .ok (.ireturn, 1) := by decide +kernel
set_option maxHeartbeats 1000000 in
set_option maxRecDepth 20000 in
theorem c_R_turn_g (l : Launch) (E : QE) (S : QM) (ν : Nat → Int32) (hν : S 16 = ν) (hwf : WF ν) (i w t : Nat) (hi : i ≤ 5) (hw : w ≤ 5) (ht : t ≤ 7) : qCI E l y_R_turn prog_7_method_14_code 4 .int 3 [.ref (eA E 70), .int (nI i), .int (nI w), .int (nI t)] S (ν (4 + i)) (qr S 16 (upd ν (4 + i) (nI (10 * w + t)))) := by
  refine qCI_of (by decide) (Nat.le_of_ble_eq_true rfl) (fun p e s m below meth c ls X hW hl => ?_)
  have hl : lv_has ls 4 [(0, .ref (eA E 70)), (1, .int (nI i)), (2, .int (nI w)), (3, .int (nI t))] := hl
  have htl := hwf.tl
  have hwl := hwf.wl
  have hdl := hwf.dl
  refine lv_iload_n X.x X.b d_R_turn_0 rfl (lv_at hl 1 rfl) ?_
  refine q_csi X (c_R_isPlace l E S (nI i)) hW ok_R_isPlace mw_754 ⟨by decide, by decide⟩ (As := [.int (nI i)]) rfl rfl (Nat.le_of_ble_eq_true rfl) (lv := [(0, .ref (eA E 70)), (1, .int (nI i)), (2, .int (nI w)), (3, .int (nI t))]) hl ⟨Nat.le_refl 0, Nat.le_refl 0⟩ d_R_turn_1 (fun H locs hW => ?_)
  refine lv_if_eq (tgt := 39) X.x X.b d_R_turn_4 (by decide) (fun c4 => ?_) (fun c4 => ?_)
  · have c4 := b2i_e c4
    have c4 := mt (inR_i (by omega) (by decide)).mpr c4
    omega
  · have c4 := b2i_n c4
    have c4 := (inR_i (by omega) (by decide)).mp c4
    refine lv_iload_n X.x X.b d_R_turn_7 rfl (lv_at hl 2 rfl) ?_
    refine lv_iconst (v := nI 0) X.x X.b d_R_turn_8 (by decide) ?_
    refine lv_iconst (v := nI 5) X.x X.b d_R_turn_9 (by decide) ?_
    refine q_csi X (c_R_within l E S (nI w) (nI 0) (nI 5)) hW ok_R_within mw_757 ⟨by decide, by decide⟩ (As := [.int (nI w), .int (nI 0), .int (nI 5)]) rfl rfl (Nat.le_of_ble_eq_true rfl) (lv := [(0, .ref (eA E 70)), (1, .int (nI i)), (2, .int (nI w)), (3, .int (nI t))]) hl ⟨Nat.le_refl 0, Nat.le_refl 0⟩ d_R_turn_10 (fun H locs hW => ?_)
    refine lv_if_eq (tgt := 39) X.x X.b d_R_turn_13 (by decide) (fun c13 => ?_) (fun c13 => ?_)
    · have c13 := b2i_e c13
      have c13 := mt (inR_i (by omega) (by decide)).mpr c13
      omega
    · have c13 := b2i_n c13
      have c13 := (inR_i (by omega) (by decide)).mp c13
      refine lv_iload_n X.x X.b d_R_turn_16 rfl (lv_at hl 3 rfl) ?_
      refine q_csi X (c_R_isAim l E S (nI t)) hW ok_R_isAim mw_760 ⟨by decide, by decide⟩ (As := [.int (nI t)]) rfl rfl (Nat.le_of_ble_eq_true rfl) (lv := [(0, .ref (eA E 70)), (1, .int (nI i)), (2, .int (nI w)), (3, .int (nI t))]) hl ⟨Nat.le_refl 0, Nat.le_refl 0⟩ d_R_turn_17 (fun H locs hW => ?_)
      refine lv_if_eq (tgt := 39) X.x X.b d_R_turn_20 (by decide) (fun c20 => ?_) (fun c20 => ?_)
      · have c20 := b2i_e c20
        have c20 := mt (inR_i (by omega) (by decide)).mpr c20
        omega
      · have c20 := b2i_n c20
        have c20 := (inR_i (by omega) (by decide)).mp c20
        refine lv_aload_n X.x X.b d_R_turn_23 rfl (lv_at hl 0 rfl) ?_
        refine lv_iconst (v := nI 4) X.x X.b d_R_turn_24 (by decide) ?_
        refine lv_iload_n X.x X.b d_R_turn_25 rfl (lv_at hl 1 rfl) ?_
        refine lv_iadd X.x X.b d_R_turn_26 ?_
        rw [nI_add]
        refine lv_bipush (v := nI 10) X.x X.b d_R_turn_27 (by decide) ?_
        refine lv_iload_n X.x X.b d_R_turn_29 rfl (lv_at hl 2 rfl) ?_
        refine lv_imul X.x X.b d_R_turn_30 ?_
        rw [pk_mul]
        refine lv_iload_n X.x X.b d_R_turn_31 rfl (lv_at hl 3 rfl) ?_
        refine lv_iadd X.x X.b d_R_turn_32 ?_
        rw [nI_add]
        refine q_cvi X (c_R_become l E S ν (by rw [hν]) (4 + i) (nI (10 * w + t)) (by omega)) hW (q_recv X hW ds_R rfl) ok_R_become mw_763 ⟨by decide, by decide⟩ (As := [.int (nI (4 + i)), .int (nI (10 * w + t))]) rfl rfl (Nat.le_of_ble_eq_true rfl) (lv := [(0, .ref (eA E 70)), (1, .int (nI i)), (2, .int (nI w)), (3, .int (nI t))]) hl ⟨Nat.le_refl 0, Nat.le_refl 0⟩ d_R_turn_33 (fun H locs hW => ?_)
        have hW : qWH E (qr S 16 (upd ν (4 + i) (nI (10 * w + t)))) s H locs := hW
        refine lv_goto (tgt := 45) X.x X.b d_R_turn_36 (by decide) ?_
        exact q_zret X rfl hW ⟨rfl, rfl⟩ d_R_turn_45
set_option maxHeartbeats 1000000 in
set_option maxRecDepth 20000 in
theorem c_R_turn_b (l : Launch) (E : QE) (S : QM) (ν : Nat → Int32) (hν : S 16 = ν) (hwf : WF ν) (ψ : Nat → Int32) (hψ : S 19 = ψ) (x y z : Int32) (h : ¬ (inR 0 5 x ∧ inR 0 5 y ∧ inR 0 7 z)) : qCI E l y_R_turn prog_7_method_14_code 4 .int 3 [.ref (eA E 70), .int x, .int y, .int z] S (-1000001) (qr S 19 (fnR ψ 0)) := by
  refine qCI_of (by decide) (Nat.le_of_ble_eq_true rfl) (fun p e s m below meth c ls X hW hl => ?_)
  have hl : lv_has ls 4 [(0, .ref (eA E 70)), (1, .int x), (2, .int y), (3, .int z)] := hl
  have htl := hwf.tl
  have hwl := hwf.wl
  have hdl := hwf.dl
  refine lv_iload_n X.x X.b d_R_turn_0 rfl (lv_at hl 1 rfl) ?_
  refine q_csi X (c_R_isPlace l E S x) hW ok_R_isPlace mw_754 ⟨by decide, by decide⟩ (As := [.int x]) rfl rfl (Nat.le_of_ble_eq_true rfl) (lv := [(0, .ref (eA E 70)), (1, .int x), (2, .int y), (3, .int z)]) hl ⟨Nat.le_refl 0, Nat.le_refl 0⟩ d_R_turn_1 (fun H locs hW => ?_)
  refine lv_if_eq (tgt := 39) X.x X.b d_R_turn_4 (by decide) (fun c4 => ?_) (fun c4 => ?_)
  · have c4 := b2i_e c4
    refine lv_aload_n X.x X.b d_R_turn_39 rfl (lv_at hl 0 rfl) ?_
    refine lv_ldc (v := (-1000001)) X.x X.b X.ow (X.ts _ mw_767) d_R_turn_40 ?_
    refine q_cvi X (c_R_finding_0 l E S ψ (by rw [hψ])) hW (q_recv X hW ds_R rfl) ok_R_finding mw_768 ⟨by decide, by decide⟩ (As := [.int (-1000001)]) rfl rfl (Nat.le_of_ble_eq_true rfl) (lv := [(0, .ref (eA E 70)), (1, .int x), (2, .int y), (3, .int z)]) hl ⟨Nat.le_refl 0, Nat.le_refl 0⟩ d_R_turn_42 (fun H locs hW => ?_)
    have hW : qWH E (qr S 19 (fnR ψ 0)) s H locs := hW
    exact q_zret X rfl hW ⟨rfl, rfl⟩ d_R_turn_45
  · have c4 := b2i_n c4
    refine lv_iload_n X.x X.b d_R_turn_7 rfl (lv_at hl 2 rfl) ?_
    refine lv_iconst (v := nI 0) X.x X.b d_R_turn_8 (by decide) ?_
    refine lv_iconst (v := nI 5) X.x X.b d_R_turn_9 (by decide) ?_
    refine q_csi X (c_R_within l E S y (nI 0) (nI 5)) hW ok_R_within mw_757 ⟨by decide, by decide⟩ (As := [.int y, .int (nI 0), .int (nI 5)]) rfl rfl (Nat.le_of_ble_eq_true rfl) (lv := [(0, .ref (eA E 70)), (1, .int x), (2, .int y), (3, .int z)]) hl ⟨Nat.le_refl 0, Nat.le_refl 0⟩ d_R_turn_10 (fun H locs hW => ?_)
    refine lv_if_eq (tgt := 39) X.x X.b d_R_turn_13 (by decide) (fun c13 => ?_) (fun c13 => ?_)
    · have c13 := b2i_e c13
      refine lv_aload_n X.x X.b d_R_turn_39 rfl (lv_at hl 0 rfl) ?_
      refine lv_ldc (v := (-1000001)) X.x X.b X.ow (X.ts _ mw_767) d_R_turn_40 ?_
      refine q_cvi X (c_R_finding_0 l E S ψ (by rw [hψ])) hW (q_recv X hW ds_R rfl) ok_R_finding mw_768 ⟨by decide, by decide⟩ (As := [.int (-1000001)]) rfl rfl (Nat.le_of_ble_eq_true rfl) (lv := [(0, .ref (eA E 70)), (1, .int x), (2, .int y), (3, .int z)]) hl ⟨Nat.le_refl 0, Nat.le_refl 0⟩ d_R_turn_42 (fun H locs hW => ?_)
      have hW : qWH E (qr S 19 (fnR ψ 0)) s H locs := hW
      exact q_zret X rfl hW ⟨rfl, rfl⟩ d_R_turn_45
    · have c13 := b2i_n c13
      refine lv_iload_n X.x X.b d_R_turn_16 rfl (lv_at hl 3 rfl) ?_
      refine q_csi X (c_R_isAim l E S z) hW ok_R_isAim mw_760 ⟨by decide, by decide⟩ (As := [.int z]) rfl rfl (Nat.le_of_ble_eq_true rfl) (lv := [(0, .ref (eA E 70)), (1, .int x), (2, .int y), (3, .int z)]) hl ⟨Nat.le_refl 0, Nat.le_refl 0⟩ d_R_turn_17 (fun H locs hW => ?_)
      refine lv_if_eq (tgt := 39) X.x X.b d_R_turn_20 (by decide) (fun c20 => ?_) (fun c20 => ?_)
      · have c20 := b2i_e c20
        refine lv_aload_n X.x X.b d_R_turn_39 rfl (lv_at hl 0 rfl) ?_
        refine lv_ldc (v := (-1000001)) X.x X.b X.ow (X.ts _ mw_767) d_R_turn_40 ?_
        refine q_cvi X (c_R_finding_0 l E S ψ (by rw [hψ])) hW (q_recv X hW ds_R rfl) ok_R_finding mw_768 ⟨by decide, by decide⟩ (As := [.int (-1000001)]) rfl rfl (Nat.le_of_ble_eq_true rfl) (lv := [(0, .ref (eA E 70)), (1, .int x), (2, .int y), (3, .int z)]) hl ⟨Nat.le_refl 0, Nat.le_refl 0⟩ d_R_turn_42 (fun H locs hW => ?_)
        have hW : qWH E (qr S 19 (fnR ψ 0)) s H locs := hW
        exact q_zret X rfl hW ⟨rfl, rfl⟩ d_R_turn_45
      · have c20 := b2i_n c20
        exact absurd ⟨c4, c13, c20⟩ h
set_option maxHeartbeats 1000000 in
set_option maxRecDepth 20000 in
theorem c_R_listed_g (l : Launch) (E : QE) (S : QM) (ν : Nat → Int32) (hν : S 16 = ν) (hwf : WF ν) (i : Nat) (hi : i ≤ 5) : qCI E l y_R_listed prog_7_method_15_code 2 .int 3 [.ref (eA E 70), .int (nI i)] S (ν (4 + i)) S := by
  refine qCI_of (by decide) (Nat.le_of_ble_eq_true rfl) (fun p e s m below meth c ls X hW hl => ?_)
  have hl : lv_has ls 2 [(0, .ref (eA E 70)), (1, .int (nI i))] := hl
  have htl := hwf.tl
  have hwl := hwf.wl
  have hdl := hwf.dl
  refine lv_iload_n X.x X.b d_R_listed_0 rfl (lv_at hl 1 rfl) ?_
  refine q_csi X (c_R_isPlace l E S (nI i)) hW ok_R_isPlace mw_754 ⟨by decide, by decide⟩ (As := [.int (nI i)]) rfl rfl (Nat.le_of_ble_eq_true rfl) (lv := [(0, .ref (eA E 70)), (1, .int (nI i))]) hl ⟨Nat.le_refl 0, Nat.le_refl 0⟩ d_R_listed_1 (fun H locs hW => ?_)
  refine lv_if_eq (tgt := 18) X.x X.b d_R_listed_4 (by decide) (fun c4 => ?_) (fun c4 => ?_)
  · have c4 := b2i_e c4
    have c4 := mt (inR_i (by omega) (by decide)).mpr c4
    omega
  · have c4 := b2i_n c4
    have c4 := (inR_i (by omega) (by decide)).mp c4
    refine lv_aload_n X.x X.b d_R_listed_7 rfl (lv_at hl 0 rfl) ?_
    refine q_getr X hW qj4 rfl _ ds_R 0 (by decide) mw_686 rfl (c1 := 71) rfl d_R_listed_8 ?_
    refine lv_iconst (v := nI 4) X.x X.b d_R_listed_11 (by decide) ?_
    refine lv_iload_n X.x X.b d_R_listed_12 rfl (lv_at hl 1 rfl) ?_
    refine lv_iadd X.x X.b d_R_listed_13 ?_
    rw [nI_add]
    refine g_ald X hW ds_71 (q_in (by omega) (by decide)) (p0 := 4 + i) (q_tn (by omega) (by omega)) (v := ν (4 + i)) (by rw [hν]) d_R_listed_14 ?_
    refine lv_goto (tgt := 24) X.x X.b d_R_listed_15 (by decide) ?_
    exact q_zret X rfl hW ⟨rfl, rfl⟩ d_R_listed_24
set_option maxHeartbeats 1000000 in
set_option maxRecDepth 20000 in
theorem c_R_listed_b (l : Launch) (E : QE) (S : QM) (ν : Nat → Int32) (hν : S 16 = ν) (hwf : WF ν) (ψ : Nat → Int32) (hψ : S 19 = ψ) (x : Int32) (h : ¬ (inR 0 5 x)) : qCI E l y_R_listed prog_7_method_15_code 2 .int 3 [.ref (eA E 70), .int x] S (-1000001) (qr S 19 (fnR ψ 0)) := by
  refine qCI_of (by decide) (Nat.le_of_ble_eq_true rfl) (fun p e s m below meth c ls X hW hl => ?_)
  have hl : lv_has ls 2 [(0, .ref (eA E 70)), (1, .int x)] := hl
  have htl := hwf.tl
  have hwl := hwf.wl
  have hdl := hwf.dl
  refine lv_iload_n X.x X.b d_R_listed_0 rfl (lv_at hl 1 rfl) ?_
  refine q_csi X (c_R_isPlace l E S x) hW ok_R_isPlace mw_754 ⟨by decide, by decide⟩ (As := [.int x]) rfl rfl (Nat.le_of_ble_eq_true rfl) (lv := [(0, .ref (eA E 70)), (1, .int x)]) hl ⟨Nat.le_refl 0, Nat.le_refl 0⟩ d_R_listed_1 (fun H locs hW => ?_)
  refine lv_if_eq (tgt := 18) X.x X.b d_R_listed_4 (by decide) (fun c4 => ?_) (fun c4 => ?_)
  · have c4 := b2i_e c4
    refine lv_aload_n X.x X.b d_R_listed_18 rfl (lv_at hl 0 rfl) ?_
    refine lv_ldc (v := (-1000001)) X.x X.b X.ow (X.ts _ mw_767) d_R_listed_19 ?_
    refine q_cvi X (c_R_finding_0 l E S ψ (by rw [hψ])) hW (q_recv X hW ds_R rfl) ok_R_finding mw_768 ⟨by decide, by decide⟩ (As := [.int (-1000001)]) rfl rfl (Nat.le_of_ble_eq_true rfl) (lv := [(0, .ref (eA E 70)), (1, .int x)]) hl ⟨Nat.le_refl 0, Nat.le_refl 0⟩ d_R_listed_21 (fun H locs hW => ?_)
    have hW : qWH E (qr S 19 (fnR ψ 0)) s H locs := hW
    exact q_zret X rfl hW ⟨rfl, rfl⟩ d_R_listed_24
  · have c4 := b2i_n c4
    exact absurd c4 h
set_option maxHeartbeats 1000000 in
set_option maxRecDepth 20000 in
theorem c_R_thing_g (l : Launch) (E : QE) (S : QM) (ν : Nat → Int32) (hν : S 16 = ν) (hwf : WF ν) (i cl : Nat) (hi : i ≤ 6) (hc : cl ≤ 15) (hn : nT ν < 8) : qCI E l y_R_thing prog_7_method_25_code 3 .int 3 [.ref (eA E 70), .int (nI i), .int (nI cl)] S (nI (nT ν)) (qr S 16 (addT ν (nI i) (nI cl))) := by
  refine qCI_of (by decide) (Nat.le_of_ble_eq_true rfl) (fun p e s m below meth c ls X hW hl => ?_)
  have hl : lv_has ls 3 [(0, .ref (eA E 70)), (1, .int (nI i)), (2, .int (nI cl))] := hl
  have htl := hwf.tl
  have hwl := hwf.wl
  have hdl := hwf.dl
  refine lv_iload_n X.x X.b d_R_thing_0 rfl (lv_at hl 1 rfl) ?_
  refine q_csi X (c_R_isKind l E S (nI i)) hW ok_R_isKind mw_780 ⟨by decide, by decide⟩ (As := [.int (nI i)]) rfl rfl (Nat.le_of_ble_eq_true rfl) (lv := [(0, .ref (eA E 70)), (1, .int (nI i)), (2, .int (nI cl))]) hl ⟨Nat.le_refl 0, Nat.le_refl 0⟩ d_R_thing_1 (fun H locs hW => ?_)
  refine lv_if_eq (tgt := 14) X.x X.b d_R_thing_4 (by decide) (fun c4 => ?_) (fun c4 => ?_)
  · have c4 := b2i_e c4
    have c4 := mt (inR_i (by omega) (by decide)).mpr c4
    omega
  · have c4 := b2i_n c4
    have c4 := (inR_i (by omega) (by decide)).mp c4
    refine lv_iload_n X.x X.b d_R_thing_7 rfl (lv_at hl 2 rfl) ?_
    refine q_csi X (c_R_isCell l E S (nI cl)) hW ok_R_isCell mw_783 ⟨by decide, by decide⟩ (As := [.int (nI cl)]) rfl rfl (Nat.le_of_ble_eq_true rfl) (lv := [(0, .ref (eA E 70)), (1, .int (nI i)), (2, .int (nI cl))]) hl ⟨Nat.le_refl 0, Nat.le_refl 0⟩ d_R_thing_8 (fun H locs hW => ?_)
    refine lv_if_ne (tgt := 21) X.x X.b d_R_thing_11 (by decide) (fun c11 => ?_) (fun c11 => ?_)
    · have c11 := b2i_n c11
      have c11 := (inR_i (by omega) (by decide)).mp c11
      refine lv_aload_n X.x X.b d_R_thing_21 rfl (lv_at hl 0 rfl) ?_
      refine q_getr X hW qj4 rfl _ ds_R 0 (by decide) mw_686 rfl (c1 := 71) rfl d_R_thing_22 ?_
      refine lv_iconst (v := nI 1) X.x X.b d_R_thing_25 (by decide) ?_
      refine g_ald X hW ds_71 (q_in (by omega) (by decide)) (p0 := 1) (q_tn (by omega) (by omega)) (v := ν 1) (by rw [hν]) d_R_thing_26 ?_
      rw [hwf.t]
      refine lv_bipush (v := nI 8) X.x X.b d_R_thing_27 (by decide) ?_
      refine lv_icmp_ne (tgt := 41) X.x X.b d_R_thing_29 (by decide) (fun c29 => ?_) (fun c29 => ?_)
      · have c29 : ¬ (nT ν) = 8 := fun z => c29 ((nI_eq (a := (nT ν)) (b := 8) (by omega) (by omega)).mpr z)
        refine lv_aload_n X.x X.b d_R_thing_41 rfl (lv_at hl 0 rfl) ?_
        refine lv_iload_n X.x X.b d_R_thing_42 rfl (lv_at hl 1 rfl) ?_
        refine lv_iload_n X.x X.b d_R_thing_43 rfl (lv_at hl 2 rfl) ?_
        refine q_cvi X (c_R_comes l E S ν (by rw [hν]) hwf (nI i) (nI cl) (by omega)) hW (q_recv X hW ds_R rfl) ok_R_comes mw_787 ⟨by decide, by decide⟩ (As := [.int (nI i), .int (nI cl)]) rfl rfl (Nat.le_of_ble_eq_true rfl) (lv := [(0, .ref (eA E 70)), (1, .int (nI i)), (2, .int (nI cl))]) hl ⟨Nat.le_refl 0, Nat.le_refl 0⟩ d_R_thing_44 (fun H locs hW => ?_)
        have hW : qWH E (qr S 16 (addT ν (nI i) (nI cl))) s H locs := hW
        exact q_zret X rfl hW ⟨rfl, rfl⟩ d_R_thing_47
      · have c29 : (nT ν) = 8 := (nI_eq (a := (nT ν)) (b := 8) (by omega) (by omega)).mp c29
        omega
    · have c11 := b2i_e c11
      have c11 := mt (inR_i (by omega) (by decide)).mpr c11
      omega
set_option maxHeartbeats 1000000 in
set_option maxRecDepth 20000 in
theorem c_R_thing_f (l : Launch) (E : QE) (S : QM) (ν : Nat → Int32) (hν : S 16 = ν) (hwf : WF ν) (ψ : Nat → Int32) (hψ : S 19 = ψ) (i cl : Nat) (hi : i ≤ 6) (hc : cl ≤ 15) (hn : ¬ nT ν < 8) : qCI E l y_R_thing prog_7_method_25_code 3 .int 3 [.ref (eA E 70), .int (nI i), .int (nI cl)] S (-1000002) (qr S 19 (fnR ψ 1)) := by
  refine qCI_of (by decide) (Nat.le_of_ble_eq_true rfl) (fun p e s m below meth c ls X hW hl => ?_)
  have hl : lv_has ls 3 [(0, .ref (eA E 70)), (1, .int (nI i)), (2, .int (nI cl))] := hl
  have htl := hwf.tl
  have hwl := hwf.wl
  have hdl := hwf.dl
  refine lv_iload_n X.x X.b d_R_thing_0 rfl (lv_at hl 1 rfl) ?_
  refine q_csi X (c_R_isKind l E S (nI i)) hW ok_R_isKind mw_780 ⟨by decide, by decide⟩ (As := [.int (nI i)]) rfl rfl (Nat.le_of_ble_eq_true rfl) (lv := [(0, .ref (eA E 70)), (1, .int (nI i)), (2, .int (nI cl))]) hl ⟨Nat.le_refl 0, Nat.le_refl 0⟩ d_R_thing_1 (fun H locs hW => ?_)
  refine lv_if_eq (tgt := 14) X.x X.b d_R_thing_4 (by decide) (fun c4 => ?_) (fun c4 => ?_)
  · have c4 := b2i_e c4
    have c4 := mt (inR_i (by omega) (by decide)).mpr c4
    omega
  · have c4 := b2i_n c4
    have c4 := (inR_i (by omega) (by decide)).mp c4
    refine lv_iload_n X.x X.b d_R_thing_7 rfl (lv_at hl 2 rfl) ?_
    refine q_csi X (c_R_isCell l E S (nI cl)) hW ok_R_isCell mw_783 ⟨by decide, by decide⟩ (As := [.int (nI cl)]) rfl rfl (Nat.le_of_ble_eq_true rfl) (lv := [(0, .ref (eA E 70)), (1, .int (nI i)), (2, .int (nI cl))]) hl ⟨Nat.le_refl 0, Nat.le_refl 0⟩ d_R_thing_8 (fun H locs hW => ?_)
    refine lv_if_ne (tgt := 21) X.x X.b d_R_thing_11 (by decide) (fun c11 => ?_) (fun c11 => ?_)
    · have c11 := b2i_n c11
      have c11 := (inR_i (by omega) (by decide)).mp c11
      refine lv_aload_n X.x X.b d_R_thing_21 rfl (lv_at hl 0 rfl) ?_
      refine q_getr X hW qj4 rfl _ ds_R 0 (by decide) mw_686 rfl (c1 := 71) rfl d_R_thing_22 ?_
      refine lv_iconst (v := nI 1) X.x X.b d_R_thing_25 (by decide) ?_
      refine g_ald X hW ds_71 (q_in (by omega) (by decide)) (p0 := 1) (q_tn (by omega) (by omega)) (v := ν 1) (by rw [hν]) d_R_thing_26 ?_
      rw [hwf.t]
      refine lv_bipush (v := nI 8) X.x X.b d_R_thing_27 (by decide) ?_
      refine lv_icmp_ne (tgt := 41) X.x X.b d_R_thing_29 (by decide) (fun c29 => ?_) (fun c29 => ?_)
      · have c29 : ¬ (nT ν) = 8 := fun z => c29 ((nI_eq (a := (nT ν)) (b := 8) (by omega) (by omega)).mpr z)
        omega
      · have c29 : (nT ν) = 8 := (nI_eq (a := (nT ν)) (b := 8) (by omega) (by omega)).mp c29
        refine lv_aload_n X.x X.b d_R_thing_32 rfl (lv_at hl 0 rfl) ?_
        refine lv_ldc (v := (-1000002)) X.x X.b X.ow (X.ts _ mw_786) d_R_thing_33 ?_
        refine q_cvi X (c_R_finding_1 l E S ψ (by rw [hψ])) hW (q_recv X hW ds_R rfl) ok_R_finding mw_768 ⟨by decide, by decide⟩ (As := [.int (-1000002)]) rfl rfl (Nat.le_of_ble_eq_true rfl) (lv := [(0, .ref (eA E 70)), (1, .int (nI i)), (2, .int (nI cl))]) hl ⟨Nat.le_refl 0, Nat.le_refl 0⟩ d_R_thing_35 (fun H locs hW => ?_)
        have hW : qWH E (qr S 19 (fnR ψ 1)) s H locs := hW
        refine lv_goto (tgt := 47) X.x X.b d_R_thing_38 (by decide) ?_
        exact q_zret X rfl hW ⟨rfl, rfl⟩ d_R_thing_47
    · have c11 := b2i_e c11
      have c11 := mt (inR_i (by omega) (by decide)).mpr c11
      omega
set_option maxHeartbeats 1000000 in
set_option maxRecDepth 20000 in
theorem c_R_thing_b (l : Launch) (E : QE) (S : QM) (ν : Nat → Int32) (hν : S 16 = ν) (hwf : WF ν) (ψ : Nat → Int32) (hψ : S 19 = ψ) (x y : Int32) (h : ¬ (inR 0 6 x ∧ inR 0 15 y)) : qCI E l y_R_thing prog_7_method_25_code 3 .int 3 [.ref (eA E 70), .int x, .int y] S (-1000001) (qr S 19 (fnR ψ 0)) := by
  refine qCI_of (by decide) (Nat.le_of_ble_eq_true rfl) (fun p e s m below meth c ls X hW hl => ?_)
  have hl : lv_has ls 3 [(0, .ref (eA E 70)), (1, .int x), (2, .int y)] := hl
  have htl := hwf.tl
  have hwl := hwf.wl
  have hdl := hwf.dl
  refine lv_iload_n X.x X.b d_R_thing_0 rfl (lv_at hl 1 rfl) ?_
  refine q_csi X (c_R_isKind l E S x) hW ok_R_isKind mw_780 ⟨by decide, by decide⟩ (As := [.int x]) rfl rfl (Nat.le_of_ble_eq_true rfl) (lv := [(0, .ref (eA E 70)), (1, .int x), (2, .int y)]) hl ⟨Nat.le_refl 0, Nat.le_refl 0⟩ d_R_thing_1 (fun H locs hW => ?_)
  refine lv_if_eq (tgt := 14) X.x X.b d_R_thing_4 (by decide) (fun c4 => ?_) (fun c4 => ?_)
  · have c4 := b2i_e c4
    refine lv_aload_n X.x X.b d_R_thing_14 rfl (lv_at hl 0 rfl) ?_
    refine lv_ldc (v := (-1000001)) X.x X.b X.ow (X.ts _ mw_767) d_R_thing_15 ?_
    refine q_cvi X (c_R_finding_0 l E S ψ (by rw [hψ])) hW (q_recv X hW ds_R rfl) ok_R_finding mw_768 ⟨by decide, by decide⟩ (As := [.int (-1000001)]) rfl rfl (Nat.le_of_ble_eq_true rfl) (lv := [(0, .ref (eA E 70)), (1, .int x), (2, .int y)]) hl ⟨Nat.le_refl 0, Nat.le_refl 0⟩ d_R_thing_17 (fun H locs hW => ?_)
    have hW : qWH E (qr S 19 (fnR ψ 0)) s H locs := hW
    exact q_zret X rfl hW ⟨rfl, rfl⟩ d_R_thing_20
  · have c4 := b2i_n c4
    refine lv_iload_n X.x X.b d_R_thing_7 rfl (lv_at hl 2 rfl) ?_
    refine q_csi X (c_R_isCell l E S y) hW ok_R_isCell mw_783 ⟨by decide, by decide⟩ (As := [.int y]) rfl rfl (Nat.le_of_ble_eq_true rfl) (lv := [(0, .ref (eA E 70)), (1, .int x), (2, .int y)]) hl ⟨Nat.le_refl 0, Nat.le_refl 0⟩ d_R_thing_8 (fun H locs hW => ?_)
    refine lv_if_ne (tgt := 21) X.x X.b d_R_thing_11 (by decide) (fun c11 => ?_) (fun c11 => ?_)
    · have c11 := b2i_n c11
      exact absurd ⟨c4, c11⟩ h
    · have c11 := b2i_e c11
      refine lv_aload_n X.x X.b d_R_thing_14 rfl (lv_at hl 0 rfl) ?_
      refine lv_ldc (v := (-1000001)) X.x X.b X.ow (X.ts _ mw_767) d_R_thing_15 ?_
      refine q_cvi X (c_R_finding_0 l E S ψ (by rw [hψ])) hW (q_recv X hW ds_R rfl) ok_R_finding mw_768 ⟨by decide, by decide⟩ (As := [.int (-1000001)]) rfl rfl (Nat.le_of_ble_eq_true rfl) (lv := [(0, .ref (eA E 70)), (1, .int x), (2, .int y)]) hl ⟨Nat.le_refl 0, Nat.le_refl 0⟩ d_R_thing_17 (fun H locs hW => ?_)
      have hW : qWH E (qr S 19 (fnR ψ 0)) s H locs := hW
      exact q_zret X rfl hW ⟨rfl, rfl⟩ d_R_thing_20
set_option maxHeartbeats 1000000 in
set_option maxRecDepth 20000 in
theorem c_R_walker_g (l : Launch) (E : QE) (S : QM) (ν : Nat → Int32) (hν : S 16 = ν) (hwf : WF ν) (cl a : Nat) (hc : cl ≤ 15) (ha : a ≤ 7) (hn : nW ν < 6) : qCI E l y_R_walker prog_7_method_27_code 3 .int 3 [.ref (eA E 70), .int (nI cl), .int (nI a)] S (nI (nW ν)) (qr S 16 (addW ν (nI cl) (nI a))) := by
  refine qCI_of (by decide) (Nat.le_of_ble_eq_true rfl) (fun p e s m below meth c ls X hW hl => ?_)
  have hl : lv_has ls 3 [(0, .ref (eA E 70)), (1, .int (nI cl)), (2, .int (nI a))] := hl
  have htl := hwf.tl
  have hwl := hwf.wl
  have hdl := hwf.dl
  refine lv_iload_n X.x X.b d_R_walker_0 rfl (lv_at hl 1 rfl) ?_
  refine q_csi X (c_R_isCell l E S (nI cl)) hW ok_R_isCell mw_783 ⟨by decide, by decide⟩ (As := [.int (nI cl)]) rfl rfl (Nat.le_of_ble_eq_true rfl) (lv := [(0, .ref (eA E 70)), (1, .int (nI cl)), (2, .int (nI a))]) hl ⟨Nat.le_refl 0, Nat.le_refl 0⟩ d_R_walker_1 (fun H locs hW => ?_)
  refine lv_if_eq (tgt := 14) X.x X.b d_R_walker_4 (by decide) (fun c4 => ?_) (fun c4 => ?_)
  · have c4 := b2i_e c4
    have c4 := mt (inR_i (by omega) (by decide)).mpr c4
    omega
  · have c4 := b2i_n c4
    have c4 := (inR_i (by omega) (by decide)).mp c4
    refine lv_iload_n X.x X.b d_R_walker_7 rfl (lv_at hl 2 rfl) ?_
    refine q_csi X (c_R_isAim l E S (nI a)) hW ok_R_isAim mw_760 ⟨by decide, by decide⟩ (As := [.int (nI a)]) rfl rfl (Nat.le_of_ble_eq_true rfl) (lv := [(0, .ref (eA E 70)), (1, .int (nI cl)), (2, .int (nI a))]) hl ⟨Nat.le_refl 0, Nat.le_refl 0⟩ d_R_walker_8 (fun H locs hW => ?_)
    refine lv_if_ne (tgt := 21) X.x X.b d_R_walker_11 (by decide) (fun c11 => ?_) (fun c11 => ?_)
    · have c11 := b2i_n c11
      have c11 := (inR_i (by omega) (by decide)).mp c11
      refine lv_aload_n X.x X.b d_R_walker_21 rfl (lv_at hl 0 rfl) ?_
      refine q_getr X hW qj4 rfl _ ds_R 0 (by decide) mw_686 rfl (c1 := 71) rfl d_R_walker_22 ?_
      refine lv_iconst (v := nI 3) X.x X.b d_R_walker_25 (by decide) ?_
      refine g_ald X hW ds_71 (q_in (by omega) (by decide)) (p0 := 3) (q_tn (by omega) (by omega)) (v := ν 3) (by rw [hν]) d_R_walker_26 ?_
      rw [hwf.w]
      refine lv_bipush (v := nI 6) X.x X.b d_R_walker_27 (by decide) ?_
      refine lv_icmp_ne (tgt := 41) X.x X.b d_R_walker_29 (by decide) (fun c29 => ?_) (fun c29 => ?_)
      · have c29 : ¬ (nW ν) = 6 := fun z => c29 ((nI_eq (a := (nW ν)) (b := 6) (by omega) (by omega)).mpr z)
        refine lv_aload_n X.x X.b d_R_walker_41 rfl (lv_at hl 0 rfl) ?_
        refine lv_iload_n X.x X.b d_R_walker_42 rfl (lv_at hl 1 rfl) ?_
        refine lv_iload_n X.x X.b d_R_walker_43 rfl (lv_at hl 2 rfl) ?_
        refine q_cvi X (c_R_setsOut l E S ν (by rw [hν]) hwf (nI cl) (nI a) (by omega)) hW (q_recv X hW ds_R rfl) ok_R_setsOut mw_798 ⟨by decide, by decide⟩ (As := [.int (nI cl), .int (nI a)]) rfl rfl (Nat.le_of_ble_eq_true rfl) (lv := [(0, .ref (eA E 70)), (1, .int (nI cl)), (2, .int (nI a))]) hl ⟨Nat.le_refl 0, Nat.le_refl 0⟩ d_R_walker_44 (fun H locs hW => ?_)
        have hW : qWH E (qr S 16 (addW ν (nI cl) (nI a))) s H locs := hW
        exact q_zret X rfl hW ⟨rfl, rfl⟩ d_R_walker_47
      · have c29 : (nW ν) = 6 := (nI_eq (a := (nW ν)) (b := 6) (by omega) (by omega)).mp c29
        omega
    · have c11 := b2i_e c11
      have c11 := mt (inR_i (by omega) (by decide)).mpr c11
      omega
set_option maxHeartbeats 1000000 in
set_option maxRecDepth 20000 in
theorem c_R_walker_f (l : Launch) (E : QE) (S : QM) (ν : Nat → Int32) (hν : S 16 = ν) (hwf : WF ν) (ψ : Nat → Int32) (hψ : S 19 = ψ) (cl a : Nat) (hc : cl ≤ 15) (ha : a ≤ 7) (hn : ¬ nW ν < 6) : qCI E l y_R_walker prog_7_method_27_code 3 .int 3 [.ref (eA E 70), .int (nI cl), .int (nI a)] S (-1000002) (qr S 19 (fnR ψ 1)) := by
  refine qCI_of (by decide) (Nat.le_of_ble_eq_true rfl) (fun p e s m below meth c ls X hW hl => ?_)
  have hl : lv_has ls 3 [(0, .ref (eA E 70)), (1, .int (nI cl)), (2, .int (nI a))] := hl
  have htl := hwf.tl
  have hwl := hwf.wl
  have hdl := hwf.dl
  refine lv_iload_n X.x X.b d_R_walker_0 rfl (lv_at hl 1 rfl) ?_
  refine q_csi X (c_R_isCell l E S (nI cl)) hW ok_R_isCell mw_783 ⟨by decide, by decide⟩ (As := [.int (nI cl)]) rfl rfl (Nat.le_of_ble_eq_true rfl) (lv := [(0, .ref (eA E 70)), (1, .int (nI cl)), (2, .int (nI a))]) hl ⟨Nat.le_refl 0, Nat.le_refl 0⟩ d_R_walker_1 (fun H locs hW => ?_)
  refine lv_if_eq (tgt := 14) X.x X.b d_R_walker_4 (by decide) (fun c4 => ?_) (fun c4 => ?_)
  · have c4 := b2i_e c4
    have c4 := mt (inR_i (by omega) (by decide)).mpr c4
    omega
  · have c4 := b2i_n c4
    have c4 := (inR_i (by omega) (by decide)).mp c4
    refine lv_iload_n X.x X.b d_R_walker_7 rfl (lv_at hl 2 rfl) ?_
    refine q_csi X (c_R_isAim l E S (nI a)) hW ok_R_isAim mw_760 ⟨by decide, by decide⟩ (As := [.int (nI a)]) rfl rfl (Nat.le_of_ble_eq_true rfl) (lv := [(0, .ref (eA E 70)), (1, .int (nI cl)), (2, .int (nI a))]) hl ⟨Nat.le_refl 0, Nat.le_refl 0⟩ d_R_walker_8 (fun H locs hW => ?_)
    refine lv_if_ne (tgt := 21) X.x X.b d_R_walker_11 (by decide) (fun c11 => ?_) (fun c11 => ?_)
    · have c11 := b2i_n c11
      have c11 := (inR_i (by omega) (by decide)).mp c11
      refine lv_aload_n X.x X.b d_R_walker_21 rfl (lv_at hl 0 rfl) ?_
      refine q_getr X hW qj4 rfl _ ds_R 0 (by decide) mw_686 rfl (c1 := 71) rfl d_R_walker_22 ?_
      refine lv_iconst (v := nI 3) X.x X.b d_R_walker_25 (by decide) ?_
      refine g_ald X hW ds_71 (q_in (by omega) (by decide)) (p0 := 3) (q_tn (by omega) (by omega)) (v := ν 3) (by rw [hν]) d_R_walker_26 ?_
      rw [hwf.w]
      refine lv_bipush (v := nI 6) X.x X.b d_R_walker_27 (by decide) ?_
      refine lv_icmp_ne (tgt := 41) X.x X.b d_R_walker_29 (by decide) (fun c29 => ?_) (fun c29 => ?_)
      · have c29 : ¬ (nW ν) = 6 := fun z => c29 ((nI_eq (a := (nW ν)) (b := 6) (by omega) (by omega)).mpr z)
        omega
      · have c29 : (nW ν) = 6 := (nI_eq (a := (nW ν)) (b := 6) (by omega) (by omega)).mp c29
        refine lv_aload_n X.x X.b d_R_walker_32 rfl (lv_at hl 0 rfl) ?_
        refine lv_ldc (v := (-1000002)) X.x X.b X.ow (X.ts _ mw_786) d_R_walker_33 ?_
        refine q_cvi X (c_R_finding_1 l E S ψ (by rw [hψ])) hW (q_recv X hW ds_R rfl) ok_R_finding mw_768 ⟨by decide, by decide⟩ (As := [.int (-1000002)]) rfl rfl (Nat.le_of_ble_eq_true rfl) (lv := [(0, .ref (eA E 70)), (1, .int (nI cl)), (2, .int (nI a))]) hl ⟨Nat.le_refl 0, Nat.le_refl 0⟩ d_R_walker_35 (fun H locs hW => ?_)
        have hW : qWH E (qr S 19 (fnR ψ 1)) s H locs := hW
        refine lv_goto (tgt := 47) X.x X.b d_R_walker_38 (by decide) ?_
        exact q_zret X rfl hW ⟨rfl, rfl⟩ d_R_walker_47
    · have c11 := b2i_e c11
      have c11 := mt (inR_i (by omega) (by decide)).mpr c11
      omega
set_option maxHeartbeats 1000000 in
set_option maxRecDepth 20000 in
theorem c_R_walker_b (l : Launch) (E : QE) (S : QM) (ν : Nat → Int32) (hν : S 16 = ν) (hwf : WF ν) (ψ : Nat → Int32) (hψ : S 19 = ψ) (x y : Int32) (h : ¬ (inR 0 15 x ∧ inR 0 7 y)) : qCI E l y_R_walker prog_7_method_27_code 3 .int 3 [.ref (eA E 70), .int x, .int y] S (-1000001) (qr S 19 (fnR ψ 0)) := by
  refine qCI_of (by decide) (Nat.le_of_ble_eq_true rfl) (fun p e s m below meth c ls X hW hl => ?_)
  have hl : lv_has ls 3 [(0, .ref (eA E 70)), (1, .int x), (2, .int y)] := hl
  have htl := hwf.tl
  have hwl := hwf.wl
  have hdl := hwf.dl
  refine lv_iload_n X.x X.b d_R_walker_0 rfl (lv_at hl 1 rfl) ?_
  refine q_csi X (c_R_isCell l E S x) hW ok_R_isCell mw_783 ⟨by decide, by decide⟩ (As := [.int x]) rfl rfl (Nat.le_of_ble_eq_true rfl) (lv := [(0, .ref (eA E 70)), (1, .int x), (2, .int y)]) hl ⟨Nat.le_refl 0, Nat.le_refl 0⟩ d_R_walker_1 (fun H locs hW => ?_)
  refine lv_if_eq (tgt := 14) X.x X.b d_R_walker_4 (by decide) (fun c4 => ?_) (fun c4 => ?_)
  · have c4 := b2i_e c4
    refine lv_aload_n X.x X.b d_R_walker_14 rfl (lv_at hl 0 rfl) ?_
    refine lv_ldc (v := (-1000001)) X.x X.b X.ow (X.ts _ mw_767) d_R_walker_15 ?_
    refine q_cvi X (c_R_finding_0 l E S ψ (by rw [hψ])) hW (q_recv X hW ds_R rfl) ok_R_finding mw_768 ⟨by decide, by decide⟩ (As := [.int (-1000001)]) rfl rfl (Nat.le_of_ble_eq_true rfl) (lv := [(0, .ref (eA E 70)), (1, .int x), (2, .int y)]) hl ⟨Nat.le_refl 0, Nat.le_refl 0⟩ d_R_walker_17 (fun H locs hW => ?_)
    have hW : qWH E (qr S 19 (fnR ψ 0)) s H locs := hW
    exact q_zret X rfl hW ⟨rfl, rfl⟩ d_R_walker_20
  · have c4 := b2i_n c4
    refine lv_iload_n X.x X.b d_R_walker_7 rfl (lv_at hl 2 rfl) ?_
    refine q_csi X (c_R_isAim l E S y) hW ok_R_isAim mw_760 ⟨by decide, by decide⟩ (As := [.int y]) rfl rfl (Nat.le_of_ble_eq_true rfl) (lv := [(0, .ref (eA E 70)), (1, .int x), (2, .int y)]) hl ⟨Nat.le_refl 0, Nat.le_refl 0⟩ d_R_walker_8 (fun H locs hW => ?_)
    refine lv_if_ne (tgt := 21) X.x X.b d_R_walker_11 (by decide) (fun c11 => ?_) (fun c11 => ?_)
    · have c11 := b2i_n c11
      exact absurd ⟨c4, c11⟩ h
    · have c11 := b2i_e c11
      refine lv_aload_n X.x X.b d_R_walker_14 rfl (lv_at hl 0 rfl) ?_
      refine lv_ldc (v := (-1000001)) X.x X.b X.ow (X.ts _ mw_767) d_R_walker_15 ?_
      refine q_cvi X (c_R_finding_0 l E S ψ (by rw [hψ])) hW (q_recv X hW ds_R rfl) ok_R_finding mw_768 ⟨by decide, by decide⟩ (As := [.int (-1000001)]) rfl rfl (Nat.le_of_ble_eq_true rfl) (lv := [(0, .ref (eA E 70)), (1, .int x), (2, .int y)]) hl ⟨Nat.le_refl 0, Nat.le_refl 0⟩ d_R_walker_17 (fun H locs hW => ?_)
      have hW : qWH E (qr S 19 (fnR ψ 0)) s H locs := hW
      exact q_zret X rfl hW ⟨rfl, rfl⟩ d_R_walker_20
set_option maxHeartbeats 1000000 in
set_option maxRecDepth 20000 in
theorem c_R_of_0 (l : Launch) (E : QE) (S : QM) (ν : Nat → Int32) (hν : S 16 = ν) (hwf : WF ν) (t : Nat) (ht : t < nT ν) : qCI E l y_R_of prog_7_method_33_code 3 .int 5 [.ref (eA E 70), .int (nI t), .int (nI 0)] S (ν (20 + 3 * t)) S := by
  refine qCI_of (by decide) (Nat.le_of_ble_eq_true rfl) (fun p e s m below meth c ls X hW hl => ?_)
  have hl : lv_has ls 3 [(0, .ref (eA E 70)), (1, .int (nI t)), (2, .int (nI 0))] := hl
  have htl := hwf.tl
  have hwl := hwf.wl
  have hdl := hwf.dl
  refine lv_aload_n X.x X.b d_R_of_0 rfl (lv_at hl 0 rfl) ?_
  refine lv_iload_n X.x X.b d_R_of_1 rfl (lv_at hl 1 rfl) ?_
  refine q_cvi X (c_R_isThing l E S ν (by rw [hν]) hwf (nI t)) hW (q_recv X hW ds_R rfl) ok_R_isThing mw_809 ⟨by decide, by decide⟩ (As := [.int (nI t)]) rfl rfl (Nat.le_of_ble_eq_true rfl) (lv := [(0, .ref (eA E 70)), (1, .int (nI t)), (2, .int (nI 0))]) hl ⟨Nat.le_refl 0, Nat.le_refl 0⟩ d_R_of_2 (fun H locs hW => ?_)
  refine lv_if_eq (tgt := 26) X.x X.b d_R_of_5 (by decide) (fun c5 => ?_) (fun c5 => ?_)
  · have c5 := b2i_e c5
    have c5 := mt (isT_i hwf (by omega)).mpr c5
    omega
  · have c5 := b2i_n c5
    have c5 := (isT_i hwf (by omega)).mp c5
    refine lv_iload_n X.x X.b d_R_of_8 rfl (lv_at hl 2 rfl) ?_
    refine lv_iconst (v := nI 0) X.x X.b d_R_of_9 (by decide) ?_
    refine lv_iconst (v := nI 5) X.x X.b d_R_of_10 (by decide) ?_
    refine q_csi X (c_R_within l E S (nI 0) (nI 0) (nI 5)) hW ok_R_within mw_757 ⟨by decide, by decide⟩ (As := [.int (nI 0), .int (nI 0), .int (nI 5)]) rfl rfl (Nat.le_of_ble_eq_true rfl) (lv := [(0, .ref (eA E 70)), (1, .int (nI t)), (2, .int (nI 0))]) hl ⟨Nat.le_refl 0, Nat.le_refl 0⟩ d_R_of_11 (fun H locs hW => ?_)
    refine lv_if_eq (tgt := 26) X.x X.b d_R_of_14 (by decide) (fun c14 => ?_) (fun c14 => ?_)
    · have c14 := b2i_e c14
      have c14 := mt (inR_i (by omega) (by decide)).mpr c14
      omega
    · have c14 := b2i_n c14
      have c14 := (inR_i (by omega) (by decide)).mp c14
      refine lv_aload_n X.x X.b d_R_of_17 rfl (lv_at hl 0 rfl) ?_
      refine lv_iload_n X.x X.b d_R_of_18 rfl (lv_at hl 1 rfl) ?_
      refine lv_iload_n X.x X.b d_R_of_19 rfl (lv_at hl 2 rfl) ?_
      refine q_cvi X (c_R_told_0 l E S ν (by rw [hν]) t (by omega)) hW (q_recv X hW ds_R rfl) ok_R_told mw_813 ⟨by decide, by decide⟩ (As := [.int (nI t), .int (nI 0)]) rfl rfl (Nat.le_of_ble_eq_true rfl) (lv := [(0, .ref (eA E 70)), (1, .int (nI t)), (2, .int (nI 0))]) hl ⟨Nat.le_refl 0, Nat.le_refl 0⟩ d_R_of_20 (fun H locs hW => ?_)
      refine lv_goto (tgt := 32) X.x X.b d_R_of_23 (by decide) ?_
      exact q_zret X rfl hW ⟨rfl, rfl⟩ d_R_of_32
set_option maxHeartbeats 1000000 in
set_option maxRecDepth 20000 in
theorem c_R_of_1 (l : Launch) (E : QE) (S : QM) (ν : Nat → Int32) (hν : S 16 = ν) (hwf : WF ν) (t : Nat) (ht : t < nT ν) : qCI E l y_R_of prog_7_method_33_code 3 .int 5 [.ref (eA E 70), .int (nI t), .int (nI 1)] S (ν (20 + 3 * t + 1)) S := by
  refine qCI_of (by decide) (Nat.le_of_ble_eq_true rfl) (fun p e s m below meth c ls X hW hl => ?_)
  have hl : lv_has ls 3 [(0, .ref (eA E 70)), (1, .int (nI t)), (2, .int (nI 1))] := hl
  have htl := hwf.tl
  have hwl := hwf.wl
  have hdl := hwf.dl
  refine lv_aload_n X.x X.b d_R_of_0 rfl (lv_at hl 0 rfl) ?_
  refine lv_iload_n X.x X.b d_R_of_1 rfl (lv_at hl 1 rfl) ?_
  refine q_cvi X (c_R_isThing l E S ν (by rw [hν]) hwf (nI t)) hW (q_recv X hW ds_R rfl) ok_R_isThing mw_809 ⟨by decide, by decide⟩ (As := [.int (nI t)]) rfl rfl (Nat.le_of_ble_eq_true rfl) (lv := [(0, .ref (eA E 70)), (1, .int (nI t)), (2, .int (nI 1))]) hl ⟨Nat.le_refl 0, Nat.le_refl 0⟩ d_R_of_2 (fun H locs hW => ?_)
  refine lv_if_eq (tgt := 26) X.x X.b d_R_of_5 (by decide) (fun c5 => ?_) (fun c5 => ?_)
  · have c5 := b2i_e c5
    have c5 := mt (isT_i hwf (by omega)).mpr c5
    omega
  · have c5 := b2i_n c5
    have c5 := (isT_i hwf (by omega)).mp c5
    refine lv_iload_n X.x X.b d_R_of_8 rfl (lv_at hl 2 rfl) ?_
    refine lv_iconst (v := nI 0) X.x X.b d_R_of_9 (by decide) ?_
    refine lv_iconst (v := nI 5) X.x X.b d_R_of_10 (by decide) ?_
    refine q_csi X (c_R_within l E S (nI 1) (nI 0) (nI 5)) hW ok_R_within mw_757 ⟨by decide, by decide⟩ (As := [.int (nI 1), .int (nI 0), .int (nI 5)]) rfl rfl (Nat.le_of_ble_eq_true rfl) (lv := [(0, .ref (eA E 70)), (1, .int (nI t)), (2, .int (nI 1))]) hl ⟨Nat.le_refl 0, Nat.le_refl 0⟩ d_R_of_11 (fun H locs hW => ?_)
    refine lv_if_eq (tgt := 26) X.x X.b d_R_of_14 (by decide) (fun c14 => ?_) (fun c14 => ?_)
    · have c14 := b2i_e c14
      have c14 := mt (inR_i (by omega) (by decide)).mpr c14
      omega
    · have c14 := b2i_n c14
      have c14 := (inR_i (by omega) (by decide)).mp c14
      refine lv_aload_n X.x X.b d_R_of_17 rfl (lv_at hl 0 rfl) ?_
      refine lv_iload_n X.x X.b d_R_of_18 rfl (lv_at hl 1 rfl) ?_
      refine lv_iload_n X.x X.b d_R_of_19 rfl (lv_at hl 2 rfl) ?_
      refine q_cvi X (c_R_told_1 l E S ν (by rw [hν]) t (by omega)) hW (q_recv X hW ds_R rfl) ok_R_told mw_813 ⟨by decide, by decide⟩ (As := [.int (nI t), .int (nI 1)]) rfl rfl (Nat.le_of_ble_eq_true rfl) (lv := [(0, .ref (eA E 70)), (1, .int (nI t)), (2, .int (nI 1))]) hl ⟨Nat.le_refl 0, Nat.le_refl 0⟩ d_R_of_20 (fun H locs hW => ?_)
      refine lv_goto (tgt := 32) X.x X.b d_R_of_23 (by decide) ?_
      exact q_zret X rfl hW ⟨rfl, rfl⟩ d_R_of_32
set_option maxHeartbeats 1000000 in
set_option maxRecDepth 20000 in
theorem c_R_of_2 (l : Launch) (E : QE) (S : QM) (ν : Nat → Int32) (hν : S 16 = ν) (hwf : WF ν) (t : Nat) (ht : t < nT ν) : qCI E l y_R_of prog_7_method_33_code 3 .int 5 [.ref (eA E 70), .int (nI t), .int (nI 2)] S (ν (20 + 3 * t + 2)) S := by
  refine qCI_of (by decide) (Nat.le_of_ble_eq_true rfl) (fun p e s m below meth c ls X hW hl => ?_)
  have hl : lv_has ls 3 [(0, .ref (eA E 70)), (1, .int (nI t)), (2, .int (nI 2))] := hl
  have htl := hwf.tl
  have hwl := hwf.wl
  have hdl := hwf.dl
  refine lv_aload_n X.x X.b d_R_of_0 rfl (lv_at hl 0 rfl) ?_
  refine lv_iload_n X.x X.b d_R_of_1 rfl (lv_at hl 1 rfl) ?_
  refine q_cvi X (c_R_isThing l E S ν (by rw [hν]) hwf (nI t)) hW (q_recv X hW ds_R rfl) ok_R_isThing mw_809 ⟨by decide, by decide⟩ (As := [.int (nI t)]) rfl rfl (Nat.le_of_ble_eq_true rfl) (lv := [(0, .ref (eA E 70)), (1, .int (nI t)), (2, .int (nI 2))]) hl ⟨Nat.le_refl 0, Nat.le_refl 0⟩ d_R_of_2 (fun H locs hW => ?_)
  refine lv_if_eq (tgt := 26) X.x X.b d_R_of_5 (by decide) (fun c5 => ?_) (fun c5 => ?_)
  · have c5 := b2i_e c5
    have c5 := mt (isT_i hwf (by omega)).mpr c5
    omega
  · have c5 := b2i_n c5
    have c5 := (isT_i hwf (by omega)).mp c5
    refine lv_iload_n X.x X.b d_R_of_8 rfl (lv_at hl 2 rfl) ?_
    refine lv_iconst (v := nI 0) X.x X.b d_R_of_9 (by decide) ?_
    refine lv_iconst (v := nI 5) X.x X.b d_R_of_10 (by decide) ?_
    refine q_csi X (c_R_within l E S (nI 2) (nI 0) (nI 5)) hW ok_R_within mw_757 ⟨by decide, by decide⟩ (As := [.int (nI 2), .int (nI 0), .int (nI 5)]) rfl rfl (Nat.le_of_ble_eq_true rfl) (lv := [(0, .ref (eA E 70)), (1, .int (nI t)), (2, .int (nI 2))]) hl ⟨Nat.le_refl 0, Nat.le_refl 0⟩ d_R_of_11 (fun H locs hW => ?_)
    refine lv_if_eq (tgt := 26) X.x X.b d_R_of_14 (by decide) (fun c14 => ?_) (fun c14 => ?_)
    · have c14 := b2i_e c14
      have c14 := mt (inR_i (by omega) (by decide)).mpr c14
      omega
    · have c14 := b2i_n c14
      have c14 := (inR_i (by omega) (by decide)).mp c14
      refine lv_aload_n X.x X.b d_R_of_17 rfl (lv_at hl 0 rfl) ?_
      refine lv_iload_n X.x X.b d_R_of_18 rfl (lv_at hl 1 rfl) ?_
      refine lv_iload_n X.x X.b d_R_of_19 rfl (lv_at hl 2 rfl) ?_
      refine q_cvi X (c_R_told_2 l E S ν (by rw [hν]) t (by omega)) hW (q_recv X hW ds_R rfl) ok_R_told mw_813 ⟨by decide, by decide⟩ (As := [.int (nI t), .int (nI 2)]) rfl rfl (Nat.le_of_ble_eq_true rfl) (lv := [(0, .ref (eA E 70)), (1, .int (nI t)), (2, .int (nI 2))]) hl ⟨Nat.le_refl 0, Nat.le_refl 0⟩ d_R_of_20 (fun H locs hW => ?_)
      refine lv_goto (tgt := 32) X.x X.b d_R_of_23 (by decide) ?_
      exact q_zret X rfl hW ⟨rfl, rfl⟩ d_R_of_32
set_option maxHeartbeats 1000000 in
set_option maxRecDepth 20000 in
theorem c_R_of_3 (l : Launch) (E : QE) (S : QM) (ν : Nat → Int32) (hν : S 16 = ν) (hwf : WF ν) (t : Nat) (ht : t < nT ν) : qCI E l y_R_of prog_7_method_33_code 3 .int 5 [.ref (eA E 70), .int (nI t), .int (nI 3)] S (clr (ν (20 + 3 * t))) S := by
  refine qCI_of (by decide) (Nat.le_of_ble_eq_true rfl) (fun p e s m below meth c ls X hW hl => ?_)
  have hl : lv_has ls 3 [(0, .ref (eA E 70)), (1, .int (nI t)), (2, .int (nI 3))] := hl
  have htl := hwf.tl
  have hwl := hwf.wl
  have hdl := hwf.dl
  refine lv_aload_n X.x X.b d_R_of_0 rfl (lv_at hl 0 rfl) ?_
  refine lv_iload_n X.x X.b d_R_of_1 rfl (lv_at hl 1 rfl) ?_
  refine q_cvi X (c_R_isThing l E S ν (by rw [hν]) hwf (nI t)) hW (q_recv X hW ds_R rfl) ok_R_isThing mw_809 ⟨by decide, by decide⟩ (As := [.int (nI t)]) rfl rfl (Nat.le_of_ble_eq_true rfl) (lv := [(0, .ref (eA E 70)), (1, .int (nI t)), (2, .int (nI 3))]) hl ⟨Nat.le_refl 0, Nat.le_refl 0⟩ d_R_of_2 (fun H locs hW => ?_)
  refine lv_if_eq (tgt := 26) X.x X.b d_R_of_5 (by decide) (fun c5 => ?_) (fun c5 => ?_)
  · have c5 := b2i_e c5
    have c5 := mt (isT_i hwf (by omega)).mpr c5
    omega
  · have c5 := b2i_n c5
    have c5 := (isT_i hwf (by omega)).mp c5
    refine lv_iload_n X.x X.b d_R_of_8 rfl (lv_at hl 2 rfl) ?_
    refine lv_iconst (v := nI 0) X.x X.b d_R_of_9 (by decide) ?_
    refine lv_iconst (v := nI 5) X.x X.b d_R_of_10 (by decide) ?_
    refine q_csi X (c_R_within l E S (nI 3) (nI 0) (nI 5)) hW ok_R_within mw_757 ⟨by decide, by decide⟩ (As := [.int (nI 3), .int (nI 0), .int (nI 5)]) rfl rfl (Nat.le_of_ble_eq_true rfl) (lv := [(0, .ref (eA E 70)), (1, .int (nI t)), (2, .int (nI 3))]) hl ⟨Nat.le_refl 0, Nat.le_refl 0⟩ d_R_of_11 (fun H locs hW => ?_)
    refine lv_if_eq (tgt := 26) X.x X.b d_R_of_14 (by decide) (fun c14 => ?_) (fun c14 => ?_)
    · have c14 := b2i_e c14
      have c14 := mt (inR_i (by omega) (by decide)).mpr c14
      omega
    · have c14 := b2i_n c14
      have c14 := (inR_i (by omega) (by decide)).mp c14
      refine lv_aload_n X.x X.b d_R_of_17 rfl (lv_at hl 0 rfl) ?_
      refine lv_iload_n X.x X.b d_R_of_18 rfl (lv_at hl 1 rfl) ?_
      refine lv_iload_n X.x X.b d_R_of_19 rfl (lv_at hl 2 rfl) ?_
      refine q_cvi X (c_R_told_3 l E S ν (by rw [hν]) t (by omega)) hW (q_recv X hW ds_R rfl) ok_R_told mw_813 ⟨by decide, by decide⟩ (As := [.int (nI t), .int (nI 3)]) rfl rfl (Nat.le_of_ble_eq_true rfl) (lv := [(0, .ref (eA E 70)), (1, .int (nI t)), (2, .int (nI 3))]) hl ⟨Nat.le_refl 0, Nat.le_refl 0⟩ d_R_of_20 (fun H locs hW => ?_)
      refine lv_goto (tgt := 32) X.x X.b d_R_of_23 (by decide) ?_
      exact q_zret X rfl hW ⟨rfl, rfl⟩ d_R_of_32
set_option maxHeartbeats 1000000 in
set_option maxRecDepth 20000 in
theorem c_R_of_4 (l : Launch) (E : QE) (S : QM) (ν : Nat → Int32) (hν : S 16 = ν) (hwf : WF ν) (t : Nat) (ht : t < nT ν) : qCI E l y_R_of prog_7_method_33_code 3 .int 5 [.ref (eA E 70), .int (nI t), .int (nI 4)] S (dmm (ν (20 + 3 * t)) (ν (20 + 3 * t + 2)) (ν 0)) S := by
  refine qCI_of (by decide) (Nat.le_of_ble_eq_true rfl) (fun p e s m below meth c ls X hW hl => ?_)
  have hl : lv_has ls 3 [(0, .ref (eA E 70)), (1, .int (nI t)), (2, .int (nI 4))] := hl
  have htl := hwf.tl
  have hwl := hwf.wl
  have hdl := hwf.dl
  refine lv_aload_n X.x X.b d_R_of_0 rfl (lv_at hl 0 rfl) ?_
  refine lv_iload_n X.x X.b d_R_of_1 rfl (lv_at hl 1 rfl) ?_
  refine q_cvi X (c_R_isThing l E S ν (by rw [hν]) hwf (nI t)) hW (q_recv X hW ds_R rfl) ok_R_isThing mw_809 ⟨by decide, by decide⟩ (As := [.int (nI t)]) rfl rfl (Nat.le_of_ble_eq_true rfl) (lv := [(0, .ref (eA E 70)), (1, .int (nI t)), (2, .int (nI 4))]) hl ⟨Nat.le_refl 0, Nat.le_refl 0⟩ d_R_of_2 (fun H locs hW => ?_)
  refine lv_if_eq (tgt := 26) X.x X.b d_R_of_5 (by decide) (fun c5 => ?_) (fun c5 => ?_)
  · have c5 := b2i_e c5
    have c5 := mt (isT_i hwf (by omega)).mpr c5
    omega
  · have c5 := b2i_n c5
    have c5 := (isT_i hwf (by omega)).mp c5
    refine lv_iload_n X.x X.b d_R_of_8 rfl (lv_at hl 2 rfl) ?_
    refine lv_iconst (v := nI 0) X.x X.b d_R_of_9 (by decide) ?_
    refine lv_iconst (v := nI 5) X.x X.b d_R_of_10 (by decide) ?_
    refine q_csi X (c_R_within l E S (nI 4) (nI 0) (nI 5)) hW ok_R_within mw_757 ⟨by decide, by decide⟩ (As := [.int (nI 4), .int (nI 0), .int (nI 5)]) rfl rfl (Nat.le_of_ble_eq_true rfl) (lv := [(0, .ref (eA E 70)), (1, .int (nI t)), (2, .int (nI 4))]) hl ⟨Nat.le_refl 0, Nat.le_refl 0⟩ d_R_of_11 (fun H locs hW => ?_)
    refine lv_if_eq (tgt := 26) X.x X.b d_R_of_14 (by decide) (fun c14 => ?_) (fun c14 => ?_)
    · have c14 := b2i_e c14
      have c14 := mt (inR_i (by omega) (by decide)).mpr c14
      omega
    · have c14 := b2i_n c14
      have c14 := (inR_i (by omega) (by decide)).mp c14
      refine lv_aload_n X.x X.b d_R_of_17 rfl (lv_at hl 0 rfl) ?_
      refine lv_iload_n X.x X.b d_R_of_18 rfl (lv_at hl 1 rfl) ?_
      refine lv_iload_n X.x X.b d_R_of_19 rfl (lv_at hl 2 rfl) ?_
      refine q_cvi X (c_R_told_4 l E S ν (by rw [hν]) t (by omega)) hW (q_recv X hW ds_R rfl) ok_R_told mw_813 ⟨by decide, by decide⟩ (As := [.int (nI t), .int (nI 4)]) rfl rfl (Nat.le_of_ble_eq_true rfl) (lv := [(0, .ref (eA E 70)), (1, .int (nI t)), (2, .int (nI 4))]) hl ⟨Nat.le_refl 0, Nat.le_refl 0⟩ d_R_of_20 (fun H locs hW => ?_)
      refine lv_goto (tgt := 32) X.x X.b d_R_of_23 (by decide) ?_
      exact q_zret X rfl hW ⟨rfl, rfl⟩ d_R_of_32
set_option maxHeartbeats 1000000 in
set_option maxRecDepth 20000 in
theorem c_R_of_5 (l : Launch) (E : QE) (S : QM) (ν : Nat → Int32) (hν : S 16 = ν) (hwf : WF ν) (t : Nat) (ht : t < nT ν) : qCI E l y_R_of prog_7_method_33_code 3 .int 5 [.ref (eA E 70), .int (nI t), .int (nI 5)] S (mvs (ν (20 + 3 * t)) (ν 0)) S := by
  refine qCI_of (by decide) (Nat.le_of_ble_eq_true rfl) (fun p e s m below meth c ls X hW hl => ?_)
  have hl : lv_has ls 3 [(0, .ref (eA E 70)), (1, .int (nI t)), (2, .int (nI 5))] := hl
  have htl := hwf.tl
  have hwl := hwf.wl
  have hdl := hwf.dl
  refine lv_aload_n X.x X.b d_R_of_0 rfl (lv_at hl 0 rfl) ?_
  refine lv_iload_n X.x X.b d_R_of_1 rfl (lv_at hl 1 rfl) ?_
  refine q_cvi X (c_R_isThing l E S ν (by rw [hν]) hwf (nI t)) hW (q_recv X hW ds_R rfl) ok_R_isThing mw_809 ⟨by decide, by decide⟩ (As := [.int (nI t)]) rfl rfl (Nat.le_of_ble_eq_true rfl) (lv := [(0, .ref (eA E 70)), (1, .int (nI t)), (2, .int (nI 5))]) hl ⟨Nat.le_refl 0, Nat.le_refl 0⟩ d_R_of_2 (fun H locs hW => ?_)
  refine lv_if_eq (tgt := 26) X.x X.b d_R_of_5 (by decide) (fun c5 => ?_) (fun c5 => ?_)
  · have c5 := b2i_e c5
    have c5 := mt (isT_i hwf (by omega)).mpr c5
    omega
  · have c5 := b2i_n c5
    have c5 := (isT_i hwf (by omega)).mp c5
    refine lv_iload_n X.x X.b d_R_of_8 rfl (lv_at hl 2 rfl) ?_
    refine lv_iconst (v := nI 0) X.x X.b d_R_of_9 (by decide) ?_
    refine lv_iconst (v := nI 5) X.x X.b d_R_of_10 (by decide) ?_
    refine q_csi X (c_R_within l E S (nI 5) (nI 0) (nI 5)) hW ok_R_within mw_757 ⟨by decide, by decide⟩ (As := [.int (nI 5), .int (nI 0), .int (nI 5)]) rfl rfl (Nat.le_of_ble_eq_true rfl) (lv := [(0, .ref (eA E 70)), (1, .int (nI t)), (2, .int (nI 5))]) hl ⟨Nat.le_refl 0, Nat.le_refl 0⟩ d_R_of_11 (fun H locs hW => ?_)
    refine lv_if_eq (tgt := 26) X.x X.b d_R_of_14 (by decide) (fun c14 => ?_) (fun c14 => ?_)
    · have c14 := b2i_e c14
      have c14 := mt (inR_i (by omega) (by decide)).mpr c14
      omega
    · have c14 := b2i_n c14
      have c14 := (inR_i (by omega) (by decide)).mp c14
      refine lv_aload_n X.x X.b d_R_of_17 rfl (lv_at hl 0 rfl) ?_
      refine lv_iload_n X.x X.b d_R_of_18 rfl (lv_at hl 1 rfl) ?_
      refine lv_iload_n X.x X.b d_R_of_19 rfl (lv_at hl 2 rfl) ?_
      refine q_cvi X (c_R_told_5 l E S ν (by rw [hν]) t (by omega)) hW (q_recv X hW ds_R rfl) ok_R_told mw_813 ⟨by decide, by decide⟩ (As := [.int (nI t), .int (nI 5)]) rfl rfl (Nat.le_of_ble_eq_true rfl) (lv := [(0, .ref (eA E 70)), (1, .int (nI t)), (2, .int (nI 5))]) hl ⟨Nat.le_refl 0, Nat.le_refl 0⟩ d_R_of_20 (fun H locs hW => ?_)
      refine lv_goto (tgt := 32) X.x X.b d_R_of_23 (by decide) ?_
      exact q_zret X rfl hW ⟨rfl, rfl⟩ d_R_of_32
set_option maxHeartbeats 1000000 in
set_option maxRecDepth 20000 in
theorem c_R_of_b (l : Launch) (E : QE) (S : QM) (ν : Nat → Int32) (hν : S 16 = ν) (hwf : WF ν) (ψ : Nat → Int32) (hψ : S 19 = ψ) (x y : Int32) (h : ¬ (isT ν x ∧ inR 0 5 y)) : qCI E l y_R_of prog_7_method_33_code 3 .int 5 [.ref (eA E 70), .int x, .int y] S (-1000001) (qr S 19 (fnR ψ 0)) := by
  refine qCI_of (by decide) (Nat.le_of_ble_eq_true rfl) (fun p e s m below meth c ls X hW hl => ?_)
  have hl : lv_has ls 3 [(0, .ref (eA E 70)), (1, .int x), (2, .int y)] := hl
  have htl := hwf.tl
  have hwl := hwf.wl
  have hdl := hwf.dl
  refine lv_aload_n X.x X.b d_R_of_0 rfl (lv_at hl 0 rfl) ?_
  refine lv_iload_n X.x X.b d_R_of_1 rfl (lv_at hl 1 rfl) ?_
  refine q_cvi X (c_R_isThing l E S ν (by rw [hν]) hwf x) hW (q_recv X hW ds_R rfl) ok_R_isThing mw_809 ⟨by decide, by decide⟩ (As := [.int x]) rfl rfl (Nat.le_of_ble_eq_true rfl) (lv := [(0, .ref (eA E 70)), (1, .int x), (2, .int y)]) hl ⟨Nat.le_refl 0, Nat.le_refl 0⟩ d_R_of_2 (fun H locs hW => ?_)
  refine lv_if_eq (tgt := 26) X.x X.b d_R_of_5 (by decide) (fun c5 => ?_) (fun c5 => ?_)
  · have c5 := b2i_e c5
    refine lv_aload_n X.x X.b d_R_of_26 rfl (lv_at hl 0 rfl) ?_
    refine lv_ldc (v := (-1000001)) X.x X.b X.ow (X.ts _ mw_767) d_R_of_27 ?_
    refine q_cvi X (c_R_finding_0 l E S ψ (by rw [hψ])) hW (q_recv X hW ds_R rfl) ok_R_finding mw_768 ⟨by decide, by decide⟩ (As := [.int (-1000001)]) rfl rfl (Nat.le_of_ble_eq_true rfl) (lv := [(0, .ref (eA E 70)), (1, .int x), (2, .int y)]) hl ⟨Nat.le_refl 0, Nat.le_refl 0⟩ d_R_of_29 (fun H locs hW => ?_)
    have hW : qWH E (qr S 19 (fnR ψ 0)) s H locs := hW
    exact q_zret X rfl hW ⟨rfl, rfl⟩ d_R_of_32
  · have c5 := b2i_n c5
    refine lv_iload_n X.x X.b d_R_of_8 rfl (lv_at hl 2 rfl) ?_
    refine lv_iconst (v := nI 0) X.x X.b d_R_of_9 (by decide) ?_
    refine lv_iconst (v := nI 5) X.x X.b d_R_of_10 (by decide) ?_
    refine q_csi X (c_R_within l E S y (nI 0) (nI 5)) hW ok_R_within mw_757 ⟨by decide, by decide⟩ (As := [.int y, .int (nI 0), .int (nI 5)]) rfl rfl (Nat.le_of_ble_eq_true rfl) (lv := [(0, .ref (eA E 70)), (1, .int x), (2, .int y)]) hl ⟨Nat.le_refl 0, Nat.le_refl 0⟩ d_R_of_11 (fun H locs hW => ?_)
    refine lv_if_eq (tgt := 26) X.x X.b d_R_of_14 (by decide) (fun c14 => ?_) (fun c14 => ?_)
    · have c14 := b2i_e c14
      refine lv_aload_n X.x X.b d_R_of_26 rfl (lv_at hl 0 rfl) ?_
      refine lv_ldc (v := (-1000001)) X.x X.b X.ow (X.ts _ mw_767) d_R_of_27 ?_
      refine q_cvi X (c_R_finding_0 l E S ψ (by rw [hψ])) hW (q_recv X hW ds_R rfl) ok_R_finding mw_768 ⟨by decide, by decide⟩ (As := [.int (-1000001)]) rfl rfl (Nat.le_of_ble_eq_true rfl) (lv := [(0, .ref (eA E 70)), (1, .int x), (2, .int y)]) hl ⟨Nat.le_refl 0, Nat.le_refl 0⟩ d_R_of_29 (fun H locs hW => ?_)
      have hW : qWH E (qr S 19 (fnR ψ 0)) s H locs := hW
      exact q_zret X rfl hW ⟨rfl, rfl⟩ d_R_of_32
    · have c14 := b2i_n c14
      exact absurd ⟨c5, c14⟩ h
set_option maxHeartbeats 1000000 in
set_option maxRecDepth 20000 in
theorem c_R_change_0 (l : Launch) (E : QE) (S : QM) (ν : Nat → Int32) (hν : S 16 = ν) (hwf : WF ν) (t : Nat) (ht : t < nT ν) (v : Nat) (hv : v ≤ 6) : qCI E l y_R_change prog_7_method_34_code 5 .int 3 [.ref (eA E 70), .int (nI t), .int (nI 0), .int (nI v)] S (ν (20 + 3 * t)) (qr S 16 (upd ν (20 + 3 * t) (nI v))) := by
  refine qCI_of (by decide) (Nat.le_of_ble_eq_true rfl) (fun p e s m below meth c ls X hW hl => ?_)
  have hl : lv_has ls 5 [(0, .ref (eA E 70)), (1, .int (nI t)), (2, .int (nI 0)), (3, .int (nI v))] := hl
  have htl := hwf.tl
  have hwl := hwf.wl
  have hdl := hwf.dl
  refine lv_iload_n X.x X.b d_R_change_0 rfl (lv_at hl 2 rfl) ?_
  refine lv_if_ne (tgt := 11) X.x X.b d_R_change_1 (by decide) (fun c1 => ?_) (fun c1 => ?_)
  · exact absurd (by decide) c1
  · have c1 : 0 = 0 := (nI_eq (a := 0) (b := 0) (by omega) (by omega)).mp c1
    refine lv_iload_n X.x X.b d_R_change_4 rfl (lv_at hl 3 rfl) ?_
    refine q_csi X (c_R_isKind l E S (nI v)) hW ok_R_isKind mw_780 ⟨by decide, by decide⟩ (As := [.int (nI v)]) rfl rfl (Nat.le_of_ble_eq_true rfl) (lv := [(0, .ref (eA E 70)), (1, .int (nI t)), (2, .int (nI 0)), (3, .int (nI v))]) hl ⟨Nat.le_refl 0, Nat.le_refl 0⟩ d_R_change_5 (fun H locs hW => ?_)
    refine lv_goto (tgt := 44) X.x X.b d_R_change_8 (by decide) ?_
    refine lv_istore (lv' := [(4, .int (b2i (inR 0 6 (nI v)))), (0, .ref (eA E 70)), (1, .int (nI t)), (2, .int (nI 0)), (3, .int (nI v))]) X.x X.b d_R_change_44 hl (by decide) rfl (fun ls hl => ?_)
    refine lv_aload_n X.x X.b d_R_change_46 rfl (lv_at hl 1 rfl) ?_
    refine lv_iload_n X.x X.b d_R_change_47 rfl (lv_at hl 2 rfl) ?_
    refine q_cvi X (c_R_isThing l E S ν (by rw [hν]) hwf (nI t)) hW (q_recv X hW ds_R rfl) ok_R_isThing mw_809 ⟨by decide, by decide⟩ (As := [.int (nI t)]) rfl rfl (Nat.le_of_ble_eq_true rfl) (lv := [(4, .int (b2i (inR 0 6 (nI v)))), (0, .ref (eA E 70)), (1, .int (nI t)), (2, .int (nI 0)), (3, .int (nI v))]) hl ⟨Nat.le_refl 0, Nat.le_refl 0⟩ d_R_change_48 (fun H locs hW => ?_)
    refine lv_if_eq (tgt := 72) X.x X.b d_R_change_51 (by decide) (fun c51 => ?_) (fun c51 => ?_)
    · have c51 := b2i_e c51
      have c51 := mt (isT_i hwf (by omega)).mpr c51
      omega
    · have c51 := b2i_n c51
      have c51 := (isT_i hwf (by omega)).mp c51
      refine lv_iload X.x X.b d_R_change_54 (lv_at hl 0 rfl) ?_
      refine lv_if_eq (tgt := 72) X.x X.b d_R_change_56 (by decide) (fun c56 => ?_) (fun c56 => ?_)
      · have c56 := b2i_e c56
        have c56 := mt (inR_i (by omega) (by decide)).mpr c56
        omega
      · have c56 := b2i_n c56
        have c56 := (inR_i (by omega) (by decide)).mp c56
        refine lv_aload_n X.x X.b d_R_change_59 rfl (lv_at hl 1 rfl) ?_
        refine lv_iload_n X.x X.b d_R_change_60 rfl (lv_at hl 2 rfl) ?_
        refine lv_iload_n X.x X.b d_R_change_61 rfl (lv_at hl 3 rfl) ?_
        refine q_csi X (c_R_thingAt_z l E S t) hW ok_R_thingAt mw_791 ⟨by decide, by decide⟩ (As := [.int (nI t), .int (nI 0)]) rfl rfl (Nat.le_of_ble_eq_true rfl) (lv := [(4, .int (b2i (inR 0 6 (nI v)))), (0, .ref (eA E 70)), (1, .int (nI t)), (2, .int (nI 0)), (3, .int (nI v))]) hl ⟨Nat.le_refl 0, Nat.le_refl 0⟩ d_R_change_62 (fun H locs hW => ?_)
        refine lv_iload_n X.x X.b d_R_change_65 rfl (lv_at hl 4 rfl) ?_
        refine q_cvi X (c_R_become l E S ν (by rw [hν]) (20 + 3 * t) (nI v) (by omega)) hW (q_recv X hW ds_R rfl) ok_R_become mw_763 ⟨by decide, by decide⟩ (As := [.int (nI (20 + 3 * t)), .int (nI v)]) rfl rfl (Nat.le_of_ble_eq_true rfl) (lv := [(4, .int (b2i (inR 0 6 (nI v)))), (0, .ref (eA E 70)), (1, .int (nI t)), (2, .int (nI 0)), (3, .int (nI v))]) hl ⟨Nat.le_refl 0, Nat.le_refl 0⟩ d_R_change_66 (fun H locs hW => ?_)
        have hW : qWH E (qr S 16 (upd ν (20 + 3 * t) (nI v))) s H locs := hW
        refine lv_goto (tgt := 78) X.x X.b d_R_change_69 (by decide) ?_
        exact q_zret X rfl hW ⟨rfl, rfl⟩ d_R_change_78
set_option maxHeartbeats 1000000 in
set_option maxRecDepth 20000 in
theorem c_R_change_b0 (l : Launch) (E : QE) (S : QM) (ν : Nat → Int32) (hν : S 16 = ν) (hwf : WF ν) (ψ : Nat → Int32) (hψ : S 19 = ψ) (x z : Int32) (h : ¬ (isT ν x ∧ inR 0 6 z)) : qCI E l y_R_change prog_7_method_34_code 5 .int 3 [.ref (eA E 70), .int x, .int (nI 0), .int z] S (-1000001) (qr S 19 (fnR ψ 0)) := by
  refine qCI_of (by decide) (Nat.le_of_ble_eq_true rfl) (fun p e s m below meth c ls X hW hl => ?_)
  have hl : lv_has ls 5 [(0, .ref (eA E 70)), (1, .int x), (2, .int (nI 0)), (3, .int z)] := hl
  have htl := hwf.tl
  have hwl := hwf.wl
  have hdl := hwf.dl
  refine lv_iload_n X.x X.b d_R_change_0 rfl (lv_at hl 2 rfl) ?_
  refine lv_if_ne (tgt := 11) X.x X.b d_R_change_1 (by decide) (fun c1 => ?_) (fun c1 => ?_)
  · exact absurd (by decide) c1
  · have c1 : 0 = 0 := (nI_eq (a := 0) (b := 0) (by omega) (by omega)).mp c1
    refine lv_iload_n X.x X.b d_R_change_4 rfl (lv_at hl 3 rfl) ?_
    refine q_csi X (c_R_isKind l E S z) hW ok_R_isKind mw_780 ⟨by decide, by decide⟩ (As := [.int z]) rfl rfl (Nat.le_of_ble_eq_true rfl) (lv := [(0, .ref (eA E 70)), (1, .int x), (2, .int (nI 0)), (3, .int z)]) hl ⟨Nat.le_refl 0, Nat.le_refl 0⟩ d_R_change_5 (fun H locs hW => ?_)
    refine lv_goto (tgt := 44) X.x X.b d_R_change_8 (by decide) ?_
    refine lv_istore (lv' := [(4, .int (b2i (inR 0 6 z))), (0, .ref (eA E 70)), (1, .int x), (2, .int (nI 0)), (3, .int z)]) X.x X.b d_R_change_44 hl (by decide) rfl (fun ls hl => ?_)
    refine lv_aload_n X.x X.b d_R_change_46 rfl (lv_at hl 1 rfl) ?_
    refine lv_iload_n X.x X.b d_R_change_47 rfl (lv_at hl 2 rfl) ?_
    refine q_cvi X (c_R_isThing l E S ν (by rw [hν]) hwf x) hW (q_recv X hW ds_R rfl) ok_R_isThing mw_809 ⟨by decide, by decide⟩ (As := [.int x]) rfl rfl (Nat.le_of_ble_eq_true rfl) (lv := [(4, .int (b2i (inR 0 6 z))), (0, .ref (eA E 70)), (1, .int x), (2, .int (nI 0)), (3, .int z)]) hl ⟨Nat.le_refl 0, Nat.le_refl 0⟩ d_R_change_48 (fun H locs hW => ?_)
    refine lv_if_eq (tgt := 72) X.x X.b d_R_change_51 (by decide) (fun c51 => ?_) (fun c51 => ?_)
    · have c51 := b2i_e c51
      refine lv_aload_n X.x X.b d_R_change_72 rfl (lv_at hl 1 rfl) ?_
      refine lv_ldc (v := (-1000001)) X.x X.b X.ow (X.ts _ mw_767) d_R_change_73 ?_
      refine q_cvi X (c_R_finding_0 l E S ψ (by rw [hψ])) hW (q_recv X hW ds_R rfl) ok_R_finding mw_768 ⟨by decide, by decide⟩ (As := [.int (-1000001)]) rfl rfl (Nat.le_of_ble_eq_true rfl) (lv := [(4, .int (b2i (inR 0 6 z))), (0, .ref (eA E 70)), (1, .int x), (2, .int (nI 0)), (3, .int z)]) hl ⟨Nat.le_refl 0, Nat.le_refl 0⟩ d_R_change_75 (fun H locs hW => ?_)
      have hW : qWH E (qr S 19 (fnR ψ 0)) s H locs := hW
      exact q_zret X rfl hW ⟨rfl, rfl⟩ d_R_change_78
    · have c51 := b2i_n c51
      refine lv_iload X.x X.b d_R_change_54 (lv_at hl 0 rfl) ?_
      refine lv_if_eq (tgt := 72) X.x X.b d_R_change_56 (by decide) (fun c56 => ?_) (fun c56 => ?_)
      · have c56 := b2i_e c56
        refine lv_aload_n X.x X.b d_R_change_72 rfl (lv_at hl 1 rfl) ?_
        refine lv_ldc (v := (-1000001)) X.x X.b X.ow (X.ts _ mw_767) d_R_change_73 ?_
        refine q_cvi X (c_R_finding_0 l E S ψ (by rw [hψ])) hW (q_recv X hW ds_R rfl) ok_R_finding mw_768 ⟨by decide, by decide⟩ (As := [.int (-1000001)]) rfl rfl (Nat.le_of_ble_eq_true rfl) (lv := [(4, .int (b2i (inR 0 6 z))), (0, .ref (eA E 70)), (1, .int x), (2, .int (nI 0)), (3, .int z)]) hl ⟨Nat.le_refl 0, Nat.le_refl 0⟩ d_R_change_75 (fun H locs hW => ?_)
        have hW : qWH E (qr S 19 (fnR ψ 0)) s H locs := hW
        exact q_zret X rfl hW ⟨rfl, rfl⟩ d_R_change_78
      · have c56 := b2i_n c56
        exact absurd ⟨c51, c56⟩ h
set_option maxHeartbeats 1000000 in
set_option maxRecDepth 20000 in
theorem c_R_change_1 (l : Launch) (E : QE) (S : QM) (ν : Nat → Int32) (hν : S 16 = ν) (hwf : WF ν) (t : Nat) (ht : t < nT ν) (v : Nat) (hv : v ≤ 15) : qCI E l y_R_change prog_7_method_34_code 5 .int 3 [.ref (eA E 70), .int (nI t), .int (nI 1), .int (nI v)] S (ν (20 + 3 * t + 1)) (qr S 16 (upd ν (20 + 3 * t + 1) (nI v))) := by
  refine qCI_of (by decide) (Nat.le_of_ble_eq_true rfl) (fun p e s m below meth c ls X hW hl => ?_)
  have hl : lv_has ls 5 [(0, .ref (eA E 70)), (1, .int (nI t)), (2, .int (nI 1)), (3, .int (nI v))] := hl
  have htl := hwf.tl
  have hwl := hwf.wl
  have hdl := hwf.dl
  refine lv_iload_n X.x X.b d_R_change_0 rfl (lv_at hl 2 rfl) ?_
  refine lv_if_ne (tgt := 11) X.x X.b d_R_change_1 (by decide) (fun c1 => ?_) (fun c1 => ?_)
  · have c1 : ¬ 1 = 0 := fun z => c1 ((nI_eq (a := 1) (b := 0) (by omega) (by omega)).mpr z)
    refine lv_iload_n X.x X.b d_R_change_11 rfl (lv_at hl 2 rfl) ?_
    refine lv_iconst (v := nI 1) X.x X.b d_R_change_12 (by decide) ?_
    refine lv_icmp_ne (tgt := 23) X.x X.b d_R_change_13 (by decide) (fun c13 => ?_) (fun c13 => ?_)
    · exact absurd (by decide) c13
    · have c13 : 1 = 1 := (nI_eq (a := 1) (b := 1) (by omega) (by omega)).mp c13
      refine lv_iload_n X.x X.b d_R_change_16 rfl (lv_at hl 3 rfl) ?_
      refine q_csi X (c_R_isCell l E S (nI v)) hW ok_R_isCell mw_783 ⟨by decide, by decide⟩ (As := [.int (nI v)]) rfl rfl (Nat.le_of_ble_eq_true rfl) (lv := [(0, .ref (eA E 70)), (1, .int (nI t)), (2, .int (nI 1)), (3, .int (nI v))]) hl ⟨Nat.le_refl 0, Nat.le_refl 0⟩ d_R_change_17 (fun H locs hW => ?_)
      refine lv_goto (tgt := 44) X.x X.b d_R_change_20 (by decide) ?_
      refine lv_istore (lv' := [(4, .int (b2i (inR 0 15 (nI v)))), (0, .ref (eA E 70)), (1, .int (nI t)), (2, .int (nI 1)), (3, .int (nI v))]) X.x X.b d_R_change_44 hl (by decide) rfl (fun ls hl => ?_)
      refine lv_aload_n X.x X.b d_R_change_46 rfl (lv_at hl 1 rfl) ?_
      refine lv_iload_n X.x X.b d_R_change_47 rfl (lv_at hl 2 rfl) ?_
      refine q_cvi X (c_R_isThing l E S ν (by rw [hν]) hwf (nI t)) hW (q_recv X hW ds_R rfl) ok_R_isThing mw_809 ⟨by decide, by decide⟩ (As := [.int (nI t)]) rfl rfl (Nat.le_of_ble_eq_true rfl) (lv := [(4, .int (b2i (inR 0 15 (nI v)))), (0, .ref (eA E 70)), (1, .int (nI t)), (2, .int (nI 1)), (3, .int (nI v))]) hl ⟨Nat.le_refl 0, Nat.le_refl 0⟩ d_R_change_48 (fun H locs hW => ?_)
      refine lv_if_eq (tgt := 72) X.x X.b d_R_change_51 (by decide) (fun c51 => ?_) (fun c51 => ?_)
      · have c51 := b2i_e c51
        have c51 := mt (isT_i hwf (by omega)).mpr c51
        omega
      · have c51 := b2i_n c51
        have c51 := (isT_i hwf (by omega)).mp c51
        refine lv_iload X.x X.b d_R_change_54 (lv_at hl 0 rfl) ?_
        refine lv_if_eq (tgt := 72) X.x X.b d_R_change_56 (by decide) (fun c56 => ?_) (fun c56 => ?_)
        · have c56 := b2i_e c56
          have c56 := mt (inR_i (by omega) (by decide)).mpr c56
          omega
        · have c56 := b2i_n c56
          have c56 := (inR_i (by omega) (by decide)).mp c56
          refine lv_aload_n X.x X.b d_R_change_59 rfl (lv_at hl 1 rfl) ?_
          refine lv_iload_n X.x X.b d_R_change_60 rfl (lv_at hl 2 rfl) ?_
          refine lv_iload_n X.x X.b d_R_change_61 rfl (lv_at hl 3 rfl) ?_
          refine q_csi X (c_R_thingAt l E S t 1) hW ok_R_thingAt mw_791 ⟨by decide, by decide⟩ (As := [.int (nI t), .int (nI 1)]) rfl rfl (Nat.le_of_ble_eq_true rfl) (lv := [(4, .int (b2i (inR 0 15 (nI v)))), (0, .ref (eA E 70)), (1, .int (nI t)), (2, .int (nI 1)), (3, .int (nI v))]) hl ⟨Nat.le_refl 0, Nat.le_refl 0⟩ d_R_change_62 (fun H locs hW => ?_)
          refine lv_iload_n X.x X.b d_R_change_65 rfl (lv_at hl 4 rfl) ?_
          refine q_cvi X (c_R_become l E S ν (by rw [hν]) (20 + 3 * t + 1) (nI v) (by omega)) hW (q_recv X hW ds_R rfl) ok_R_become mw_763 ⟨by decide, by decide⟩ (As := [.int (nI (20 + 3 * t + 1)), .int (nI v)]) rfl rfl (Nat.le_of_ble_eq_true rfl) (lv := [(4, .int (b2i (inR 0 15 (nI v)))), (0, .ref (eA E 70)), (1, .int (nI t)), (2, .int (nI 1)), (3, .int (nI v))]) hl ⟨Nat.le_refl 0, Nat.le_refl 0⟩ d_R_change_66 (fun H locs hW => ?_)
          have hW : qWH E (qr S 16 (upd ν (20 + 3 * t + 1) (nI v))) s H locs := hW
          refine lv_goto (tgt := 78) X.x X.b d_R_change_69 (by decide) ?_
          exact q_zret X rfl hW ⟨rfl, rfl⟩ d_R_change_78
  · exact absurd c1 (by decide)
set_option maxHeartbeats 1000000 in
set_option maxRecDepth 20000 in
theorem c_R_change_b1 (l : Launch) (E : QE) (S : QM) (ν : Nat → Int32) (hν : S 16 = ν) (hwf : WF ν) (ψ : Nat → Int32) (hψ : S 19 = ψ) (x z : Int32) (h : ¬ (isT ν x ∧ inR 0 15 z)) : qCI E l y_R_change prog_7_method_34_code 5 .int 3 [.ref (eA E 70), .int x, .int (nI 1), .int z] S (-1000001) (qr S 19 (fnR ψ 0)) := by
  refine qCI_of (by decide) (Nat.le_of_ble_eq_true rfl) (fun p e s m below meth c ls X hW hl => ?_)
  have hl : lv_has ls 5 [(0, .ref (eA E 70)), (1, .int x), (2, .int (nI 1)), (3, .int z)] := hl
  have htl := hwf.tl
  have hwl := hwf.wl
  have hdl := hwf.dl
  refine lv_iload_n X.x X.b d_R_change_0 rfl (lv_at hl 2 rfl) ?_
  refine lv_if_ne (tgt := 11) X.x X.b d_R_change_1 (by decide) (fun c1 => ?_) (fun c1 => ?_)
  · have c1 : ¬ 1 = 0 := fun z => c1 ((nI_eq (a := 1) (b := 0) (by omega) (by omega)).mpr z)
    refine lv_iload_n X.x X.b d_R_change_11 rfl (lv_at hl 2 rfl) ?_
    refine lv_iconst (v := nI 1) X.x X.b d_R_change_12 (by decide) ?_
    refine lv_icmp_ne (tgt := 23) X.x X.b d_R_change_13 (by decide) (fun c13 => ?_) (fun c13 => ?_)
    · exact absurd (by decide) c13
    · have c13 : 1 = 1 := (nI_eq (a := 1) (b := 1) (by omega) (by omega)).mp c13
      refine lv_iload_n X.x X.b d_R_change_16 rfl (lv_at hl 3 rfl) ?_
      refine q_csi X (c_R_isCell l E S z) hW ok_R_isCell mw_783 ⟨by decide, by decide⟩ (As := [.int z]) rfl rfl (Nat.le_of_ble_eq_true rfl) (lv := [(0, .ref (eA E 70)), (1, .int x), (2, .int (nI 1)), (3, .int z)]) hl ⟨Nat.le_refl 0, Nat.le_refl 0⟩ d_R_change_17 (fun H locs hW => ?_)
      refine lv_goto (tgt := 44) X.x X.b d_R_change_20 (by decide) ?_
      refine lv_istore (lv' := [(4, .int (b2i (inR 0 15 z))), (0, .ref (eA E 70)), (1, .int x), (2, .int (nI 1)), (3, .int z)]) X.x X.b d_R_change_44 hl (by decide) rfl (fun ls hl => ?_)
      refine lv_aload_n X.x X.b d_R_change_46 rfl (lv_at hl 1 rfl) ?_
      refine lv_iload_n X.x X.b d_R_change_47 rfl (lv_at hl 2 rfl) ?_
      refine q_cvi X (c_R_isThing l E S ν (by rw [hν]) hwf x) hW (q_recv X hW ds_R rfl) ok_R_isThing mw_809 ⟨by decide, by decide⟩ (As := [.int x]) rfl rfl (Nat.le_of_ble_eq_true rfl) (lv := [(4, .int (b2i (inR 0 15 z))), (0, .ref (eA E 70)), (1, .int x), (2, .int (nI 1)), (3, .int z)]) hl ⟨Nat.le_refl 0, Nat.le_refl 0⟩ d_R_change_48 (fun H locs hW => ?_)
      refine lv_if_eq (tgt := 72) X.x X.b d_R_change_51 (by decide) (fun c51 => ?_) (fun c51 => ?_)
      · have c51 := b2i_e c51
        refine lv_aload_n X.x X.b d_R_change_72 rfl (lv_at hl 1 rfl) ?_
        refine lv_ldc (v := (-1000001)) X.x X.b X.ow (X.ts _ mw_767) d_R_change_73 ?_
        refine q_cvi X (c_R_finding_0 l E S ψ (by rw [hψ])) hW (q_recv X hW ds_R rfl) ok_R_finding mw_768 ⟨by decide, by decide⟩ (As := [.int (-1000001)]) rfl rfl (Nat.le_of_ble_eq_true rfl) (lv := [(4, .int (b2i (inR 0 15 z))), (0, .ref (eA E 70)), (1, .int x), (2, .int (nI 1)), (3, .int z)]) hl ⟨Nat.le_refl 0, Nat.le_refl 0⟩ d_R_change_75 (fun H locs hW => ?_)
        have hW : qWH E (qr S 19 (fnR ψ 0)) s H locs := hW
        exact q_zret X rfl hW ⟨rfl, rfl⟩ d_R_change_78
      · have c51 := b2i_n c51
        refine lv_iload X.x X.b d_R_change_54 (lv_at hl 0 rfl) ?_
        refine lv_if_eq (tgt := 72) X.x X.b d_R_change_56 (by decide) (fun c56 => ?_) (fun c56 => ?_)
        · have c56 := b2i_e c56
          refine lv_aload_n X.x X.b d_R_change_72 rfl (lv_at hl 1 rfl) ?_
          refine lv_ldc (v := (-1000001)) X.x X.b X.ow (X.ts _ mw_767) d_R_change_73 ?_
          refine q_cvi X (c_R_finding_0 l E S ψ (by rw [hψ])) hW (q_recv X hW ds_R rfl) ok_R_finding mw_768 ⟨by decide, by decide⟩ (As := [.int (-1000001)]) rfl rfl (Nat.le_of_ble_eq_true rfl) (lv := [(4, .int (b2i (inR 0 15 z))), (0, .ref (eA E 70)), (1, .int x), (2, .int (nI 1)), (3, .int z)]) hl ⟨Nat.le_refl 0, Nat.le_refl 0⟩ d_R_change_75 (fun H locs hW => ?_)
          have hW : qWH E (qr S 19 (fnR ψ 0)) s H locs := hW
          exact q_zret X rfl hW ⟨rfl, rfl⟩ d_R_change_78
        · have c56 := b2i_n c56
          exact absurd ⟨c51, c56⟩ h
  · exact absurd c1 (by decide)
set_option maxHeartbeats 1000000 in
set_option maxRecDepth 20000 in
theorem c_R_change_2 (l : Launch) (E : QE) (S : QM) (ν : Nat → Int32) (hν : S 16 = ν) (hwf : WF ν) (t : Nat) (ht : t < nT ν) (v : Nat) (hv : v ≤ 9999) : qCI E l y_R_change prog_7_method_34_code 5 .int 3 [.ref (eA E 70), .int (nI t), .int (nI 2), .int (nI v)] S (ν (20 + 3 * t + 2)) (qr S 16 (upd ν (20 + 3 * t + 2) (nI v))) := by
  refine qCI_of (by decide) (Nat.le_of_ble_eq_true rfl) (fun p e s m below meth c ls X hW hl => ?_)
  have hl : lv_has ls 5 [(0, .ref (eA E 70)), (1, .int (nI t)), (2, .int (nI 2)), (3, .int (nI v))] := hl
  have htl := hwf.tl
  have hwl := hwf.wl
  have hdl := hwf.dl
  refine lv_iload_n X.x X.b d_R_change_0 rfl (lv_at hl 2 rfl) ?_
  refine lv_if_ne (tgt := 11) X.x X.b d_R_change_1 (by decide) (fun c1 => ?_) (fun c1 => ?_)
  · have c1 : ¬ 2 = 0 := fun z => c1 ((nI_eq (a := 2) (b := 0) (by omega) (by omega)).mpr z)
    refine lv_iload_n X.x X.b d_R_change_11 rfl (lv_at hl 2 rfl) ?_
    refine lv_iconst (v := nI 1) X.x X.b d_R_change_12 (by decide) ?_
    refine lv_icmp_ne (tgt := 23) X.x X.b d_R_change_13 (by decide) (fun c13 => ?_) (fun c13 => ?_)
    · have c13 : ¬ 2 = 1 := fun z => c13 ((nI_eq (a := 2) (b := 1) (by omega) (by omega)).mpr z)
      refine lv_iload_n X.x X.b d_R_change_23 rfl (lv_at hl 2 rfl) ?_
      refine lv_iconst (v := nI 2) X.x X.b d_R_change_24 (by decide) ?_
      refine lv_icmp_ne (tgt := 43) X.x X.b d_R_change_25 (by decide) (fun c25 => ?_) (fun c25 => ?_)
      · exact absurd (by decide) c25
      · have c25 : 2 = 2 := (nI_eq (a := 2) (b := 2) (by omega) (by omega)).mp c25
        refine lv_iload_n X.x X.b d_R_change_28 rfl (lv_at hl 3 rfl) ?_
        refine lv_iconst (v := nI 0) X.x X.b d_R_change_29 (by decide) ?_
        refine lv_sipush (v := nI 9999) X.x X.b d_R_change_30 (by decide) ?_
        refine q_csi X (c_R_within l E S (nI v) (nI 0) (nI 9999)) hW ok_R_within mw_757 ⟨by decide, by decide⟩ (As := [.int (nI v), .int (nI 0), .int (nI 9999)]) rfl rfl (Nat.le_of_ble_eq_true rfl) (lv := [(0, .ref (eA E 70)), (1, .int (nI t)), (2, .int (nI 2)), (3, .int (nI v))]) hl ⟨Nat.le_refl 0, Nat.le_refl 0⟩ d_R_change_33 (fun H locs hW => ?_)
        refine lv_if_eq (tgt := 43) X.x X.b d_R_change_36 (by decide) (fun c36 => ?_) (fun c36 => ?_)
        · have c36 := b2i_e c36
          have c36 := mt (inR_i (by omega) (by decide)).mpr c36
          omega
        · have c36 := b2i_n c36
          have c36 := (inR_i (by omega) (by decide)).mp c36
          refine lv_iconst (v := nI 1) X.x X.b d_R_change_39 (by decide) ?_
          refine lv_goto (tgt := 44) X.x X.b d_R_change_40 (by decide) ?_
          refine lv_istore (lv' := [(4, .int (nI 1)), (0, .ref (eA E 70)), (1, .int (nI t)), (2, .int (nI 2)), (3, .int (nI v))]) X.x X.b d_R_change_44 hl (by decide) rfl (fun ls hl => ?_)
          refine lv_aload_n X.x X.b d_R_change_46 rfl (lv_at hl 1 rfl) ?_
          refine lv_iload_n X.x X.b d_R_change_47 rfl (lv_at hl 2 rfl) ?_
          refine q_cvi X (c_R_isThing l E S ν (by rw [hν]) hwf (nI t)) hW (q_recv X hW ds_R rfl) ok_R_isThing mw_809 ⟨by decide, by decide⟩ (As := [.int (nI t)]) rfl rfl (Nat.le_of_ble_eq_true rfl) (lv := [(4, .int (nI 1)), (0, .ref (eA E 70)), (1, .int (nI t)), (2, .int (nI 2)), (3, .int (nI v))]) hl ⟨Nat.le_refl 0, Nat.le_refl 0⟩ d_R_change_48 (fun H locs hW => ?_)
          refine lv_if_eq (tgt := 72) X.x X.b d_R_change_51 (by decide) (fun c51 => ?_) (fun c51 => ?_)
          · have c51 := b2i_e c51
            have c51 := mt (isT_i hwf (by omega)).mpr c51
            omega
          · have c51 := b2i_n c51
            have c51 := (isT_i hwf (by omega)).mp c51
            refine lv_iload X.x X.b d_R_change_54 (lv_at hl 0 rfl) ?_
            refine lv_if_eq (tgt := 72) X.x X.b d_R_change_56 (by decide) (fun c56 => ?_) (fun c56 => ?_)
            · exact absurd c56 (by decide)
            · have c56 : ¬ 1 = 0 := fun z => c56 ((nI_eq (a := 1) (b := 0) (by omega) (by omega)).mpr z)
              refine lv_aload_n X.x X.b d_R_change_59 rfl (lv_at hl 1 rfl) ?_
              refine lv_iload_n X.x X.b d_R_change_60 rfl (lv_at hl 2 rfl) ?_
              refine lv_iload_n X.x X.b d_R_change_61 rfl (lv_at hl 3 rfl) ?_
              refine q_csi X (c_R_thingAt l E S t 2) hW ok_R_thingAt mw_791 ⟨by decide, by decide⟩ (As := [.int (nI t), .int (nI 2)]) rfl rfl (Nat.le_of_ble_eq_true rfl) (lv := [(4, .int (nI 1)), (0, .ref (eA E 70)), (1, .int (nI t)), (2, .int (nI 2)), (3, .int (nI v))]) hl ⟨Nat.le_refl 0, Nat.le_refl 0⟩ d_R_change_62 (fun H locs hW => ?_)
              refine lv_iload_n X.x X.b d_R_change_65 rfl (lv_at hl 4 rfl) ?_
              refine q_cvi X (c_R_become l E S ν (by rw [hν]) (20 + 3 * t + 2) (nI v) (by omega)) hW (q_recv X hW ds_R rfl) ok_R_become mw_763 ⟨by decide, by decide⟩ (As := [.int (nI (20 + 3 * t + 2)), .int (nI v)]) rfl rfl (Nat.le_of_ble_eq_true rfl) (lv := [(4, .int (nI 1)), (0, .ref (eA E 70)), (1, .int (nI t)), (2, .int (nI 2)), (3, .int (nI v))]) hl ⟨Nat.le_refl 0, Nat.le_refl 0⟩ d_R_change_66 (fun H locs hW => ?_)
              have hW : qWH E (qr S 16 (upd ν (20 + 3 * t + 2) (nI v))) s H locs := hW
              refine lv_goto (tgt := 78) X.x X.b d_R_change_69 (by decide) ?_
              exact q_zret X rfl hW ⟨rfl, rfl⟩ d_R_change_78
    · exact absurd c13 (by decide)
  · exact absurd c1 (by decide)
set_option maxHeartbeats 1000000 in
set_option maxRecDepth 20000 in
theorem c_R_change_b2 (l : Launch) (E : QE) (S : QM) (ν : Nat → Int32) (hν : S 16 = ν) (hwf : WF ν) (ψ : Nat → Int32) (hψ : S 19 = ψ) (x z : Int32) (h : ¬ (inR 0 9999 z ∧ isT ν x)) : qCI E l y_R_change prog_7_method_34_code 5 .int 3 [.ref (eA E 70), .int x, .int (nI 2), .int z] S (-1000001) (qr S 19 (fnR ψ 0)) := by
  refine qCI_of (by decide) (Nat.le_of_ble_eq_true rfl) (fun p e s m below meth c ls X hW hl => ?_)
  have hl : lv_has ls 5 [(0, .ref (eA E 70)), (1, .int x), (2, .int (nI 2)), (3, .int z)] := hl
  have htl := hwf.tl
  have hwl := hwf.wl
  have hdl := hwf.dl
  refine lv_iload_n X.x X.b d_R_change_0 rfl (lv_at hl 2 rfl) ?_
  refine lv_if_ne (tgt := 11) X.x X.b d_R_change_1 (by decide) (fun c1 => ?_) (fun c1 => ?_)
  · have c1 : ¬ 2 = 0 := fun z => c1 ((nI_eq (a := 2) (b := 0) (by omega) (by omega)).mpr z)
    refine lv_iload_n X.x X.b d_R_change_11 rfl (lv_at hl 2 rfl) ?_
    refine lv_iconst (v := nI 1) X.x X.b d_R_change_12 (by decide) ?_
    refine lv_icmp_ne (tgt := 23) X.x X.b d_R_change_13 (by decide) (fun c13 => ?_) (fun c13 => ?_)
    · have c13 : ¬ 2 = 1 := fun z => c13 ((nI_eq (a := 2) (b := 1) (by omega) (by omega)).mpr z)
      refine lv_iload_n X.x X.b d_R_change_23 rfl (lv_at hl 2 rfl) ?_
      refine lv_iconst (v := nI 2) X.x X.b d_R_change_24 (by decide) ?_
      refine lv_icmp_ne (tgt := 43) X.x X.b d_R_change_25 (by decide) (fun c25 => ?_) (fun c25 => ?_)
      · exact absurd (by decide) c25
      · have c25 : 2 = 2 := (nI_eq (a := 2) (b := 2) (by omega) (by omega)).mp c25
        refine lv_iload_n X.x X.b d_R_change_28 rfl (lv_at hl 3 rfl) ?_
        refine lv_iconst (v := nI 0) X.x X.b d_R_change_29 (by decide) ?_
        refine lv_sipush (v := nI 9999) X.x X.b d_R_change_30 (by decide) ?_
        refine q_csi X (c_R_within l E S z (nI 0) (nI 9999)) hW ok_R_within mw_757 ⟨by decide, by decide⟩ (As := [.int z, .int (nI 0), .int (nI 9999)]) rfl rfl (Nat.le_of_ble_eq_true rfl) (lv := [(0, .ref (eA E 70)), (1, .int x), (2, .int (nI 2)), (3, .int z)]) hl ⟨Nat.le_refl 0, Nat.le_refl 0⟩ d_R_change_33 (fun H locs hW => ?_)
        refine lv_if_eq (tgt := 43) X.x X.b d_R_change_36 (by decide) (fun c36 => ?_) (fun c36 => ?_)
        · have c36 := b2i_e c36
          refine lv_iconst (v := nI 0) X.x X.b d_R_change_43 (by decide) ?_
          refine lv_istore (lv' := [(4, .int (nI 0)), (0, .ref (eA E 70)), (1, .int x), (2, .int (nI 2)), (3, .int z)]) X.x X.b d_R_change_44 hl (by decide) rfl (fun ls hl => ?_)
          refine lv_aload_n X.x X.b d_R_change_46 rfl (lv_at hl 1 rfl) ?_
          refine lv_iload_n X.x X.b d_R_change_47 rfl (lv_at hl 2 rfl) ?_
          refine q_cvi X (c_R_isThing l E S ν (by rw [hν]) hwf x) hW (q_recv X hW ds_R rfl) ok_R_isThing mw_809 ⟨by decide, by decide⟩ (As := [.int x]) rfl rfl (Nat.le_of_ble_eq_true rfl) (lv := [(4, .int (nI 0)), (0, .ref (eA E 70)), (1, .int x), (2, .int (nI 2)), (3, .int z)]) hl ⟨Nat.le_refl 0, Nat.le_refl 0⟩ d_R_change_48 (fun H locs hW => ?_)
          refine lv_if_eq (tgt := 72) X.x X.b d_R_change_51 (by decide) (fun c51 => ?_) (fun c51 => ?_)
          · have c51 := b2i_e c51
            refine lv_aload_n X.x X.b d_R_change_72 rfl (lv_at hl 1 rfl) ?_
            refine lv_ldc (v := (-1000001)) X.x X.b X.ow (X.ts _ mw_767) d_R_change_73 ?_
            refine q_cvi X (c_R_finding_0 l E S ψ (by rw [hψ])) hW (q_recv X hW ds_R rfl) ok_R_finding mw_768 ⟨by decide, by decide⟩ (As := [.int (-1000001)]) rfl rfl (Nat.le_of_ble_eq_true rfl) (lv := [(4, .int (nI 0)), (0, .ref (eA E 70)), (1, .int x), (2, .int (nI 2)), (3, .int z)]) hl ⟨Nat.le_refl 0, Nat.le_refl 0⟩ d_R_change_75 (fun H locs hW => ?_)
            have hW : qWH E (qr S 19 (fnR ψ 0)) s H locs := hW
            exact q_zret X rfl hW ⟨rfl, rfl⟩ d_R_change_78
          · have c51 := b2i_n c51
            refine lv_iload X.x X.b d_R_change_54 (lv_at hl 0 rfl) ?_
            refine lv_if_eq (tgt := 72) X.x X.b d_R_change_56 (by decide) (fun c56 => ?_) (fun c56 => ?_)
            · have c56 : 0 = 0 := (nI_eq (a := 0) (b := 0) (by omega) (by omega)).mp c56
              refine lv_aload_n X.x X.b d_R_change_72 rfl (lv_at hl 1 rfl) ?_
              refine lv_ldc (v := (-1000001)) X.x X.b X.ow (X.ts _ mw_767) d_R_change_73 ?_
              refine q_cvi X (c_R_finding_0 l E S ψ (by rw [hψ])) hW (q_recv X hW ds_R rfl) ok_R_finding mw_768 ⟨by decide, by decide⟩ (As := [.int (-1000001)]) rfl rfl (Nat.le_of_ble_eq_true rfl) (lv := [(4, .int (nI 0)), (0, .ref (eA E 70)), (1, .int x), (2, .int (nI 2)), (3, .int z)]) hl ⟨Nat.le_refl 0, Nat.le_refl 0⟩ d_R_change_75 (fun H locs hW => ?_)
              have hW : qWH E (qr S 19 (fnR ψ 0)) s H locs := hW
              exact q_zret X rfl hW ⟨rfl, rfl⟩ d_R_change_78
            · exact absurd (by decide) c56
        · have c36 := b2i_n c36
          refine lv_iconst (v := nI 1) X.x X.b d_R_change_39 (by decide) ?_
          refine lv_goto (tgt := 44) X.x X.b d_R_change_40 (by decide) ?_
          refine lv_istore (lv' := [(4, .int (nI 1)), (0, .ref (eA E 70)), (1, .int x), (2, .int (nI 2)), (3, .int z)]) X.x X.b d_R_change_44 hl (by decide) rfl (fun ls hl => ?_)
          refine lv_aload_n X.x X.b d_R_change_46 rfl (lv_at hl 1 rfl) ?_
          refine lv_iload_n X.x X.b d_R_change_47 rfl (lv_at hl 2 rfl) ?_
          refine q_cvi X (c_R_isThing l E S ν (by rw [hν]) hwf x) hW (q_recv X hW ds_R rfl) ok_R_isThing mw_809 ⟨by decide, by decide⟩ (As := [.int x]) rfl rfl (Nat.le_of_ble_eq_true rfl) (lv := [(4, .int (nI 1)), (0, .ref (eA E 70)), (1, .int x), (2, .int (nI 2)), (3, .int z)]) hl ⟨Nat.le_refl 0, Nat.le_refl 0⟩ d_R_change_48 (fun H locs hW => ?_)
          refine lv_if_eq (tgt := 72) X.x X.b d_R_change_51 (by decide) (fun c51 => ?_) (fun c51 => ?_)
          · have c51 := b2i_e c51
            refine lv_aload_n X.x X.b d_R_change_72 rfl (lv_at hl 1 rfl) ?_
            refine lv_ldc (v := (-1000001)) X.x X.b X.ow (X.ts _ mw_767) d_R_change_73 ?_
            refine q_cvi X (c_R_finding_0 l E S ψ (by rw [hψ])) hW (q_recv X hW ds_R rfl) ok_R_finding mw_768 ⟨by decide, by decide⟩ (As := [.int (-1000001)]) rfl rfl (Nat.le_of_ble_eq_true rfl) (lv := [(4, .int (nI 1)), (0, .ref (eA E 70)), (1, .int x), (2, .int (nI 2)), (3, .int z)]) hl ⟨Nat.le_refl 0, Nat.le_refl 0⟩ d_R_change_75 (fun H locs hW => ?_)
            have hW : qWH E (qr S 19 (fnR ψ 0)) s H locs := hW
            exact q_zret X rfl hW ⟨rfl, rfl⟩ d_R_change_78
          · have c51 := b2i_n c51
            exact absurd ⟨c36, c51⟩ h
    · exact absurd c13 (by decide)
  · exact absurd c1 (by decide)
set_option maxHeartbeats 1000000 in
set_option maxRecDepth 20000 in
theorem c_R_change_bx (l : Launch) (E : QE) (S : QM) (ν : Nat → Int32) (hν : S 16 = ν) (hwf : WF ν) (ψ : Nat → Int32) (hψ : S 19 = ψ) (x y z : Int32) (h : ¬ (isT ν x)) : qCI E l y_R_change prog_7_method_34_code 5 .int 3 [.ref (eA E 70), .int x, .int y, .int z] S (-1000001) (qr S 19 (fnR ψ 0)) := by
  refine qCI_of (by decide) (Nat.le_of_ble_eq_true rfl) (fun p e s m below meth c ls X hW hl => ?_)
  have hl : lv_has ls 5 [(0, .ref (eA E 70)), (1, .int x), (2, .int y), (3, .int z)] := hl
  have htl := hwf.tl
  have hwl := hwf.wl
  have hdl := hwf.dl
  refine lv_iload_n X.x X.b d_R_change_0 rfl (lv_at hl 2 rfl) ?_
  refine lv_if_ne (tgt := 11) X.x X.b d_R_change_1 (by decide) (fun c1 => ?_) (fun c1 => ?_)
  · refine lv_iload_n X.x X.b d_R_change_11 rfl (lv_at hl 2 rfl) ?_
    refine lv_iconst (v := nI 1) X.x X.b d_R_change_12 (by decide) ?_
    refine lv_icmp_ne (tgt := 23) X.x X.b d_R_change_13 (by decide) (fun c13 => ?_) (fun c13 => ?_)
    · refine lv_iload_n X.x X.b d_R_change_23 rfl (lv_at hl 2 rfl) ?_
      refine lv_iconst (v := nI 2) X.x X.b d_R_change_24 (by decide) ?_
      refine lv_icmp_ne (tgt := 43) X.x X.b d_R_change_25 (by decide) (fun c25 => ?_) (fun c25 => ?_)
      · refine lv_iconst (v := nI 0) X.x X.b d_R_change_43 (by decide) ?_
        refine lv_istore (lv' := [(4, .int (nI 0)), (0, .ref (eA E 70)), (1, .int x), (2, .int y), (3, .int z)]) X.x X.b d_R_change_44 hl (by decide) rfl (fun ls hl => ?_)
        refine lv_aload_n X.x X.b d_R_change_46 rfl (lv_at hl 1 rfl) ?_
        refine lv_iload_n X.x X.b d_R_change_47 rfl (lv_at hl 2 rfl) ?_
        refine q_cvi X (c_R_isThing l E S ν (by rw [hν]) hwf x) hW (q_recv X hW ds_R rfl) ok_R_isThing mw_809 ⟨by decide, by decide⟩ (As := [.int x]) rfl rfl (Nat.le_of_ble_eq_true rfl) (lv := [(4, .int (nI 0)), (0, .ref (eA E 70)), (1, .int x), (2, .int y), (3, .int z)]) hl ⟨Nat.le_refl 0, Nat.le_refl 0⟩ d_R_change_48 (fun H locs hW => ?_)
        refine lv_if_eq (tgt := 72) X.x X.b d_R_change_51 (by decide) (fun c51 => ?_) (fun c51 => ?_)
        · have c51 := b2i_e c51
          refine lv_aload_n X.x X.b d_R_change_72 rfl (lv_at hl 1 rfl) ?_
          refine lv_ldc (v := (-1000001)) X.x X.b X.ow (X.ts _ mw_767) d_R_change_73 ?_
          refine q_cvi X (c_R_finding_0 l E S ψ (by rw [hψ])) hW (q_recv X hW ds_R rfl) ok_R_finding mw_768 ⟨by decide, by decide⟩ (As := [.int (-1000001)]) rfl rfl (Nat.le_of_ble_eq_true rfl) (lv := [(4, .int (nI 0)), (0, .ref (eA E 70)), (1, .int x), (2, .int y), (3, .int z)]) hl ⟨Nat.le_refl 0, Nat.le_refl 0⟩ d_R_change_75 (fun H locs hW => ?_)
          have hW : qWH E (qr S 19 (fnR ψ 0)) s H locs := hW
          exact q_zret X rfl hW ⟨rfl, rfl⟩ d_R_change_78
        · have c51 := b2i_n c51
          exact absurd c51 h
      · refine lv_iload_n X.x X.b d_R_change_28 rfl (lv_at hl 3 rfl) ?_
        refine lv_iconst (v := nI 0) X.x X.b d_R_change_29 (by decide) ?_
        refine lv_sipush (v := nI 9999) X.x X.b d_R_change_30 (by decide) ?_
        refine q_csi X (c_R_within l E S z (nI 0) (nI 9999)) hW ok_R_within mw_757 ⟨by decide, by decide⟩ (As := [.int z, .int (nI 0), .int (nI 9999)]) rfl rfl (Nat.le_of_ble_eq_true rfl) (lv := [(0, .ref (eA E 70)), (1, .int x), (2, .int y), (3, .int z)]) hl ⟨Nat.le_refl 0, Nat.le_refl 0⟩ d_R_change_33 (fun H locs hW => ?_)
        refine lv_if_eq (tgt := 43) X.x X.b d_R_change_36 (by decide) (fun c36 => ?_) (fun c36 => ?_)
        · have c36 := b2i_e c36
          refine lv_iconst (v := nI 0) X.x X.b d_R_change_43 (by decide) ?_
          refine lv_istore (lv' := [(4, .int (nI 0)), (0, .ref (eA E 70)), (1, .int x), (2, .int y), (3, .int z)]) X.x X.b d_R_change_44 hl (by decide) rfl (fun ls hl => ?_)
          refine lv_aload_n X.x X.b d_R_change_46 rfl (lv_at hl 1 rfl) ?_
          refine lv_iload_n X.x X.b d_R_change_47 rfl (lv_at hl 2 rfl) ?_
          refine q_cvi X (c_R_isThing l E S ν (by rw [hν]) hwf x) hW (q_recv X hW ds_R rfl) ok_R_isThing mw_809 ⟨by decide, by decide⟩ (As := [.int x]) rfl rfl (Nat.le_of_ble_eq_true rfl) (lv := [(4, .int (nI 0)), (0, .ref (eA E 70)), (1, .int x), (2, .int y), (3, .int z)]) hl ⟨Nat.le_refl 0, Nat.le_refl 0⟩ d_R_change_48 (fun H locs hW => ?_)
          refine lv_if_eq (tgt := 72) X.x X.b d_R_change_51 (by decide) (fun c51 => ?_) (fun c51 => ?_)
          · have c51 := b2i_e c51
            refine lv_aload_n X.x X.b d_R_change_72 rfl (lv_at hl 1 rfl) ?_
            refine lv_ldc (v := (-1000001)) X.x X.b X.ow (X.ts _ mw_767) d_R_change_73 ?_
            refine q_cvi X (c_R_finding_0 l E S ψ (by rw [hψ])) hW (q_recv X hW ds_R rfl) ok_R_finding mw_768 ⟨by decide, by decide⟩ (As := [.int (-1000001)]) rfl rfl (Nat.le_of_ble_eq_true rfl) (lv := [(4, .int (nI 0)), (0, .ref (eA E 70)), (1, .int x), (2, .int y), (3, .int z)]) hl ⟨Nat.le_refl 0, Nat.le_refl 0⟩ d_R_change_75 (fun H locs hW => ?_)
            have hW : qWH E (qr S 19 (fnR ψ 0)) s H locs := hW
            exact q_zret X rfl hW ⟨rfl, rfl⟩ d_R_change_78
          · have c51 := b2i_n c51
            exact absurd c51 h
        · have c36 := b2i_n c36
          refine lv_iconst (v := nI 1) X.x X.b d_R_change_39 (by decide) ?_
          refine lv_goto (tgt := 44) X.x X.b d_R_change_40 (by decide) ?_
          refine lv_istore (lv' := [(4, .int (nI 1)), (0, .ref (eA E 70)), (1, .int x), (2, .int y), (3, .int z)]) X.x X.b d_R_change_44 hl (by decide) rfl (fun ls hl => ?_)
          refine lv_aload_n X.x X.b d_R_change_46 rfl (lv_at hl 1 rfl) ?_
          refine lv_iload_n X.x X.b d_R_change_47 rfl (lv_at hl 2 rfl) ?_
          refine q_cvi X (c_R_isThing l E S ν (by rw [hν]) hwf x) hW (q_recv X hW ds_R rfl) ok_R_isThing mw_809 ⟨by decide, by decide⟩ (As := [.int x]) rfl rfl (Nat.le_of_ble_eq_true rfl) (lv := [(4, .int (nI 1)), (0, .ref (eA E 70)), (1, .int x), (2, .int y), (3, .int z)]) hl ⟨Nat.le_refl 0, Nat.le_refl 0⟩ d_R_change_48 (fun H locs hW => ?_)
          refine lv_if_eq (tgt := 72) X.x X.b d_R_change_51 (by decide) (fun c51 => ?_) (fun c51 => ?_)
          · have c51 := b2i_e c51
            refine lv_aload_n X.x X.b d_R_change_72 rfl (lv_at hl 1 rfl) ?_
            refine lv_ldc (v := (-1000001)) X.x X.b X.ow (X.ts _ mw_767) d_R_change_73 ?_
            refine q_cvi X (c_R_finding_0 l E S ψ (by rw [hψ])) hW (q_recv X hW ds_R rfl) ok_R_finding mw_768 ⟨by decide, by decide⟩ (As := [.int (-1000001)]) rfl rfl (Nat.le_of_ble_eq_true rfl) (lv := [(4, .int (nI 1)), (0, .ref (eA E 70)), (1, .int x), (2, .int y), (3, .int z)]) hl ⟨Nat.le_refl 0, Nat.le_refl 0⟩ d_R_change_75 (fun H locs hW => ?_)
            have hW : qWH E (qr S 19 (fnR ψ 0)) s H locs := hW
            exact q_zret X rfl hW ⟨rfl, rfl⟩ d_R_change_78
          · have c51 := b2i_n c51
            exact absurd c51 h
    · refine lv_iload_n X.x X.b d_R_change_16 rfl (lv_at hl 3 rfl) ?_
      refine q_csi X (c_R_isCell l E S z) hW ok_R_isCell mw_783 ⟨by decide, by decide⟩ (As := [.int z]) rfl rfl (Nat.le_of_ble_eq_true rfl) (lv := [(0, .ref (eA E 70)), (1, .int x), (2, .int y), (3, .int z)]) hl ⟨Nat.le_refl 0, Nat.le_refl 0⟩ d_R_change_17 (fun H locs hW => ?_)
      refine lv_goto (tgt := 44) X.x X.b d_R_change_20 (by decide) ?_
      refine lv_istore (lv' := [(4, .int (b2i (inR 0 15 z))), (0, .ref (eA E 70)), (1, .int x), (2, .int y), (3, .int z)]) X.x X.b d_R_change_44 hl (by decide) rfl (fun ls hl => ?_)
      refine lv_aload_n X.x X.b d_R_change_46 rfl (lv_at hl 1 rfl) ?_
      refine lv_iload_n X.x X.b d_R_change_47 rfl (lv_at hl 2 rfl) ?_
      refine q_cvi X (c_R_isThing l E S ν (by rw [hν]) hwf x) hW (q_recv X hW ds_R rfl) ok_R_isThing mw_809 ⟨by decide, by decide⟩ (As := [.int x]) rfl rfl (Nat.le_of_ble_eq_true rfl) (lv := [(4, .int (b2i (inR 0 15 z))), (0, .ref (eA E 70)), (1, .int x), (2, .int y), (3, .int z)]) hl ⟨Nat.le_refl 0, Nat.le_refl 0⟩ d_R_change_48 (fun H locs hW => ?_)
      refine lv_if_eq (tgt := 72) X.x X.b d_R_change_51 (by decide) (fun c51 => ?_) (fun c51 => ?_)
      · have c51 := b2i_e c51
        refine lv_aload_n X.x X.b d_R_change_72 rfl (lv_at hl 1 rfl) ?_
        refine lv_ldc (v := (-1000001)) X.x X.b X.ow (X.ts _ mw_767) d_R_change_73 ?_
        refine q_cvi X (c_R_finding_0 l E S ψ (by rw [hψ])) hW (q_recv X hW ds_R rfl) ok_R_finding mw_768 ⟨by decide, by decide⟩ (As := [.int (-1000001)]) rfl rfl (Nat.le_of_ble_eq_true rfl) (lv := [(4, .int (b2i (inR 0 15 z))), (0, .ref (eA E 70)), (1, .int x), (2, .int y), (3, .int z)]) hl ⟨Nat.le_refl 0, Nat.le_refl 0⟩ d_R_change_75 (fun H locs hW => ?_)
        have hW : qWH E (qr S 19 (fnR ψ 0)) s H locs := hW
        exact q_zret X rfl hW ⟨rfl, rfl⟩ d_R_change_78
      · have c51 := b2i_n c51
        exact absurd c51 h
  · refine lv_iload_n X.x X.b d_R_change_4 rfl (lv_at hl 3 rfl) ?_
    refine q_csi X (c_R_isKind l E S z) hW ok_R_isKind mw_780 ⟨by decide, by decide⟩ (As := [.int z]) rfl rfl (Nat.le_of_ble_eq_true rfl) (lv := [(0, .ref (eA E 70)), (1, .int x), (2, .int y), (3, .int z)]) hl ⟨Nat.le_refl 0, Nat.le_refl 0⟩ d_R_change_5 (fun H locs hW => ?_)
    refine lv_goto (tgt := 44) X.x X.b d_R_change_8 (by decide) ?_
    refine lv_istore (lv' := [(4, .int (b2i (inR 0 6 z))), (0, .ref (eA E 70)), (1, .int x), (2, .int y), (3, .int z)]) X.x X.b d_R_change_44 hl (by decide) rfl (fun ls hl => ?_)
    refine lv_aload_n X.x X.b d_R_change_46 rfl (lv_at hl 1 rfl) ?_
    refine lv_iload_n X.x X.b d_R_change_47 rfl (lv_at hl 2 rfl) ?_
    refine q_cvi X (c_R_isThing l E S ν (by rw [hν]) hwf x) hW (q_recv X hW ds_R rfl) ok_R_isThing mw_809 ⟨by decide, by decide⟩ (As := [.int x]) rfl rfl (Nat.le_of_ble_eq_true rfl) (lv := [(4, .int (b2i (inR 0 6 z))), (0, .ref (eA E 70)), (1, .int x), (2, .int y), (3, .int z)]) hl ⟨Nat.le_refl 0, Nat.le_refl 0⟩ d_R_change_48 (fun H locs hW => ?_)
    refine lv_if_eq (tgt := 72) X.x X.b d_R_change_51 (by decide) (fun c51 => ?_) (fun c51 => ?_)
    · have c51 := b2i_e c51
      refine lv_aload_n X.x X.b d_R_change_72 rfl (lv_at hl 1 rfl) ?_
      refine lv_ldc (v := (-1000001)) X.x X.b X.ow (X.ts _ mw_767) d_R_change_73 ?_
      refine q_cvi X (c_R_finding_0 l E S ψ (by rw [hψ])) hW (q_recv X hW ds_R rfl) ok_R_finding mw_768 ⟨by decide, by decide⟩ (As := [.int (-1000001)]) rfl rfl (Nat.le_of_ble_eq_true rfl) (lv := [(4, .int (b2i (inR 0 6 z))), (0, .ref (eA E 70)), (1, .int x), (2, .int y), (3, .int z)]) hl ⟨Nat.le_refl 0, Nat.le_refl 0⟩ d_R_change_75 (fun H locs hW => ?_)
      have hW : qWH E (qr S 19 (fnR ψ 0)) s H locs := hW
      exact q_zret X rfl hW ⟨rfl, rfl⟩ d_R_change_78
    · have c51 := b2i_n c51
      exact absurd c51 h
set_option maxHeartbeats 1000000 in
set_option maxRecDepth 20000 in
theorem c_R_change_by (l : Launch) (E : QE) (S : QM) (ν : Nat → Int32) (hν : S 16 = ν) (hwf : WF ν) (ψ : Nat → Int32) (hψ : S 19 = ψ) (x y z : Int32) (h : ¬ (inR 0 2 y)) : qCI E l y_R_change prog_7_method_34_code 5 .int 3 [.ref (eA E 70), .int x, .int y, .int z] S (-1000001) (qr S 19 (fnR ψ 0)) := by
  refine qCI_of (by decide) (Nat.le_of_ble_eq_true rfl) (fun p e s m below meth c ls X hW hl => ?_)
  have hl : lv_has ls 5 [(0, .ref (eA E 70)), (1, .int x), (2, .int y), (3, .int z)] := hl
  have htl := hwf.tl
  have hwl := hwf.wl
  have hdl := hwf.dl
  refine lv_iload_n X.x X.b d_R_change_0 rfl (lv_at hl 2 rfl) ?_
  refine lv_if_ne (tgt := 11) X.x X.b d_R_change_1 (by decide) (fun c1 => ?_) (fun c1 => ?_)
  · refine lv_iload_n X.x X.b d_R_change_11 rfl (lv_at hl 2 rfl) ?_
    refine lv_iconst (v := nI 1) X.x X.b d_R_change_12 (by decide) ?_
    refine lv_icmp_ne (tgt := 23) X.x X.b d_R_change_13 (by decide) (fun c13 => ?_) (fun c13 => ?_)
    · refine lv_iload_n X.x X.b d_R_change_23 rfl (lv_at hl 2 rfl) ?_
      refine lv_iconst (v := nI 2) X.x X.b d_R_change_24 (by decide) ?_
      refine lv_icmp_ne (tgt := 43) X.x X.b d_R_change_25 (by decide) (fun c25 => ?_) (fun c25 => ?_)
      · refine lv_iconst (v := nI 0) X.x X.b d_R_change_43 (by decide) ?_
        refine lv_istore (lv' := [(4, .int (nI 0)), (0, .ref (eA E 70)), (1, .int x), (2, .int y), (3, .int z)]) X.x X.b d_R_change_44 hl (by decide) rfl (fun ls hl => ?_)
        refine lv_aload_n X.x X.b d_R_change_46 rfl (lv_at hl 1 rfl) ?_
        refine lv_iload_n X.x X.b d_R_change_47 rfl (lv_at hl 2 rfl) ?_
        refine q_cvi X (c_R_isThing l E S ν (by rw [hν]) hwf x) hW (q_recv X hW ds_R rfl) ok_R_isThing mw_809 ⟨by decide, by decide⟩ (As := [.int x]) rfl rfl (Nat.le_of_ble_eq_true rfl) (lv := [(4, .int (nI 0)), (0, .ref (eA E 70)), (1, .int x), (2, .int y), (3, .int z)]) hl ⟨Nat.le_refl 0, Nat.le_refl 0⟩ d_R_change_48 (fun H locs hW => ?_)
        refine lv_if_eq (tgt := 72) X.x X.b d_R_change_51 (by decide) (fun c51 => ?_) (fun c51 => ?_)
        · have c51 := b2i_e c51
          refine lv_aload_n X.x X.b d_R_change_72 rfl (lv_at hl 1 rfl) ?_
          refine lv_ldc (v := (-1000001)) X.x X.b X.ow (X.ts _ mw_767) d_R_change_73 ?_
          refine q_cvi X (c_R_finding_0 l E S ψ (by rw [hψ])) hW (q_recv X hW ds_R rfl) ok_R_finding mw_768 ⟨by decide, by decide⟩ (As := [.int (-1000001)]) rfl rfl (Nat.le_of_ble_eq_true rfl) (lv := [(4, .int (nI 0)), (0, .ref (eA E 70)), (1, .int x), (2, .int y), (3, .int z)]) hl ⟨Nat.le_refl 0, Nat.le_refl 0⟩ d_R_change_75 (fun H locs hW => ?_)
          have hW : qWH E (qr S 19 (fnR ψ 0)) s H locs := hW
          exact q_zret X rfl hW ⟨rfl, rfl⟩ d_R_change_78
        · have c51 := b2i_n c51
          refine lv_iload X.x X.b d_R_change_54 (lv_at hl 0 rfl) ?_
          refine lv_if_eq (tgt := 72) X.x X.b d_R_change_56 (by decide) (fun c56 => ?_) (fun c56 => ?_)
          · have c56 : 0 = 0 := (nI_eq (a := 0) (b := 0) (by omega) (by omega)).mp c56
            refine lv_aload_n X.x X.b d_R_change_72 rfl (lv_at hl 1 rfl) ?_
            refine lv_ldc (v := (-1000001)) X.x X.b X.ow (X.ts _ mw_767) d_R_change_73 ?_
            refine q_cvi X (c_R_finding_0 l E S ψ (by rw [hψ])) hW (q_recv X hW ds_R rfl) ok_R_finding mw_768 ⟨by decide, by decide⟩ (As := [.int (-1000001)]) rfl rfl (Nat.le_of_ble_eq_true rfl) (lv := [(4, .int (nI 0)), (0, .ref (eA E 70)), (1, .int x), (2, .int y), (3, .int z)]) hl ⟨Nat.le_refl 0, Nat.le_refl 0⟩ d_R_change_75 (fun H locs hW => ?_)
            have hW : qWH E (qr S 19 (fnR ψ 0)) s H locs := hW
            exact q_zret X rfl hW ⟨rfl, rfl⟩ d_R_change_78
          · exact absurd (by decide) c56
      · exact absurd (show inR 0 2 y by rw [c25]; exact ⟨by decide, by decide⟩) h
    · exact absurd (show inR 0 2 y by rw [c13]; exact ⟨by decide, by decide⟩) h
  · exact absurd (show inR 0 2 y by rw [c1]; exact ⟨by decide, by decide⟩) h
set_option maxHeartbeats 1000000 in
set_option maxRecDepth 20000 in
theorem c_R_ofWalker_g (l : Launch) (E : QE) (S : QM) (ν : Nat → Int32) (hν : S 16 = ν) (hwf : WF ν) (w : Nat) (hw : w < nW ν) (f : Nat) (hf : f ≤ 5) : qCI E l y_R_ofWalker prog_7_method_35_code 3 .int 3 [.ref (eA E 70), .int (nI w), .int (nI f)] S (ν (44 + 6 * w + f)) S := by
  refine qCI_of (by decide) (Nat.le_of_ble_eq_true rfl) (fun p e s m below meth c ls X hW hl => ?_)
  have hl : lv_has ls 3 [(0, .ref (eA E 70)), (1, .int (nI w)), (2, .int (nI f))] := hl
  have htl := hwf.tl
  have hwl := hwf.wl
  have hdl := hwf.dl
  refine lv_aload_n X.x X.b d_R_ofWalker_0 rfl (lv_at hl 0 rfl) ?_
  refine lv_iload_n X.x X.b d_R_ofWalker_1 rfl (lv_at hl 1 rfl) ?_
  refine q_cvi X (c_R_isWalker l E S ν (by rw [hν]) hwf (nI w)) hW (q_recv X hW ds_R rfl) ok_R_isWalker mw_841 ⟨by decide, by decide⟩ (As := [.int (nI w)]) rfl rfl (Nat.le_of_ble_eq_true rfl) (lv := [(0, .ref (eA E 70)), (1, .int (nI w)), (2, .int (nI f))]) hl ⟨Nat.le_refl 0, Nat.le_refl 0⟩ d_R_ofWalker_2 (fun H locs hW => ?_)
  refine lv_if_eq (tgt := 26) X.x X.b d_R_ofWalker_5 (by decide) (fun c5 => ?_) (fun c5 => ?_)
  · have c5 := b2i_e c5
    have c5 := mt (isW_i hwf (by omega)).mpr c5
    omega
  · have c5 := b2i_n c5
    have c5 := (isW_i hwf (by omega)).mp c5
    refine lv_iload_n X.x X.b d_R_ofWalker_8 rfl (lv_at hl 2 rfl) ?_
    refine lv_iconst (v := nI 0) X.x X.b d_R_ofWalker_9 (by decide) ?_
    refine lv_iconst (v := nI 5) X.x X.b d_R_ofWalker_10 (by decide) ?_
    refine q_csi X (c_R_within l E S (nI f) (nI 0) (nI 5)) hW ok_R_within mw_757 ⟨by decide, by decide⟩ (As := [.int (nI f), .int (nI 0), .int (nI 5)]) rfl rfl (Nat.le_of_ble_eq_true rfl) (lv := [(0, .ref (eA E 70)), (1, .int (nI w)), (2, .int (nI f))]) hl ⟨Nat.le_refl 0, Nat.le_refl 0⟩ d_R_ofWalker_11 (fun H locs hW => ?_)
    refine lv_if_eq (tgt := 26) X.x X.b d_R_ofWalker_14 (by decide) (fun c14 => ?_) (fun c14 => ?_)
    · have c14 := b2i_e c14
      have c14 := mt (inR_i (by omega) (by decide)).mpr c14
      omega
    · have c14 := b2i_n c14
      have c14 := (inR_i (by omega) (by decide)).mp c14
      refine lv_aload_n X.x X.b d_R_ofWalker_17 rfl (lv_at hl 0 rfl) ?_
      refine lv_iload_n X.x X.b d_R_ofWalker_18 rfl (lv_at hl 1 rfl) ?_
      refine lv_iload_n X.x X.b d_R_ofWalker_19 rfl (lv_at hl 2 rfl) ?_
      refine q_cvi X (c_R_walkerIs l E S ν (by rw [hν]) w f (by omega) (by omega)) hW (q_recv X hW ds_R rfl) ok_R_walkerIs mw_845 ⟨by decide, by decide⟩ (As := [.int (nI w), .int (nI f)]) rfl rfl (Nat.le_of_ble_eq_true rfl) (lv := [(0, .ref (eA E 70)), (1, .int (nI w)), (2, .int (nI f))]) hl ⟨Nat.le_refl 0, Nat.le_refl 0⟩ d_R_ofWalker_20 (fun H locs hW => ?_)
      refine lv_goto (tgt := 32) X.x X.b d_R_ofWalker_23 (by decide) ?_
      exact q_zret X rfl hW ⟨rfl, rfl⟩ d_R_ofWalker_32
set_option maxHeartbeats 1000000 in
set_option maxRecDepth 20000 in
theorem c_R_ofWalker_b (l : Launch) (E : QE) (S : QM) (ν : Nat → Int32) (hν : S 16 = ν) (hwf : WF ν) (ψ : Nat → Int32) (hψ : S 19 = ψ) (x y : Int32) (h : ¬ (isW ν x ∧ inR 0 5 y)) : qCI E l y_R_ofWalker prog_7_method_35_code 3 .int 3 [.ref (eA E 70), .int x, .int y] S (-1000001) (qr S 19 (fnR ψ 0)) := by
  refine qCI_of (by decide) (Nat.le_of_ble_eq_true rfl) (fun p e s m below meth c ls X hW hl => ?_)
  have hl : lv_has ls 3 [(0, .ref (eA E 70)), (1, .int x), (2, .int y)] := hl
  have htl := hwf.tl
  have hwl := hwf.wl
  have hdl := hwf.dl
  refine lv_aload_n X.x X.b d_R_ofWalker_0 rfl (lv_at hl 0 rfl) ?_
  refine lv_iload_n X.x X.b d_R_ofWalker_1 rfl (lv_at hl 1 rfl) ?_
  refine q_cvi X (c_R_isWalker l E S ν (by rw [hν]) hwf x) hW (q_recv X hW ds_R rfl) ok_R_isWalker mw_841 ⟨by decide, by decide⟩ (As := [.int x]) rfl rfl (Nat.le_of_ble_eq_true rfl) (lv := [(0, .ref (eA E 70)), (1, .int x), (2, .int y)]) hl ⟨Nat.le_refl 0, Nat.le_refl 0⟩ d_R_ofWalker_2 (fun H locs hW => ?_)
  refine lv_if_eq (tgt := 26) X.x X.b d_R_ofWalker_5 (by decide) (fun c5 => ?_) (fun c5 => ?_)
  · have c5 := b2i_e c5
    refine lv_aload_n X.x X.b d_R_ofWalker_26 rfl (lv_at hl 0 rfl) ?_
    refine lv_ldc (v := (-1000001)) X.x X.b X.ow (X.ts _ mw_767) d_R_ofWalker_27 ?_
    refine q_cvi X (c_R_finding_0 l E S ψ (by rw [hψ])) hW (q_recv X hW ds_R rfl) ok_R_finding mw_768 ⟨by decide, by decide⟩ (As := [.int (-1000001)]) rfl rfl (Nat.le_of_ble_eq_true rfl) (lv := [(0, .ref (eA E 70)), (1, .int x), (2, .int y)]) hl ⟨Nat.le_refl 0, Nat.le_refl 0⟩ d_R_ofWalker_29 (fun H locs hW => ?_)
    have hW : qWH E (qr S 19 (fnR ψ 0)) s H locs := hW
    exact q_zret X rfl hW ⟨rfl, rfl⟩ d_R_ofWalker_32
  · have c5 := b2i_n c5
    refine lv_iload_n X.x X.b d_R_ofWalker_8 rfl (lv_at hl 2 rfl) ?_
    refine lv_iconst (v := nI 0) X.x X.b d_R_ofWalker_9 (by decide) ?_
    refine lv_iconst (v := nI 5) X.x X.b d_R_ofWalker_10 (by decide) ?_
    refine q_csi X (c_R_within l E S y (nI 0) (nI 5)) hW ok_R_within mw_757 ⟨by decide, by decide⟩ (As := [.int y, .int (nI 0), .int (nI 5)]) rfl rfl (Nat.le_of_ble_eq_true rfl) (lv := [(0, .ref (eA E 70)), (1, .int x), (2, .int y)]) hl ⟨Nat.le_refl 0, Nat.le_refl 0⟩ d_R_ofWalker_11 (fun H locs hW => ?_)
    refine lv_if_eq (tgt := 26) X.x X.b d_R_ofWalker_14 (by decide) (fun c14 => ?_) (fun c14 => ?_)
    · have c14 := b2i_e c14
      refine lv_aload_n X.x X.b d_R_ofWalker_26 rfl (lv_at hl 0 rfl) ?_
      refine lv_ldc (v := (-1000001)) X.x X.b X.ow (X.ts _ mw_767) d_R_ofWalker_27 ?_
      refine q_cvi X (c_R_finding_0 l E S ψ (by rw [hψ])) hW (q_recv X hW ds_R rfl) ok_R_finding mw_768 ⟨by decide, by decide⟩ (As := [.int (-1000001)]) rfl rfl (Nat.le_of_ble_eq_true rfl) (lv := [(0, .ref (eA E 70)), (1, .int x), (2, .int y)]) hl ⟨Nat.le_refl 0, Nat.le_refl 0⟩ d_R_ofWalker_29 (fun H locs hW => ?_)
      have hW : qWH E (qr S 19 (fnR ψ 0)) s H locs := hW
      exact q_zret X rfl hW ⟨rfl, rfl⟩ d_R_ofWalker_32
    · have c14 := b2i_n c14
      exact absurd ⟨c5, c14⟩ h
set_option maxHeartbeats 1000000 in
set_option maxRecDepth 20000 in
theorem c_R_isField_0 (l : Launch) (E : QE) (S : QM) (x : Int32) : qCI E l y_R_isField prog_7_method_36_code 2 .boolean 3 [.int (nI 0), .int x] S (b2i (inR 0 15 x)) S := by
  refine qCI_of (by decide) (Nat.le_of_ble_eq_true rfl) (fun p e s m below meth c ls X hW hl => ?_)
  have hl : lv_has ls 2 [(0, .int (nI 0)), (1, .int x)] := hl
  refine lv_iload_n X.x X.b d_R_isField_0 rfl (lv_at hl 0 rfl) ?_
  refine lv_tableIn (tgt := 40) (off := 39) X.x X.b d_R_isField_1 (by decide) (by decide) (by decide) (by decide) ?_
  refine lv_iload_n X.x X.b d_R_isField_40 rfl (lv_at hl 1 rfl) ?_
  refine q_csi X (c_R_isCell l E S x) hW ok_R_isCell mw_783 ⟨by decide, by decide⟩ (As := [.int x]) rfl rfl (Nat.le_of_ble_eq_true rfl) (lv := [(0, .int (nI 0)), (1, .int x)]) hl ⟨Nat.le_refl 0, Nat.le_refl 0⟩ d_R_isField_41 (fun H locs hW => ?_)
  exact q_zret X b2i_z hW ⟨rfl, rfl⟩ d_R_isField_44
set_option maxHeartbeats 1000000 in
set_option maxRecDepth 20000 in
theorem c_R_isField_1 (l : Launch) (E : QE) (S : QM) (x : Int32) : qCI E l y_R_isField prog_7_method_36_code 2 .boolean 3 [.int (nI 1), .int x] S (b2i (inR 0 7 x)) S := by
  refine qCI_of (by decide) (Nat.le_of_ble_eq_true rfl) (fun p e s m below meth c ls X hW hl => ?_)
  have hl : lv_has ls 2 [(0, .int (nI 1)), (1, .int x)] := hl
  refine lv_iload_n X.x X.b d_R_isField_0 rfl (lv_at hl 0 rfl) ?_
  refine lv_tableIn (tgt := 45) (off := 44) X.x X.b d_R_isField_1 (by decide) (by decide) (by decide) (by decide) ?_
  refine lv_iload_n X.x X.b d_R_isField_45 rfl (lv_at hl 1 rfl) ?_
  refine q_csi X (c_R_isAim l E S x) hW ok_R_isAim mw_760 ⟨by decide, by decide⟩ (As := [.int x]) rfl rfl (Nat.le_of_ble_eq_true rfl) (lv := [(0, .int (nI 1)), (1, .int x)]) hl ⟨Nat.le_refl 0, Nat.le_refl 0⟩ d_R_isField_46 (fun H locs hW => ?_)
  exact q_zret X b2i_z hW ⟨rfl, rfl⟩ d_R_isField_49
set_option maxHeartbeats 1000000 in
set_option maxRecDepth 20000 in
theorem c_R_isField_2 (l : Launch) (E : QE) (S : QM) (x : Int32) : qCI E l y_R_isField prog_7_method_36_code 2 .boolean 3 [.int (nI 2), .int x] S (b2i (inR 1 5 x)) S := by
  refine qCI_of (by decide) (Nat.le_of_ble_eq_true rfl) (fun p e s m below meth c ls X hW hl => ?_)
  have hl : lv_has ls 2 [(0, .int (nI 2)), (1, .int x)] := hl
  refine lv_iload_n X.x X.b d_R_isField_0 rfl (lv_at hl 0 rfl) ?_
  refine lv_tableIn (tgt := 50) (off := 49) X.x X.b d_R_isField_1 (by decide) (by decide) (by decide) (by decide) ?_
  refine lv_iload_n X.x X.b d_R_isField_50 rfl (lv_at hl 1 rfl) ?_
  refine q_csi X (c_R_isPace l E S x) hW ok_R_isPace mw_856 ⟨by decide, by decide⟩ (As := [.int x]) rfl rfl (Nat.le_of_ble_eq_true rfl) (lv := [(0, .int (nI 2)), (1, .int x)]) hl ⟨Nat.le_refl 0, Nat.le_refl 0⟩ d_R_isField_51 (fun H locs hW => ?_)
  exact q_zret X b2i_z hW ⟨rfl, rfl⟩ d_R_isField_54
set_option maxHeartbeats 1000000 in
set_option maxRecDepth 20000 in
theorem c_R_isField_3 (l : Launch) (E : QE) (S : QM) (x : Int32) : qCI E l y_R_isField prog_7_method_36_code 2 .boolean 3 [.int (nI 3), .int x] S (b2i (inR 0 255 x)) S := by
  refine qCI_of (by decide) (Nat.le_of_ble_eq_true rfl) (fun p e s m below meth c ls X hW hl => ?_)
  have hl : lv_has ls 2 [(0, .int (nI 3)), (1, .int x)] := hl
  refine lv_iload_n X.x X.b d_R_isField_0 rfl (lv_at hl 0 rfl) ?_
  refine lv_tableIn (tgt := 55) (off := 54) X.x X.b d_R_isField_1 (by decide) (by decide) (by decide) (by decide) ?_
  refine lv_iload_n X.x X.b d_R_isField_55 rfl (lv_at hl 1 rfl) ?_
  refine q_csi X (c_R_isSet l E S x) hW ok_R_isSet mw_859 ⟨by decide, by decide⟩ (As := [.int x]) rfl rfl (Nat.le_of_ble_eq_true rfl) (lv := [(0, .int (nI 3)), (1, .int x)]) hl ⟨Nat.le_refl 0, Nat.le_refl 0⟩ d_R_isField_56 (fun H locs hW => ?_)
  exact q_zret X b2i_z hW ⟨rfl, rfl⟩ d_R_isField_59
set_option maxHeartbeats 1000000 in
set_option maxRecDepth 20000 in
theorem c_R_isField_4 (l : Launch) (E : QE) (S : QM) (x : Int32) : qCI E l y_R_isField prog_7_method_36_code 2 .boolean 3 [.int (nI 4), .int x] S (b2i (inR 0 9999 x)) S := by
  refine qCI_of (by decide) (Nat.le_of_ble_eq_true rfl) (fun p e s m below meth c ls X hW hl => ?_)
  have hl : lv_has ls 2 [(0, .int (nI 4)), (1, .int x)] := hl
  refine lv_iload_n X.x X.b d_R_isField_0 rfl (lv_at hl 0 rfl) ?_
  refine lv_tableIn (tgt := 60) (off := 59) X.x X.b d_R_isField_1 (by decide) (by decide) (by decide) (by decide) ?_
  refine lv_iload_n X.x X.b d_R_isField_60 rfl (lv_at hl 1 rfl) ?_
  refine lv_iconst (v := nI 0) X.x X.b d_R_isField_61 (by decide) ?_
  refine lv_sipush (v := nI 9999) X.x X.b d_R_isField_62 (by decide) ?_
  refine q_csi X (c_R_within l E S x (nI 0) (nI 9999)) hW ok_R_within mw_757 ⟨by decide, by decide⟩ (As := [.int x, .int (nI 0), .int (nI 9999)]) rfl rfl (Nat.le_of_ble_eq_true rfl) (lv := [(0, .int (nI 4)), (1, .int x)]) hl ⟨Nat.le_refl 0, Nat.le_refl 0⟩ d_R_isField_65 (fun H locs hW => ?_)
  exact q_zret X b2i_z hW ⟨rfl, rfl⟩ d_R_isField_68
set_option maxHeartbeats 1000000 in
set_option maxRecDepth 20000 in
theorem c_R_isField_5 (l : Launch) (E : QE) (S : QM) (x : Int32) : qCI E l y_R_isField prog_7_method_36_code 2 .boolean 3 [.int (nI 5), .int x] S (b2i (inR 0 9999 x)) S := by
  refine qCI_of (by decide) (Nat.le_of_ble_eq_true rfl) (fun p e s m below meth c ls X hW hl => ?_)
  have hl : lv_has ls 2 [(0, .int (nI 5)), (1, .int x)] := hl
  refine lv_iload_n X.x X.b d_R_isField_0 rfl (lv_at hl 0 rfl) ?_
  refine lv_tableIn (tgt := 60) (off := 59) X.x X.b d_R_isField_1 (by decide) (by decide) (by decide) (by decide) ?_
  refine lv_iload_n X.x X.b d_R_isField_60 rfl (lv_at hl 1 rfl) ?_
  refine lv_iconst (v := nI 0) X.x X.b d_R_isField_61 (by decide) ?_
  refine lv_sipush (v := nI 9999) X.x X.b d_R_isField_62 (by decide) ?_
  refine q_csi X (c_R_within l E S x (nI 0) (nI 9999)) hW ok_R_within mw_757 ⟨by decide, by decide⟩ (As := [.int x, .int (nI 0), .int (nI 9999)]) rfl rfl (Nat.le_of_ble_eq_true rfl) (lv := [(0, .int (nI 5)), (1, .int x)]) hl ⟨Nat.le_refl 0, Nat.le_refl 0⟩ d_R_isField_65 (fun H locs hW => ?_)
  exact q_zret X b2i_z hW ⟨rfl, rfl⟩ d_R_isField_68
set_option maxHeartbeats 1000000 in
set_option maxRecDepth 20000 in
theorem c_R_isField_b (l : Launch) (E : QE) (S : QM) (x v : Int32) (h : ¬ inR 0 5 x) : qCI E l y_R_isField prog_7_method_36_code 2 .boolean 3 [.int x, .int v] S (nI 0) S := by
  refine qCI_of (by decide) (Nat.le_of_ble_eq_true rfl) (fun p e s m below meth c ls X hW hl => ?_)
  have hl : lv_has ls 2 [(0, .int x), (1, .int v)] := hl
  refine lv_iload_n X.x X.b d_R_isField_0 rfl (lv_at hl 0 rfl) ?_
  by_cases c1_0 : x = nI 0
  · exact absurd (show inR 0 5 x by rw [c1_0]; exact (inR_i (by omega) (by decide)).mpr (by omega)) h
  by_cases c1_1 : x = nI 1
  · exact absurd (show inR 0 5 x by rw [c1_1]; exact (inR_i (by omega) (by decide)).mpr (by omega)) h
  by_cases c1_2 : x = nI 2
  · exact absurd (show inR 0 5 x by rw [c1_2]; exact (inR_i (by omega) (by decide)).mpr (by omega)) h
  by_cases c1_3 : x = nI 3
  · exact absurd (show inR 0 5 x by rw [c1_3]; exact (inR_i (by omega) (by decide)).mpr (by omega)) h
  by_cases c1_4 : x = nI 4
  · exact absurd (show inR 0 5 x by rw [c1_4]; exact (inR_i (by omega) (by decide)).mpr (by omega)) h
  by_cases c1_5 : x = nI 5
  · exact absurd (show inR 0 5 x by rw [c1_5]; exact (inR_i (by omega) (by decide)).mpr (by omega)) h
  refine lv_tableOut (tgt := 69) X.x X.b d_R_isField_1 (by have qc1_0 := lv_neT c1_0 (by decide : Int32.toInt (nI 0) = 0); have qc1_1 := lv_neT c1_1 (by decide : Int32.toInt (nI 1) = 1); have qc1_2 := lv_neT c1_2 (by decide : Int32.toInt (nI 2) = 2); have qc1_3 := lv_neT c1_3 (by decide : Int32.toInt (nI 3) = 3); have qc1_4 := lv_neT c1_4 (by decide : Int32.toInt (nI 4) = 4); have qc1_5 := lv_neT c1_5 (by decide : Int32.toInt (nI 5) = 5); omega) (by decide) ?_
  refine lv_iconst (v := nI 0) X.x X.b d_R_isField_69 (by decide) ?_
  exact q_zret X (by decide) hW ⟨rfl, rfl⟩ d_R_isField_70
set_option maxHeartbeats 1000000 in
set_option maxRecDepth 20000 in
theorem c_R_lead_0 (l : Launch) (E : QE) (S : QM) (ν : Nat → Int32) (hν : S 16 = ν) (hwf : WF ν) (w : Nat) (hw : w < nW ν) (v : Nat) (hv0 : 0 ≤ v) (hv : v ≤ 15) : qCI E l y_R_lead prog_7_method_37_code 4 .int 4 [.ref (eA E 70), .int (nI w), .int (nI 0), .int (nI v)] S (ν (44 + 6 * w)) (qr S 16 (upd ν (44 + 6 * w) (nI v))) := by
  refine qCI_of (by decide) (Nat.le_of_ble_eq_true rfl) (fun p e s m below meth c ls X hW hl => ?_)
  have hl : lv_has ls 4 [(0, .ref (eA E 70)), (1, .int (nI w)), (2, .int (nI 0)), (3, .int (nI v))] := hl
  have htl := hwf.tl
  have hwl := hwf.wl
  have hdl := hwf.dl
  refine lv_aload_n X.x X.b d_R_lead_0 rfl (lv_at hl 0 rfl) ?_
  refine lv_iload_n X.x X.b d_R_lead_1 rfl (lv_at hl 1 rfl) ?_
  refine q_cvi X (c_R_isWalker l E S ν (by rw [hν]) hwf (nI w)) hW (q_recv X hW ds_R rfl) ok_R_isWalker mw_841 ⟨by decide, by decide⟩ (As := [.int (nI w)]) rfl rfl (Nat.le_of_ble_eq_true rfl) (lv := [(0, .ref (eA E 70)), (1, .int (nI w)), (2, .int (nI 0)), (3, .int (nI v))]) hl ⟨Nat.le_refl 0, Nat.le_refl 0⟩ d_R_lead_2 (fun H locs hW => ?_)
  refine lv_if_eq (tgt := 29) X.x X.b d_R_lead_5 (by decide) (fun c5 => ?_) (fun c5 => ?_)
  · have c5 := b2i_e c5
    have c5 := mt (isW_i hwf (by omega)).mpr c5
    omega
  · have c5 := b2i_n c5
    have c5 := (isW_i hwf (by omega)).mp c5
    refine lv_iload_n X.x X.b d_R_lead_8 rfl (lv_at hl 2 rfl) ?_
    refine lv_iload_n X.x X.b d_R_lead_9 rfl (lv_at hl 3 rfl) ?_
    refine q_csi X (c_R_isField_0 l E S (nI v)) hW ok_R_isField mw_853 ⟨by decide, by decide⟩ (As := [.int (nI 0), .int (nI v)]) rfl rfl (Nat.le_of_ble_eq_true rfl) (lv := [(0, .ref (eA E 70)), (1, .int (nI w)), (2, .int (nI 0)), (3, .int (nI v))]) hl ⟨Nat.le_refl 0, Nat.le_refl 0⟩ d_R_lead_10 (fun H locs hW => ?_)
    refine lv_if_eq (tgt := 29) X.x X.b d_R_lead_13 (by decide) (fun c13 => ?_) (fun c13 => ?_)
    · have c13 := b2i_e c13
      have c13 := mt (inR_i (by omega) (by decide)).mpr c13
      omega
    · have c13 := b2i_n c13
      have c13 := (inR_i (by omega) (by decide)).mp c13
      refine lv_aload_n X.x X.b d_R_lead_16 rfl (lv_at hl 0 rfl) ?_
      refine lv_iload_n X.x X.b d_R_lead_17 rfl (lv_at hl 1 rfl) ?_
      refine lv_iload_n X.x X.b d_R_lead_18 rfl (lv_at hl 2 rfl) ?_
      refine q_csi X (c_R_walkerAt_z l E S w) hW ok_R_walkerAt mw_802 ⟨by decide, by decide⟩ (As := [.int (nI w), .int (nI 0)]) rfl rfl (Nat.le_of_ble_eq_true rfl) (lv := [(0, .ref (eA E 70)), (1, .int (nI w)), (2, .int (nI 0)), (3, .int (nI v))]) hl ⟨Nat.le_refl 0, Nat.le_refl 0⟩ d_R_lead_19 (fun H locs hW => ?_)
      refine lv_iload_n X.x X.b d_R_lead_22 rfl (lv_at hl 3 rfl) ?_
      refine q_cvi X (c_R_become l E S ν (by rw [hν]) (44 + 6 * w) (nI v) (by omega)) hW (q_recv X hW ds_R rfl) ok_R_become mw_763 ⟨by decide, by decide⟩ (As := [.int (nI (44 + 6 * w)), .int (nI v)]) rfl rfl (Nat.le_of_ble_eq_true rfl) (lv := [(0, .ref (eA E 70)), (1, .int (nI w)), (2, .int (nI 0)), (3, .int (nI v))]) hl ⟨Nat.le_refl 0, Nat.le_refl 0⟩ d_R_lead_23 (fun H locs hW => ?_)
      have hW : qWH E (qr S 16 (upd ν (44 + 6 * w) (nI v))) s H locs := hW
      refine lv_goto (tgt := 35) X.x X.b d_R_lead_26 (by decide) ?_
      exact q_zret X rfl hW ⟨rfl, rfl⟩ d_R_lead_35
set_option maxHeartbeats 1000000 in
set_option maxRecDepth 20000 in
theorem c_R_lead_b0 (l : Launch) (E : QE) (S : QM) (ν : Nat → Int32) (hν : S 16 = ν) (hwf : WF ν) (ψ : Nat → Int32) (hψ : S 19 = ψ) (x z : Int32) (h : ¬ (isW ν x ∧ inR 0 15 z)) : qCI E l y_R_lead prog_7_method_37_code 4 .int 4 [.ref (eA E 70), .int x, .int (nI 0), .int z] S (-1000001) (qr S 19 (fnR ψ 0)) := by
  refine qCI_of (by decide) (Nat.le_of_ble_eq_true rfl) (fun p e s m below meth c ls X hW hl => ?_)
  have hl : lv_has ls 4 [(0, .ref (eA E 70)), (1, .int x), (2, .int (nI 0)), (3, .int z)] := hl
  have htl := hwf.tl
  have hwl := hwf.wl
  have hdl := hwf.dl
  refine lv_aload_n X.x X.b d_R_lead_0 rfl (lv_at hl 0 rfl) ?_
  refine lv_iload_n X.x X.b d_R_lead_1 rfl (lv_at hl 1 rfl) ?_
  refine q_cvi X (c_R_isWalker l E S ν (by rw [hν]) hwf x) hW (q_recv X hW ds_R rfl) ok_R_isWalker mw_841 ⟨by decide, by decide⟩ (As := [.int x]) rfl rfl (Nat.le_of_ble_eq_true rfl) (lv := [(0, .ref (eA E 70)), (1, .int x), (2, .int (nI 0)), (3, .int z)]) hl ⟨Nat.le_refl 0, Nat.le_refl 0⟩ d_R_lead_2 (fun H locs hW => ?_)
  refine lv_if_eq (tgt := 29) X.x X.b d_R_lead_5 (by decide) (fun c5 => ?_) (fun c5 => ?_)
  · have c5 := b2i_e c5
    refine lv_aload_n X.x X.b d_R_lead_29 rfl (lv_at hl 0 rfl) ?_
    refine lv_ldc (v := (-1000001)) X.x X.b X.ow (X.ts _ mw_767) d_R_lead_30 ?_
    refine q_cvi X (c_R_finding_0 l E S ψ (by rw [hψ])) hW (q_recv X hW ds_R rfl) ok_R_finding mw_768 ⟨by decide, by decide⟩ (As := [.int (-1000001)]) rfl rfl (Nat.le_of_ble_eq_true rfl) (lv := [(0, .ref (eA E 70)), (1, .int x), (2, .int (nI 0)), (3, .int z)]) hl ⟨Nat.le_refl 0, Nat.le_refl 0⟩ d_R_lead_32 (fun H locs hW => ?_)
    have hW : qWH E (qr S 19 (fnR ψ 0)) s H locs := hW
    exact q_zret X rfl hW ⟨rfl, rfl⟩ d_R_lead_35
  · have c5 := b2i_n c5
    refine lv_iload_n X.x X.b d_R_lead_8 rfl (lv_at hl 2 rfl) ?_
    refine lv_iload_n X.x X.b d_R_lead_9 rfl (lv_at hl 3 rfl) ?_
    refine q_csi X (c_R_isField_0 l E S z) hW ok_R_isField mw_853 ⟨by decide, by decide⟩ (As := [.int (nI 0), .int z]) rfl rfl (Nat.le_of_ble_eq_true rfl) (lv := [(0, .ref (eA E 70)), (1, .int x), (2, .int (nI 0)), (3, .int z)]) hl ⟨Nat.le_refl 0, Nat.le_refl 0⟩ d_R_lead_10 (fun H locs hW => ?_)
    refine lv_if_eq (tgt := 29) X.x X.b d_R_lead_13 (by decide) (fun c13 => ?_) (fun c13 => ?_)
    · have c13 := b2i_e c13
      refine lv_aload_n X.x X.b d_R_lead_29 rfl (lv_at hl 0 rfl) ?_
      refine lv_ldc (v := (-1000001)) X.x X.b X.ow (X.ts _ mw_767) d_R_lead_30 ?_
      refine q_cvi X (c_R_finding_0 l E S ψ (by rw [hψ])) hW (q_recv X hW ds_R rfl) ok_R_finding mw_768 ⟨by decide, by decide⟩ (As := [.int (-1000001)]) rfl rfl (Nat.le_of_ble_eq_true rfl) (lv := [(0, .ref (eA E 70)), (1, .int x), (2, .int (nI 0)), (3, .int z)]) hl ⟨Nat.le_refl 0, Nat.le_refl 0⟩ d_R_lead_32 (fun H locs hW => ?_)
      have hW : qWH E (qr S 19 (fnR ψ 0)) s H locs := hW
      exact q_zret X rfl hW ⟨rfl, rfl⟩ d_R_lead_35
    · have c13 := b2i_n c13
      exact absurd ⟨c5, c13⟩ h
set_option maxHeartbeats 1000000 in
set_option maxRecDepth 20000 in
theorem c_R_lead_1 (l : Launch) (E : QE) (S : QM) (ν : Nat → Int32) (hν : S 16 = ν) (hwf : WF ν) (w : Nat) (hw : w < nW ν) (v : Nat) (hv0 : 0 ≤ v) (hv : v ≤ 7) : qCI E l y_R_lead prog_7_method_37_code 4 .int 4 [.ref (eA E 70), .int (nI w), .int (nI 1), .int (nI v)] S (ν (44 + 6 * w + 1)) (qr S 16 (upd ν (44 + 6 * w + 1) (nI v))) := by
  refine qCI_of (by decide) (Nat.le_of_ble_eq_true rfl) (fun p e s m below meth c ls X hW hl => ?_)
  have hl : lv_has ls 4 [(0, .ref (eA E 70)), (1, .int (nI w)), (2, .int (nI 1)), (3, .int (nI v))] := hl
  have htl := hwf.tl
  have hwl := hwf.wl
  have hdl := hwf.dl
  refine lv_aload_n X.x X.b d_R_lead_0 rfl (lv_at hl 0 rfl) ?_
  refine lv_iload_n X.x X.b d_R_lead_1 rfl (lv_at hl 1 rfl) ?_
  refine q_cvi X (c_R_isWalker l E S ν (by rw [hν]) hwf (nI w)) hW (q_recv X hW ds_R rfl) ok_R_isWalker mw_841 ⟨by decide, by decide⟩ (As := [.int (nI w)]) rfl rfl (Nat.le_of_ble_eq_true rfl) (lv := [(0, .ref (eA E 70)), (1, .int (nI w)), (2, .int (nI 1)), (3, .int (nI v))]) hl ⟨Nat.le_refl 0, Nat.le_refl 0⟩ d_R_lead_2 (fun H locs hW => ?_)
  refine lv_if_eq (tgt := 29) X.x X.b d_R_lead_5 (by decide) (fun c5 => ?_) (fun c5 => ?_)
  · have c5 := b2i_e c5
    have c5 := mt (isW_i hwf (by omega)).mpr c5
    omega
  · have c5 := b2i_n c5
    have c5 := (isW_i hwf (by omega)).mp c5
    refine lv_iload_n X.x X.b d_R_lead_8 rfl (lv_at hl 2 rfl) ?_
    refine lv_iload_n X.x X.b d_R_lead_9 rfl (lv_at hl 3 rfl) ?_
    refine q_csi X (c_R_isField_1 l E S (nI v)) hW ok_R_isField mw_853 ⟨by decide, by decide⟩ (As := [.int (nI 1), .int (nI v)]) rfl rfl (Nat.le_of_ble_eq_true rfl) (lv := [(0, .ref (eA E 70)), (1, .int (nI w)), (2, .int (nI 1)), (3, .int (nI v))]) hl ⟨Nat.le_refl 0, Nat.le_refl 0⟩ d_R_lead_10 (fun H locs hW => ?_)
    refine lv_if_eq (tgt := 29) X.x X.b d_R_lead_13 (by decide) (fun c13 => ?_) (fun c13 => ?_)
    · have c13 := b2i_e c13
      have c13 := mt (inR_i (by omega) (by decide)).mpr c13
      omega
    · have c13 := b2i_n c13
      have c13 := (inR_i (by omega) (by decide)).mp c13
      refine lv_aload_n X.x X.b d_R_lead_16 rfl (lv_at hl 0 rfl) ?_
      refine lv_iload_n X.x X.b d_R_lead_17 rfl (lv_at hl 1 rfl) ?_
      refine lv_iload_n X.x X.b d_R_lead_18 rfl (lv_at hl 2 rfl) ?_
      refine q_csi X (c_R_walkerAt l E S w 1) hW ok_R_walkerAt mw_802 ⟨by decide, by decide⟩ (As := [.int (nI w), .int (nI 1)]) rfl rfl (Nat.le_of_ble_eq_true rfl) (lv := [(0, .ref (eA E 70)), (1, .int (nI w)), (2, .int (nI 1)), (3, .int (nI v))]) hl ⟨Nat.le_refl 0, Nat.le_refl 0⟩ d_R_lead_19 (fun H locs hW => ?_)
      refine lv_iload_n X.x X.b d_R_lead_22 rfl (lv_at hl 3 rfl) ?_
      refine q_cvi X (c_R_become l E S ν (by rw [hν]) (44 + 6 * w + 1) (nI v) (by omega)) hW (q_recv X hW ds_R rfl) ok_R_become mw_763 ⟨by decide, by decide⟩ (As := [.int (nI (44 + 6 * w + 1)), .int (nI v)]) rfl rfl (Nat.le_of_ble_eq_true rfl) (lv := [(0, .ref (eA E 70)), (1, .int (nI w)), (2, .int (nI 1)), (3, .int (nI v))]) hl ⟨Nat.le_refl 0, Nat.le_refl 0⟩ d_R_lead_23 (fun H locs hW => ?_)
      have hW : qWH E (qr S 16 (upd ν (44 + 6 * w + 1) (nI v))) s H locs := hW
      refine lv_goto (tgt := 35) X.x X.b d_R_lead_26 (by decide) ?_
      exact q_zret X rfl hW ⟨rfl, rfl⟩ d_R_lead_35
set_option maxHeartbeats 1000000 in
set_option maxRecDepth 20000 in
theorem c_R_lead_b1 (l : Launch) (E : QE) (S : QM) (ν : Nat → Int32) (hν : S 16 = ν) (hwf : WF ν) (ψ : Nat → Int32) (hψ : S 19 = ψ) (x z : Int32) (h : ¬ (isW ν x ∧ inR 0 7 z)) : qCI E l y_R_lead prog_7_method_37_code 4 .int 4 [.ref (eA E 70), .int x, .int (nI 1), .int z] S (-1000001) (qr S 19 (fnR ψ 0)) := by
  refine qCI_of (by decide) (Nat.le_of_ble_eq_true rfl) (fun p e s m below meth c ls X hW hl => ?_)
  have hl : lv_has ls 4 [(0, .ref (eA E 70)), (1, .int x), (2, .int (nI 1)), (3, .int z)] := hl
  have htl := hwf.tl
  have hwl := hwf.wl
  have hdl := hwf.dl
  refine lv_aload_n X.x X.b d_R_lead_0 rfl (lv_at hl 0 rfl) ?_
  refine lv_iload_n X.x X.b d_R_lead_1 rfl (lv_at hl 1 rfl) ?_
  refine q_cvi X (c_R_isWalker l E S ν (by rw [hν]) hwf x) hW (q_recv X hW ds_R rfl) ok_R_isWalker mw_841 ⟨by decide, by decide⟩ (As := [.int x]) rfl rfl (Nat.le_of_ble_eq_true rfl) (lv := [(0, .ref (eA E 70)), (1, .int x), (2, .int (nI 1)), (3, .int z)]) hl ⟨Nat.le_refl 0, Nat.le_refl 0⟩ d_R_lead_2 (fun H locs hW => ?_)
  refine lv_if_eq (tgt := 29) X.x X.b d_R_lead_5 (by decide) (fun c5 => ?_) (fun c5 => ?_)
  · have c5 := b2i_e c5
    refine lv_aload_n X.x X.b d_R_lead_29 rfl (lv_at hl 0 rfl) ?_
    refine lv_ldc (v := (-1000001)) X.x X.b X.ow (X.ts _ mw_767) d_R_lead_30 ?_
    refine q_cvi X (c_R_finding_0 l E S ψ (by rw [hψ])) hW (q_recv X hW ds_R rfl) ok_R_finding mw_768 ⟨by decide, by decide⟩ (As := [.int (-1000001)]) rfl rfl (Nat.le_of_ble_eq_true rfl) (lv := [(0, .ref (eA E 70)), (1, .int x), (2, .int (nI 1)), (3, .int z)]) hl ⟨Nat.le_refl 0, Nat.le_refl 0⟩ d_R_lead_32 (fun H locs hW => ?_)
    have hW : qWH E (qr S 19 (fnR ψ 0)) s H locs := hW
    exact q_zret X rfl hW ⟨rfl, rfl⟩ d_R_lead_35
  · have c5 := b2i_n c5
    refine lv_iload_n X.x X.b d_R_lead_8 rfl (lv_at hl 2 rfl) ?_
    refine lv_iload_n X.x X.b d_R_lead_9 rfl (lv_at hl 3 rfl) ?_
    refine q_csi X (c_R_isField_1 l E S z) hW ok_R_isField mw_853 ⟨by decide, by decide⟩ (As := [.int (nI 1), .int z]) rfl rfl (Nat.le_of_ble_eq_true rfl) (lv := [(0, .ref (eA E 70)), (1, .int x), (2, .int (nI 1)), (3, .int z)]) hl ⟨Nat.le_refl 0, Nat.le_refl 0⟩ d_R_lead_10 (fun H locs hW => ?_)
    refine lv_if_eq (tgt := 29) X.x X.b d_R_lead_13 (by decide) (fun c13 => ?_) (fun c13 => ?_)
    · have c13 := b2i_e c13
      refine lv_aload_n X.x X.b d_R_lead_29 rfl (lv_at hl 0 rfl) ?_
      refine lv_ldc (v := (-1000001)) X.x X.b X.ow (X.ts _ mw_767) d_R_lead_30 ?_
      refine q_cvi X (c_R_finding_0 l E S ψ (by rw [hψ])) hW (q_recv X hW ds_R rfl) ok_R_finding mw_768 ⟨by decide, by decide⟩ (As := [.int (-1000001)]) rfl rfl (Nat.le_of_ble_eq_true rfl) (lv := [(0, .ref (eA E 70)), (1, .int x), (2, .int (nI 1)), (3, .int z)]) hl ⟨Nat.le_refl 0, Nat.le_refl 0⟩ d_R_lead_32 (fun H locs hW => ?_)
      have hW : qWH E (qr S 19 (fnR ψ 0)) s H locs := hW
      exact q_zret X rfl hW ⟨rfl, rfl⟩ d_R_lead_35
    · have c13 := b2i_n c13
      exact absurd ⟨c5, c13⟩ h
set_option maxHeartbeats 1000000 in
set_option maxRecDepth 20000 in
theorem c_R_lead_2 (l : Launch) (E : QE) (S : QM) (ν : Nat → Int32) (hν : S 16 = ν) (hwf : WF ν) (w : Nat) (hw : w < nW ν) (v : Nat) (hv0 : 1 ≤ v) (hv : v ≤ 5) : qCI E l y_R_lead prog_7_method_37_code 4 .int 4 [.ref (eA E 70), .int (nI w), .int (nI 2), .int (nI v)] S (ν (44 + 6 * w + 2)) (qr S 16 (upd ν (44 + 6 * w + 2) (nI v))) := by
  refine qCI_of (by decide) (Nat.le_of_ble_eq_true rfl) (fun p e s m below meth c ls X hW hl => ?_)
  have hl : lv_has ls 4 [(0, .ref (eA E 70)), (1, .int (nI w)), (2, .int (nI 2)), (3, .int (nI v))] := hl
  have htl := hwf.tl
  have hwl := hwf.wl
  have hdl := hwf.dl
  refine lv_aload_n X.x X.b d_R_lead_0 rfl (lv_at hl 0 rfl) ?_
  refine lv_iload_n X.x X.b d_R_lead_1 rfl (lv_at hl 1 rfl) ?_
  refine q_cvi X (c_R_isWalker l E S ν (by rw [hν]) hwf (nI w)) hW (q_recv X hW ds_R rfl) ok_R_isWalker mw_841 ⟨by decide, by decide⟩ (As := [.int (nI w)]) rfl rfl (Nat.le_of_ble_eq_true rfl) (lv := [(0, .ref (eA E 70)), (1, .int (nI w)), (2, .int (nI 2)), (3, .int (nI v))]) hl ⟨Nat.le_refl 0, Nat.le_refl 0⟩ d_R_lead_2 (fun H locs hW => ?_)
  refine lv_if_eq (tgt := 29) X.x X.b d_R_lead_5 (by decide) (fun c5 => ?_) (fun c5 => ?_)
  · have c5 := b2i_e c5
    have c5 := mt (isW_i hwf (by omega)).mpr c5
    omega
  · have c5 := b2i_n c5
    have c5 := (isW_i hwf (by omega)).mp c5
    refine lv_iload_n X.x X.b d_R_lead_8 rfl (lv_at hl 2 rfl) ?_
    refine lv_iload_n X.x X.b d_R_lead_9 rfl (lv_at hl 3 rfl) ?_
    refine q_csi X (c_R_isField_2 l E S (nI v)) hW ok_R_isField mw_853 ⟨by decide, by decide⟩ (As := [.int (nI 2), .int (nI v)]) rfl rfl (Nat.le_of_ble_eq_true rfl) (lv := [(0, .ref (eA E 70)), (1, .int (nI w)), (2, .int (nI 2)), (3, .int (nI v))]) hl ⟨Nat.le_refl 0, Nat.le_refl 0⟩ d_R_lead_10 (fun H locs hW => ?_)
    refine lv_if_eq (tgt := 29) X.x X.b d_R_lead_13 (by decide) (fun c13 => ?_) (fun c13 => ?_)
    · have c13 := b2i_e c13
      have c13 := mt (inR_i (by omega) (by decide)).mpr c13
      omega
    · have c13 := b2i_n c13
      have c13 := (inR_i (by omega) (by decide)).mp c13
      refine lv_aload_n X.x X.b d_R_lead_16 rfl (lv_at hl 0 rfl) ?_
      refine lv_iload_n X.x X.b d_R_lead_17 rfl (lv_at hl 1 rfl) ?_
      refine lv_iload_n X.x X.b d_R_lead_18 rfl (lv_at hl 2 rfl) ?_
      refine q_csi X (c_R_walkerAt l E S w 2) hW ok_R_walkerAt mw_802 ⟨by decide, by decide⟩ (As := [.int (nI w), .int (nI 2)]) rfl rfl (Nat.le_of_ble_eq_true rfl) (lv := [(0, .ref (eA E 70)), (1, .int (nI w)), (2, .int (nI 2)), (3, .int (nI v))]) hl ⟨Nat.le_refl 0, Nat.le_refl 0⟩ d_R_lead_19 (fun H locs hW => ?_)
      refine lv_iload_n X.x X.b d_R_lead_22 rfl (lv_at hl 3 rfl) ?_
      refine q_cvi X (c_R_become l E S ν (by rw [hν]) (44 + 6 * w + 2) (nI v) (by omega)) hW (q_recv X hW ds_R rfl) ok_R_become mw_763 ⟨by decide, by decide⟩ (As := [.int (nI (44 + 6 * w + 2)), .int (nI v)]) rfl rfl (Nat.le_of_ble_eq_true rfl) (lv := [(0, .ref (eA E 70)), (1, .int (nI w)), (2, .int (nI 2)), (3, .int (nI v))]) hl ⟨Nat.le_refl 0, Nat.le_refl 0⟩ d_R_lead_23 (fun H locs hW => ?_)
      have hW : qWH E (qr S 16 (upd ν (44 + 6 * w + 2) (nI v))) s H locs := hW
      refine lv_goto (tgt := 35) X.x X.b d_R_lead_26 (by decide) ?_
      exact q_zret X rfl hW ⟨rfl, rfl⟩ d_R_lead_35
set_option maxHeartbeats 1000000 in
set_option maxRecDepth 20000 in
theorem c_R_lead_b2 (l : Launch) (E : QE) (S : QM) (ν : Nat → Int32) (hν : S 16 = ν) (hwf : WF ν) (ψ : Nat → Int32) (hψ : S 19 = ψ) (x z : Int32) (h : ¬ (isW ν x ∧ inR 1 5 z)) : qCI E l y_R_lead prog_7_method_37_code 4 .int 4 [.ref (eA E 70), .int x, .int (nI 2), .int z] S (-1000001) (qr S 19 (fnR ψ 0)) := by
  refine qCI_of (by decide) (Nat.le_of_ble_eq_true rfl) (fun p e s m below meth c ls X hW hl => ?_)
  have hl : lv_has ls 4 [(0, .ref (eA E 70)), (1, .int x), (2, .int (nI 2)), (3, .int z)] := hl
  have htl := hwf.tl
  have hwl := hwf.wl
  have hdl := hwf.dl
  refine lv_aload_n X.x X.b d_R_lead_0 rfl (lv_at hl 0 rfl) ?_
  refine lv_iload_n X.x X.b d_R_lead_1 rfl (lv_at hl 1 rfl) ?_
  refine q_cvi X (c_R_isWalker l E S ν (by rw [hν]) hwf x) hW (q_recv X hW ds_R rfl) ok_R_isWalker mw_841 ⟨by decide, by decide⟩ (As := [.int x]) rfl rfl (Nat.le_of_ble_eq_true rfl) (lv := [(0, .ref (eA E 70)), (1, .int x), (2, .int (nI 2)), (3, .int z)]) hl ⟨Nat.le_refl 0, Nat.le_refl 0⟩ d_R_lead_2 (fun H locs hW => ?_)
  refine lv_if_eq (tgt := 29) X.x X.b d_R_lead_5 (by decide) (fun c5 => ?_) (fun c5 => ?_)
  · have c5 := b2i_e c5
    refine lv_aload_n X.x X.b d_R_lead_29 rfl (lv_at hl 0 rfl) ?_
    refine lv_ldc (v := (-1000001)) X.x X.b X.ow (X.ts _ mw_767) d_R_lead_30 ?_
    refine q_cvi X (c_R_finding_0 l E S ψ (by rw [hψ])) hW (q_recv X hW ds_R rfl) ok_R_finding mw_768 ⟨by decide, by decide⟩ (As := [.int (-1000001)]) rfl rfl (Nat.le_of_ble_eq_true rfl) (lv := [(0, .ref (eA E 70)), (1, .int x), (2, .int (nI 2)), (3, .int z)]) hl ⟨Nat.le_refl 0, Nat.le_refl 0⟩ d_R_lead_32 (fun H locs hW => ?_)
    have hW : qWH E (qr S 19 (fnR ψ 0)) s H locs := hW
    exact q_zret X rfl hW ⟨rfl, rfl⟩ d_R_lead_35
  · have c5 := b2i_n c5
    refine lv_iload_n X.x X.b d_R_lead_8 rfl (lv_at hl 2 rfl) ?_
    refine lv_iload_n X.x X.b d_R_lead_9 rfl (lv_at hl 3 rfl) ?_
    refine q_csi X (c_R_isField_2 l E S z) hW ok_R_isField mw_853 ⟨by decide, by decide⟩ (As := [.int (nI 2), .int z]) rfl rfl (Nat.le_of_ble_eq_true rfl) (lv := [(0, .ref (eA E 70)), (1, .int x), (2, .int (nI 2)), (3, .int z)]) hl ⟨Nat.le_refl 0, Nat.le_refl 0⟩ d_R_lead_10 (fun H locs hW => ?_)
    refine lv_if_eq (tgt := 29) X.x X.b d_R_lead_13 (by decide) (fun c13 => ?_) (fun c13 => ?_)
    · have c13 := b2i_e c13
      refine lv_aload_n X.x X.b d_R_lead_29 rfl (lv_at hl 0 rfl) ?_
      refine lv_ldc (v := (-1000001)) X.x X.b X.ow (X.ts _ mw_767) d_R_lead_30 ?_
      refine q_cvi X (c_R_finding_0 l E S ψ (by rw [hψ])) hW (q_recv X hW ds_R rfl) ok_R_finding mw_768 ⟨by decide, by decide⟩ (As := [.int (-1000001)]) rfl rfl (Nat.le_of_ble_eq_true rfl) (lv := [(0, .ref (eA E 70)), (1, .int x), (2, .int (nI 2)), (3, .int z)]) hl ⟨Nat.le_refl 0, Nat.le_refl 0⟩ d_R_lead_32 (fun H locs hW => ?_)
      have hW : qWH E (qr S 19 (fnR ψ 0)) s H locs := hW
      exact q_zret X rfl hW ⟨rfl, rfl⟩ d_R_lead_35
    · have c13 := b2i_n c13
      exact absurd ⟨c5, c13⟩ h
set_option maxHeartbeats 1000000 in
set_option maxRecDepth 20000 in
theorem c_R_lead_3 (l : Launch) (E : QE) (S : QM) (ν : Nat → Int32) (hν : S 16 = ν) (hwf : WF ν) (w : Nat) (hw : w < nW ν) (v : Nat) (hv0 : 0 ≤ v) (hv : v ≤ 255) : qCI E l y_R_lead prog_7_method_37_code 4 .int 4 [.ref (eA E 70), .int (nI w), .int (nI 3), .int (nI v)] S (ν (44 + 6 * w + 3)) (qr S 16 (upd ν (44 + 6 * w + 3) (nI v))) := by
  refine qCI_of (by decide) (Nat.le_of_ble_eq_true rfl) (fun p e s m below meth c ls X hW hl => ?_)
  have hl : lv_has ls 4 [(0, .ref (eA E 70)), (1, .int (nI w)), (2, .int (nI 3)), (3, .int (nI v))] := hl
  have htl := hwf.tl
  have hwl := hwf.wl
  have hdl := hwf.dl
  refine lv_aload_n X.x X.b d_R_lead_0 rfl (lv_at hl 0 rfl) ?_
  refine lv_iload_n X.x X.b d_R_lead_1 rfl (lv_at hl 1 rfl) ?_
  refine q_cvi X (c_R_isWalker l E S ν (by rw [hν]) hwf (nI w)) hW (q_recv X hW ds_R rfl) ok_R_isWalker mw_841 ⟨by decide, by decide⟩ (As := [.int (nI w)]) rfl rfl (Nat.le_of_ble_eq_true rfl) (lv := [(0, .ref (eA E 70)), (1, .int (nI w)), (2, .int (nI 3)), (3, .int (nI v))]) hl ⟨Nat.le_refl 0, Nat.le_refl 0⟩ d_R_lead_2 (fun H locs hW => ?_)
  refine lv_if_eq (tgt := 29) X.x X.b d_R_lead_5 (by decide) (fun c5 => ?_) (fun c5 => ?_)
  · have c5 := b2i_e c5
    have c5 := mt (isW_i hwf (by omega)).mpr c5
    omega
  · have c5 := b2i_n c5
    have c5 := (isW_i hwf (by omega)).mp c5
    refine lv_iload_n X.x X.b d_R_lead_8 rfl (lv_at hl 2 rfl) ?_
    refine lv_iload_n X.x X.b d_R_lead_9 rfl (lv_at hl 3 rfl) ?_
    refine q_csi X (c_R_isField_3 l E S (nI v)) hW ok_R_isField mw_853 ⟨by decide, by decide⟩ (As := [.int (nI 3), .int (nI v)]) rfl rfl (Nat.le_of_ble_eq_true rfl) (lv := [(0, .ref (eA E 70)), (1, .int (nI w)), (2, .int (nI 3)), (3, .int (nI v))]) hl ⟨Nat.le_refl 0, Nat.le_refl 0⟩ d_R_lead_10 (fun H locs hW => ?_)
    refine lv_if_eq (tgt := 29) X.x X.b d_R_lead_13 (by decide) (fun c13 => ?_) (fun c13 => ?_)
    · have c13 := b2i_e c13
      have c13 := mt (inR_i (by omega) (by decide)).mpr c13
      omega
    · have c13 := b2i_n c13
      have c13 := (inR_i (by omega) (by decide)).mp c13
      refine lv_aload_n X.x X.b d_R_lead_16 rfl (lv_at hl 0 rfl) ?_
      refine lv_iload_n X.x X.b d_R_lead_17 rfl (lv_at hl 1 rfl) ?_
      refine lv_iload_n X.x X.b d_R_lead_18 rfl (lv_at hl 2 rfl) ?_
      refine q_csi X (c_R_walkerAt l E S w 3) hW ok_R_walkerAt mw_802 ⟨by decide, by decide⟩ (As := [.int (nI w), .int (nI 3)]) rfl rfl (Nat.le_of_ble_eq_true rfl) (lv := [(0, .ref (eA E 70)), (1, .int (nI w)), (2, .int (nI 3)), (3, .int (nI v))]) hl ⟨Nat.le_refl 0, Nat.le_refl 0⟩ d_R_lead_19 (fun H locs hW => ?_)
      refine lv_iload_n X.x X.b d_R_lead_22 rfl (lv_at hl 3 rfl) ?_
      refine q_cvi X (c_R_become l E S ν (by rw [hν]) (44 + 6 * w + 3) (nI v) (by omega)) hW (q_recv X hW ds_R rfl) ok_R_become mw_763 ⟨by decide, by decide⟩ (As := [.int (nI (44 + 6 * w + 3)), .int (nI v)]) rfl rfl (Nat.le_of_ble_eq_true rfl) (lv := [(0, .ref (eA E 70)), (1, .int (nI w)), (2, .int (nI 3)), (3, .int (nI v))]) hl ⟨Nat.le_refl 0, Nat.le_refl 0⟩ d_R_lead_23 (fun H locs hW => ?_)
      have hW : qWH E (qr S 16 (upd ν (44 + 6 * w + 3) (nI v))) s H locs := hW
      refine lv_goto (tgt := 35) X.x X.b d_R_lead_26 (by decide) ?_
      exact q_zret X rfl hW ⟨rfl, rfl⟩ d_R_lead_35
set_option maxHeartbeats 1000000 in
set_option maxRecDepth 20000 in
theorem c_R_lead_b3 (l : Launch) (E : QE) (S : QM) (ν : Nat → Int32) (hν : S 16 = ν) (hwf : WF ν) (ψ : Nat → Int32) (hψ : S 19 = ψ) (x z : Int32) (h : ¬ (isW ν x ∧ inR 0 255 z)) : qCI E l y_R_lead prog_7_method_37_code 4 .int 4 [.ref (eA E 70), .int x, .int (nI 3), .int z] S (-1000001) (qr S 19 (fnR ψ 0)) := by
  refine qCI_of (by decide) (Nat.le_of_ble_eq_true rfl) (fun p e s m below meth c ls X hW hl => ?_)
  have hl : lv_has ls 4 [(0, .ref (eA E 70)), (1, .int x), (2, .int (nI 3)), (3, .int z)] := hl
  have htl := hwf.tl
  have hwl := hwf.wl
  have hdl := hwf.dl
  refine lv_aload_n X.x X.b d_R_lead_0 rfl (lv_at hl 0 rfl) ?_
  refine lv_iload_n X.x X.b d_R_lead_1 rfl (lv_at hl 1 rfl) ?_
  refine q_cvi X (c_R_isWalker l E S ν (by rw [hν]) hwf x) hW (q_recv X hW ds_R rfl) ok_R_isWalker mw_841 ⟨by decide, by decide⟩ (As := [.int x]) rfl rfl (Nat.le_of_ble_eq_true rfl) (lv := [(0, .ref (eA E 70)), (1, .int x), (2, .int (nI 3)), (3, .int z)]) hl ⟨Nat.le_refl 0, Nat.le_refl 0⟩ d_R_lead_2 (fun H locs hW => ?_)
  refine lv_if_eq (tgt := 29) X.x X.b d_R_lead_5 (by decide) (fun c5 => ?_) (fun c5 => ?_)
  · have c5 := b2i_e c5
    refine lv_aload_n X.x X.b d_R_lead_29 rfl (lv_at hl 0 rfl) ?_
    refine lv_ldc (v := (-1000001)) X.x X.b X.ow (X.ts _ mw_767) d_R_lead_30 ?_
    refine q_cvi X (c_R_finding_0 l E S ψ (by rw [hψ])) hW (q_recv X hW ds_R rfl) ok_R_finding mw_768 ⟨by decide, by decide⟩ (As := [.int (-1000001)]) rfl rfl (Nat.le_of_ble_eq_true rfl) (lv := [(0, .ref (eA E 70)), (1, .int x), (2, .int (nI 3)), (3, .int z)]) hl ⟨Nat.le_refl 0, Nat.le_refl 0⟩ d_R_lead_32 (fun H locs hW => ?_)
    have hW : qWH E (qr S 19 (fnR ψ 0)) s H locs := hW
    exact q_zret X rfl hW ⟨rfl, rfl⟩ d_R_lead_35
  · have c5 := b2i_n c5
    refine lv_iload_n X.x X.b d_R_lead_8 rfl (lv_at hl 2 rfl) ?_
    refine lv_iload_n X.x X.b d_R_lead_9 rfl (lv_at hl 3 rfl) ?_
    refine q_csi X (c_R_isField_3 l E S z) hW ok_R_isField mw_853 ⟨by decide, by decide⟩ (As := [.int (nI 3), .int z]) rfl rfl (Nat.le_of_ble_eq_true rfl) (lv := [(0, .ref (eA E 70)), (1, .int x), (2, .int (nI 3)), (3, .int z)]) hl ⟨Nat.le_refl 0, Nat.le_refl 0⟩ d_R_lead_10 (fun H locs hW => ?_)
    refine lv_if_eq (tgt := 29) X.x X.b d_R_lead_13 (by decide) (fun c13 => ?_) (fun c13 => ?_)
    · have c13 := b2i_e c13
      refine lv_aload_n X.x X.b d_R_lead_29 rfl (lv_at hl 0 rfl) ?_
      refine lv_ldc (v := (-1000001)) X.x X.b X.ow (X.ts _ mw_767) d_R_lead_30 ?_
      refine q_cvi X (c_R_finding_0 l E S ψ (by rw [hψ])) hW (q_recv X hW ds_R rfl) ok_R_finding mw_768 ⟨by decide, by decide⟩ (As := [.int (-1000001)]) rfl rfl (Nat.le_of_ble_eq_true rfl) (lv := [(0, .ref (eA E 70)), (1, .int x), (2, .int (nI 3)), (3, .int z)]) hl ⟨Nat.le_refl 0, Nat.le_refl 0⟩ d_R_lead_32 (fun H locs hW => ?_)
      have hW : qWH E (qr S 19 (fnR ψ 0)) s H locs := hW
      exact q_zret X rfl hW ⟨rfl, rfl⟩ d_R_lead_35
    · have c13 := b2i_n c13
      exact absurd ⟨c5, c13⟩ h
set_option maxHeartbeats 1000000 in
set_option maxRecDepth 20000 in
theorem c_R_lead_4 (l : Launch) (E : QE) (S : QM) (ν : Nat → Int32) (hν : S 16 = ν) (hwf : WF ν) (w : Nat) (hw : w < nW ν) (v : Nat) (hv0 : 0 ≤ v) (hv : v ≤ 9999) : qCI E l y_R_lead prog_7_method_37_code 4 .int 4 [.ref (eA E 70), .int (nI w), .int (nI 4), .int (nI v)] S (ν (44 + 6 * w + 4)) (qr S 16 (upd ν (44 + 6 * w + 4) (nI v))) := by
  refine qCI_of (by decide) (Nat.le_of_ble_eq_true rfl) (fun p e s m below meth c ls X hW hl => ?_)
  have hl : lv_has ls 4 [(0, .ref (eA E 70)), (1, .int (nI w)), (2, .int (nI 4)), (3, .int (nI v))] := hl
  have htl := hwf.tl
  have hwl := hwf.wl
  have hdl := hwf.dl
  refine lv_aload_n X.x X.b d_R_lead_0 rfl (lv_at hl 0 rfl) ?_
  refine lv_iload_n X.x X.b d_R_lead_1 rfl (lv_at hl 1 rfl) ?_
  refine q_cvi X (c_R_isWalker l E S ν (by rw [hν]) hwf (nI w)) hW (q_recv X hW ds_R rfl) ok_R_isWalker mw_841 ⟨by decide, by decide⟩ (As := [.int (nI w)]) rfl rfl (Nat.le_of_ble_eq_true rfl) (lv := [(0, .ref (eA E 70)), (1, .int (nI w)), (2, .int (nI 4)), (3, .int (nI v))]) hl ⟨Nat.le_refl 0, Nat.le_refl 0⟩ d_R_lead_2 (fun H locs hW => ?_)
  refine lv_if_eq (tgt := 29) X.x X.b d_R_lead_5 (by decide) (fun c5 => ?_) (fun c5 => ?_)
  · have c5 := b2i_e c5
    have c5 := mt (isW_i hwf (by omega)).mpr c5
    omega
  · have c5 := b2i_n c5
    have c5 := (isW_i hwf (by omega)).mp c5
    refine lv_iload_n X.x X.b d_R_lead_8 rfl (lv_at hl 2 rfl) ?_
    refine lv_iload_n X.x X.b d_R_lead_9 rfl (lv_at hl 3 rfl) ?_
    refine q_csi X (c_R_isField_4 l E S (nI v)) hW ok_R_isField mw_853 ⟨by decide, by decide⟩ (As := [.int (nI 4), .int (nI v)]) rfl rfl (Nat.le_of_ble_eq_true rfl) (lv := [(0, .ref (eA E 70)), (1, .int (nI w)), (2, .int (nI 4)), (3, .int (nI v))]) hl ⟨Nat.le_refl 0, Nat.le_refl 0⟩ d_R_lead_10 (fun H locs hW => ?_)
    refine lv_if_eq (tgt := 29) X.x X.b d_R_lead_13 (by decide) (fun c13 => ?_) (fun c13 => ?_)
    · have c13 := b2i_e c13
      have c13 := mt (inR_i (by omega) (by decide)).mpr c13
      omega
    · have c13 := b2i_n c13
      have c13 := (inR_i (by omega) (by decide)).mp c13
      refine lv_aload_n X.x X.b d_R_lead_16 rfl (lv_at hl 0 rfl) ?_
      refine lv_iload_n X.x X.b d_R_lead_17 rfl (lv_at hl 1 rfl) ?_
      refine lv_iload_n X.x X.b d_R_lead_18 rfl (lv_at hl 2 rfl) ?_
      refine q_csi X (c_R_walkerAt l E S w 4) hW ok_R_walkerAt mw_802 ⟨by decide, by decide⟩ (As := [.int (nI w), .int (nI 4)]) rfl rfl (Nat.le_of_ble_eq_true rfl) (lv := [(0, .ref (eA E 70)), (1, .int (nI w)), (2, .int (nI 4)), (3, .int (nI v))]) hl ⟨Nat.le_refl 0, Nat.le_refl 0⟩ d_R_lead_19 (fun H locs hW => ?_)
      refine lv_iload_n X.x X.b d_R_lead_22 rfl (lv_at hl 3 rfl) ?_
      refine q_cvi X (c_R_become l E S ν (by rw [hν]) (44 + 6 * w + 4) (nI v) (by omega)) hW (q_recv X hW ds_R rfl) ok_R_become mw_763 ⟨by decide, by decide⟩ (As := [.int (nI (44 + 6 * w + 4)), .int (nI v)]) rfl rfl (Nat.le_of_ble_eq_true rfl) (lv := [(0, .ref (eA E 70)), (1, .int (nI w)), (2, .int (nI 4)), (3, .int (nI v))]) hl ⟨Nat.le_refl 0, Nat.le_refl 0⟩ d_R_lead_23 (fun H locs hW => ?_)
      have hW : qWH E (qr S 16 (upd ν (44 + 6 * w + 4) (nI v))) s H locs := hW
      refine lv_goto (tgt := 35) X.x X.b d_R_lead_26 (by decide) ?_
      exact q_zret X rfl hW ⟨rfl, rfl⟩ d_R_lead_35
set_option maxHeartbeats 1000000 in
set_option maxRecDepth 20000 in
theorem c_R_lead_b4 (l : Launch) (E : QE) (S : QM) (ν : Nat → Int32) (hν : S 16 = ν) (hwf : WF ν) (ψ : Nat → Int32) (hψ : S 19 = ψ) (x z : Int32) (h : ¬ (isW ν x ∧ inR 0 9999 z)) : qCI E l y_R_lead prog_7_method_37_code 4 .int 4 [.ref (eA E 70), .int x, .int (nI 4), .int z] S (-1000001) (qr S 19 (fnR ψ 0)) := by
  refine qCI_of (by decide) (Nat.le_of_ble_eq_true rfl) (fun p e s m below meth c ls X hW hl => ?_)
  have hl : lv_has ls 4 [(0, .ref (eA E 70)), (1, .int x), (2, .int (nI 4)), (3, .int z)] := hl
  have htl := hwf.tl
  have hwl := hwf.wl
  have hdl := hwf.dl
  refine lv_aload_n X.x X.b d_R_lead_0 rfl (lv_at hl 0 rfl) ?_
  refine lv_iload_n X.x X.b d_R_lead_1 rfl (lv_at hl 1 rfl) ?_
  refine q_cvi X (c_R_isWalker l E S ν (by rw [hν]) hwf x) hW (q_recv X hW ds_R rfl) ok_R_isWalker mw_841 ⟨by decide, by decide⟩ (As := [.int x]) rfl rfl (Nat.le_of_ble_eq_true rfl) (lv := [(0, .ref (eA E 70)), (1, .int x), (2, .int (nI 4)), (3, .int z)]) hl ⟨Nat.le_refl 0, Nat.le_refl 0⟩ d_R_lead_2 (fun H locs hW => ?_)
  refine lv_if_eq (tgt := 29) X.x X.b d_R_lead_5 (by decide) (fun c5 => ?_) (fun c5 => ?_)
  · have c5 := b2i_e c5
    refine lv_aload_n X.x X.b d_R_lead_29 rfl (lv_at hl 0 rfl) ?_
    refine lv_ldc (v := (-1000001)) X.x X.b X.ow (X.ts _ mw_767) d_R_lead_30 ?_
    refine q_cvi X (c_R_finding_0 l E S ψ (by rw [hψ])) hW (q_recv X hW ds_R rfl) ok_R_finding mw_768 ⟨by decide, by decide⟩ (As := [.int (-1000001)]) rfl rfl (Nat.le_of_ble_eq_true rfl) (lv := [(0, .ref (eA E 70)), (1, .int x), (2, .int (nI 4)), (3, .int z)]) hl ⟨Nat.le_refl 0, Nat.le_refl 0⟩ d_R_lead_32 (fun H locs hW => ?_)
    have hW : qWH E (qr S 19 (fnR ψ 0)) s H locs := hW
    exact q_zret X rfl hW ⟨rfl, rfl⟩ d_R_lead_35
  · have c5 := b2i_n c5
    refine lv_iload_n X.x X.b d_R_lead_8 rfl (lv_at hl 2 rfl) ?_
    refine lv_iload_n X.x X.b d_R_lead_9 rfl (lv_at hl 3 rfl) ?_
    refine q_csi X (c_R_isField_4 l E S z) hW ok_R_isField mw_853 ⟨by decide, by decide⟩ (As := [.int (nI 4), .int z]) rfl rfl (Nat.le_of_ble_eq_true rfl) (lv := [(0, .ref (eA E 70)), (1, .int x), (2, .int (nI 4)), (3, .int z)]) hl ⟨Nat.le_refl 0, Nat.le_refl 0⟩ d_R_lead_10 (fun H locs hW => ?_)
    refine lv_if_eq (tgt := 29) X.x X.b d_R_lead_13 (by decide) (fun c13 => ?_) (fun c13 => ?_)
    · have c13 := b2i_e c13
      refine lv_aload_n X.x X.b d_R_lead_29 rfl (lv_at hl 0 rfl) ?_
      refine lv_ldc (v := (-1000001)) X.x X.b X.ow (X.ts _ mw_767) d_R_lead_30 ?_
      refine q_cvi X (c_R_finding_0 l E S ψ (by rw [hψ])) hW (q_recv X hW ds_R rfl) ok_R_finding mw_768 ⟨by decide, by decide⟩ (As := [.int (-1000001)]) rfl rfl (Nat.le_of_ble_eq_true rfl) (lv := [(0, .ref (eA E 70)), (1, .int x), (2, .int (nI 4)), (3, .int z)]) hl ⟨Nat.le_refl 0, Nat.le_refl 0⟩ d_R_lead_32 (fun H locs hW => ?_)
      have hW : qWH E (qr S 19 (fnR ψ 0)) s H locs := hW
      exact q_zret X rfl hW ⟨rfl, rfl⟩ d_R_lead_35
    · have c13 := b2i_n c13
      exact absurd ⟨c5, c13⟩ h
set_option maxHeartbeats 1000000 in
set_option maxRecDepth 20000 in
theorem c_R_lead_5 (l : Launch) (E : QE) (S : QM) (ν : Nat → Int32) (hν : S 16 = ν) (hwf : WF ν) (w : Nat) (hw : w < nW ν) (v : Nat) (hv0 : 0 ≤ v) (hv : v ≤ 9999) : qCI E l y_R_lead prog_7_method_37_code 4 .int 4 [.ref (eA E 70), .int (nI w), .int (nI 5), .int (nI v)] S (ν (44 + 6 * w + 5)) (qr S 16 (upd ν (44 + 6 * w + 5) (nI v))) := by
  refine qCI_of (by decide) (Nat.le_of_ble_eq_true rfl) (fun p e s m below meth c ls X hW hl => ?_)
  have hl : lv_has ls 4 [(0, .ref (eA E 70)), (1, .int (nI w)), (2, .int (nI 5)), (3, .int (nI v))] := hl
  have htl := hwf.tl
  have hwl := hwf.wl
  have hdl := hwf.dl
  refine lv_aload_n X.x X.b d_R_lead_0 rfl (lv_at hl 0 rfl) ?_
  refine lv_iload_n X.x X.b d_R_lead_1 rfl (lv_at hl 1 rfl) ?_
  refine q_cvi X (c_R_isWalker l E S ν (by rw [hν]) hwf (nI w)) hW (q_recv X hW ds_R rfl) ok_R_isWalker mw_841 ⟨by decide, by decide⟩ (As := [.int (nI w)]) rfl rfl (Nat.le_of_ble_eq_true rfl) (lv := [(0, .ref (eA E 70)), (1, .int (nI w)), (2, .int (nI 5)), (3, .int (nI v))]) hl ⟨Nat.le_refl 0, Nat.le_refl 0⟩ d_R_lead_2 (fun H locs hW => ?_)
  refine lv_if_eq (tgt := 29) X.x X.b d_R_lead_5 (by decide) (fun c5 => ?_) (fun c5 => ?_)
  · have c5 := b2i_e c5
    have c5 := mt (isW_i hwf (by omega)).mpr c5
    omega
  · have c5 := b2i_n c5
    have c5 := (isW_i hwf (by omega)).mp c5
    refine lv_iload_n X.x X.b d_R_lead_8 rfl (lv_at hl 2 rfl) ?_
    refine lv_iload_n X.x X.b d_R_lead_9 rfl (lv_at hl 3 rfl) ?_
    refine q_csi X (c_R_isField_5 l E S (nI v)) hW ok_R_isField mw_853 ⟨by decide, by decide⟩ (As := [.int (nI 5), .int (nI v)]) rfl rfl (Nat.le_of_ble_eq_true rfl) (lv := [(0, .ref (eA E 70)), (1, .int (nI w)), (2, .int (nI 5)), (3, .int (nI v))]) hl ⟨Nat.le_refl 0, Nat.le_refl 0⟩ d_R_lead_10 (fun H locs hW => ?_)
    refine lv_if_eq (tgt := 29) X.x X.b d_R_lead_13 (by decide) (fun c13 => ?_) (fun c13 => ?_)
    · have c13 := b2i_e c13
      have c13 := mt (inR_i (by omega) (by decide)).mpr c13
      omega
    · have c13 := b2i_n c13
      have c13 := (inR_i (by omega) (by decide)).mp c13
      refine lv_aload_n X.x X.b d_R_lead_16 rfl (lv_at hl 0 rfl) ?_
      refine lv_iload_n X.x X.b d_R_lead_17 rfl (lv_at hl 1 rfl) ?_
      refine lv_iload_n X.x X.b d_R_lead_18 rfl (lv_at hl 2 rfl) ?_
      refine q_csi X (c_R_walkerAt l E S w 5) hW ok_R_walkerAt mw_802 ⟨by decide, by decide⟩ (As := [.int (nI w), .int (nI 5)]) rfl rfl (Nat.le_of_ble_eq_true rfl) (lv := [(0, .ref (eA E 70)), (1, .int (nI w)), (2, .int (nI 5)), (3, .int (nI v))]) hl ⟨Nat.le_refl 0, Nat.le_refl 0⟩ d_R_lead_19 (fun H locs hW => ?_)
      refine lv_iload_n X.x X.b d_R_lead_22 rfl (lv_at hl 3 rfl) ?_
      refine q_cvi X (c_R_become l E S ν (by rw [hν]) (44 + 6 * w + 5) (nI v) (by omega)) hW (q_recv X hW ds_R rfl) ok_R_become mw_763 ⟨by decide, by decide⟩ (As := [.int (nI (44 + 6 * w + 5)), .int (nI v)]) rfl rfl (Nat.le_of_ble_eq_true rfl) (lv := [(0, .ref (eA E 70)), (1, .int (nI w)), (2, .int (nI 5)), (3, .int (nI v))]) hl ⟨Nat.le_refl 0, Nat.le_refl 0⟩ d_R_lead_23 (fun H locs hW => ?_)
      have hW : qWH E (qr S 16 (upd ν (44 + 6 * w + 5) (nI v))) s H locs := hW
      refine lv_goto (tgt := 35) X.x X.b d_R_lead_26 (by decide) ?_
      exact q_zret X rfl hW ⟨rfl, rfl⟩ d_R_lead_35
set_option maxHeartbeats 1000000 in
set_option maxRecDepth 20000 in
theorem c_R_lead_b5 (l : Launch) (E : QE) (S : QM) (ν : Nat → Int32) (hν : S 16 = ν) (hwf : WF ν) (ψ : Nat → Int32) (hψ : S 19 = ψ) (x z : Int32) (h : ¬ (isW ν x ∧ inR 0 9999 z)) : qCI E l y_R_lead prog_7_method_37_code 4 .int 4 [.ref (eA E 70), .int x, .int (nI 5), .int z] S (-1000001) (qr S 19 (fnR ψ 0)) := by
  refine qCI_of (by decide) (Nat.le_of_ble_eq_true rfl) (fun p e s m below meth c ls X hW hl => ?_)
  have hl : lv_has ls 4 [(0, .ref (eA E 70)), (1, .int x), (2, .int (nI 5)), (3, .int z)] := hl
  have htl := hwf.tl
  have hwl := hwf.wl
  have hdl := hwf.dl
  refine lv_aload_n X.x X.b d_R_lead_0 rfl (lv_at hl 0 rfl) ?_
  refine lv_iload_n X.x X.b d_R_lead_1 rfl (lv_at hl 1 rfl) ?_
  refine q_cvi X (c_R_isWalker l E S ν (by rw [hν]) hwf x) hW (q_recv X hW ds_R rfl) ok_R_isWalker mw_841 ⟨by decide, by decide⟩ (As := [.int x]) rfl rfl (Nat.le_of_ble_eq_true rfl) (lv := [(0, .ref (eA E 70)), (1, .int x), (2, .int (nI 5)), (3, .int z)]) hl ⟨Nat.le_refl 0, Nat.le_refl 0⟩ d_R_lead_2 (fun H locs hW => ?_)
  refine lv_if_eq (tgt := 29) X.x X.b d_R_lead_5 (by decide) (fun c5 => ?_) (fun c5 => ?_)
  · have c5 := b2i_e c5
    refine lv_aload_n X.x X.b d_R_lead_29 rfl (lv_at hl 0 rfl) ?_
    refine lv_ldc (v := (-1000001)) X.x X.b X.ow (X.ts _ mw_767) d_R_lead_30 ?_
    refine q_cvi X (c_R_finding_0 l E S ψ (by rw [hψ])) hW (q_recv X hW ds_R rfl) ok_R_finding mw_768 ⟨by decide, by decide⟩ (As := [.int (-1000001)]) rfl rfl (Nat.le_of_ble_eq_true rfl) (lv := [(0, .ref (eA E 70)), (1, .int x), (2, .int (nI 5)), (3, .int z)]) hl ⟨Nat.le_refl 0, Nat.le_refl 0⟩ d_R_lead_32 (fun H locs hW => ?_)
    have hW : qWH E (qr S 19 (fnR ψ 0)) s H locs := hW
    exact q_zret X rfl hW ⟨rfl, rfl⟩ d_R_lead_35
  · have c5 := b2i_n c5
    refine lv_iload_n X.x X.b d_R_lead_8 rfl (lv_at hl 2 rfl) ?_
    refine lv_iload_n X.x X.b d_R_lead_9 rfl (lv_at hl 3 rfl) ?_
    refine q_csi X (c_R_isField_5 l E S z) hW ok_R_isField mw_853 ⟨by decide, by decide⟩ (As := [.int (nI 5), .int z]) rfl rfl (Nat.le_of_ble_eq_true rfl) (lv := [(0, .ref (eA E 70)), (1, .int x), (2, .int (nI 5)), (3, .int z)]) hl ⟨Nat.le_refl 0, Nat.le_refl 0⟩ d_R_lead_10 (fun H locs hW => ?_)
    refine lv_if_eq (tgt := 29) X.x X.b d_R_lead_13 (by decide) (fun c13 => ?_) (fun c13 => ?_)
    · have c13 := b2i_e c13
      refine lv_aload_n X.x X.b d_R_lead_29 rfl (lv_at hl 0 rfl) ?_
      refine lv_ldc (v := (-1000001)) X.x X.b X.ow (X.ts _ mw_767) d_R_lead_30 ?_
      refine q_cvi X (c_R_finding_0 l E S ψ (by rw [hψ])) hW (q_recv X hW ds_R rfl) ok_R_finding mw_768 ⟨by decide, by decide⟩ (As := [.int (-1000001)]) rfl rfl (Nat.le_of_ble_eq_true rfl) (lv := [(0, .ref (eA E 70)), (1, .int x), (2, .int (nI 5)), (3, .int z)]) hl ⟨Nat.le_refl 0, Nat.le_refl 0⟩ d_R_lead_32 (fun H locs hW => ?_)
      have hW : qWH E (qr S 19 (fnR ψ 0)) s H locs := hW
      exact q_zret X rfl hW ⟨rfl, rfl⟩ d_R_lead_35
    · have c13 := b2i_n c13
      exact absurd ⟨c5, c13⟩ h
set_option maxHeartbeats 1000000 in
set_option maxRecDepth 20000 in
theorem c_R_lead_b (l : Launch) (E : QE) (S : QM) (ν : Nat → Int32) (hν : S 16 = ν) (hwf : WF ν) (ψ : Nat → Int32) (hψ : S 19 = ψ) (x y z : Int32) (h : ¬ (isW ν x ∧ inR 0 5 y)) : qCI E l y_R_lead prog_7_method_37_code 4 .int 4 [.ref (eA E 70), .int x, .int y, .int z] S (-1000001) (qr S 19 (fnR ψ 0)) := by
  refine qCI_of (by decide) (Nat.le_of_ble_eq_true rfl) (fun p e s m below meth c ls X hW hl => ?_)
  have hl : lv_has ls 4 [(0, .ref (eA E 70)), (1, .int x), (2, .int y), (3, .int z)] := hl
  have htl := hwf.tl
  have hwl := hwf.wl
  have hdl := hwf.dl
  refine lv_aload_n X.x X.b d_R_lead_0 rfl (lv_at hl 0 rfl) ?_
  refine lv_iload_n X.x X.b d_R_lead_1 rfl (lv_at hl 1 rfl) ?_
  refine q_cvi X (c_R_isWalker l E S ν (by rw [hν]) hwf x) hW (q_recv X hW ds_R rfl) ok_R_isWalker mw_841 ⟨by decide, by decide⟩ (As := [.int x]) rfl rfl (Nat.le_of_ble_eq_true rfl) (lv := [(0, .ref (eA E 70)), (1, .int x), (2, .int y), (3, .int z)]) hl ⟨Nat.le_refl 0, Nat.le_refl 0⟩ d_R_lead_2 (fun H locs hW => ?_)
  refine lv_if_eq (tgt := 29) X.x X.b d_R_lead_5 (by decide) (fun c5 => ?_) (fun c5 => ?_)
  · have c5 := b2i_e c5
    refine lv_aload_n X.x X.b d_R_lead_29 rfl (lv_at hl 0 rfl) ?_
    refine lv_ldc (v := (-1000001)) X.x X.b X.ow (X.ts _ mw_767) d_R_lead_30 ?_
    refine q_cvi X (c_R_finding_0 l E S ψ (by rw [hψ])) hW (q_recv X hW ds_R rfl) ok_R_finding mw_768 ⟨by decide, by decide⟩ (As := [.int (-1000001)]) rfl rfl (Nat.le_of_ble_eq_true rfl) (lv := [(0, .ref (eA E 70)), (1, .int x), (2, .int y), (3, .int z)]) hl ⟨Nat.le_refl 0, Nat.le_refl 0⟩ d_R_lead_32 (fun H locs hW => ?_)
    have hW : qWH E (qr S 19 (fnR ψ 0)) s H locs := hW
    exact q_zret X rfl hW ⟨rfl, rfl⟩ d_R_lead_35
  · have c5 := b2i_n c5
    refine lv_iload_n X.x X.b d_R_lead_8 rfl (lv_at hl 2 rfl) ?_
    refine lv_iload_n X.x X.b d_R_lead_9 rfl (lv_at hl 3 rfl) ?_
    refine q_csi X (c_R_isField_b l E S y z (fun z => h ⟨c5, z⟩)) hW ok_R_isField mw_853 ⟨by decide, by decide⟩ (As := [.int y, .int z]) rfl rfl (Nat.le_of_ble_eq_true rfl) (lv := [(0, .ref (eA E 70)), (1, .int x), (2, .int y), (3, .int z)]) hl ⟨Nat.le_refl 0, Nat.le_refl 0⟩ d_R_lead_10 (fun H locs hW => ?_)
    refine lv_if_eq (tgt := 29) X.x X.b d_R_lead_13 (by decide) (fun c13 => ?_) (fun c13 => ?_)
    · have c13 : 0 = 0 := (nI_eq (a := 0) (b := 0) (by omega) (by omega)).mp c13
      refine lv_aload_n X.x X.b d_R_lead_29 rfl (lv_at hl 0 rfl) ?_
      refine lv_ldc (v := (-1000001)) X.x X.b X.ow (X.ts _ mw_767) d_R_lead_30 ?_
      refine q_cvi X (c_R_finding_0 l E S ψ (by rw [hψ])) hW (q_recv X hW ds_R rfl) ok_R_finding mw_768 ⟨by decide, by decide⟩ (As := [.int (-1000001)]) rfl rfl (Nat.le_of_ble_eq_true rfl) (lv := [(0, .ref (eA E 70)), (1, .int x), (2, .int y), (3, .int z)]) hl ⟨Nat.le_refl 0, Nat.le_refl 0⟩ d_R_lead_32 (fun H locs hW => ?_)
      have hW : qWH E (qr S 19 (fnR ψ 0)) s H locs := hW
      exact q_zret X rfl hW ⟨rfl, rfl⟩ d_R_lead_35
    · exact absurd (by decide) c13
set_option maxHeartbeats 1000000 in
set_option maxRecDepth 20000 in
theorem c_R_sees_g (l : Launch) (E : QE) (S : QM) (ν : Nat → Int32) (hν : S 16 = ν) (hwf : WF ν) (w : Nat) (hw : w < nW ν) : qCI E l y_R_sees prog_7_method_40_code 4 .int 5 [.ref (eA E 70), .int (nI w)] S (seeS ν w) S := by
  refine qCI_of (by decide) (Nat.le_of_ble_eq_true rfl) (fun p e s m below meth c ls X hW hl => ?_)
  have hl : lv_has ls 4 [(0, .ref (eA E 70)), (1, .int (nI w))] := hl
  have htl := hwf.tl
  have hwl := hwf.wl
  have hdl := hwf.dl
  refine lv_aload_n X.x X.b d_R_sees_0 rfl (lv_at hl 0 rfl) ?_
  refine lv_iload_n X.x X.b d_R_sees_1 rfl (lv_at hl 1 rfl) ?_
  refine q_cvi X (c_R_isWalker l E S ν (by rw [hν]) hwf (nI w)) hW (q_recv X hW ds_R rfl) ok_R_isWalker mw_841 ⟨by decide, by decide⟩ (As := [.int (nI w)]) rfl rfl (Nat.le_of_ble_eq_true rfl) (lv := [(0, .ref (eA E 70)), (1, .int (nI w))]) hl ⟨Nat.le_refl 0, Nat.le_refl 0⟩ d_R_sees_2 (fun H locs hW => ?_)
  refine lv_if_ne (tgt := 15) X.x X.b d_R_sees_5 (by decide) (fun c5 => ?_) (fun c5 => ?_)
  · have c5 := b2i_n c5
    have c5 := (isW_i hwf (by omega)).mp c5
    refine lv_iconst (v := nI 0) X.x X.b d_R_sees_15 (by decide) ?_
    refine lv_istore_n (lv' := [(2, .int (nI 0)), (0, .ref (eA E 70)), (1, .int (nI w))]) X.x X.b d_R_sees_16 rfl hl (by decide) rfl (fun ls hl => ?_)
    refine lv_iconst (v := nI 0) X.x X.b d_R_sees_17 (by decide) ?_
    refine lv_istore_n (lv' := [(3, .int (nI 0)), (2, .int (nI 0)), (0, .ref (eA E 70)), (1, .int (nI w))]) X.x X.b d_R_sees_18 rfl hl (by decide) rfl (fun ls hl => ?_)
    have loop19 : ∀ (fu19 : Nat) (j : Nat) (a : Int32), j ≤ nT ν → a = fo (fun i a => if see ν w i then a ||| bt i else a) j (nI 0) → nT ν - j < fu19 → ∀ (H : Heap) (locs : List Loc) (ls : Array Slot), qWH E S s H locs → lv_has ls 4 [(3, .int (nI j)), (2, .int a), (0, .ref (eA E 70)), (1, .int (nI w))] → W p l e (qRm 5) s m ([.ref (eA E 70), .int (nI w)] : List Value).toArray below meth c H locs 0 0 (MQ below (qQi E (seeS ν w) S s.heap.size) ([.ref (eA E 70), .int (nI w)] : List Value).toArray s 0 0 (qAA E s.heap.size)) (F0 m 19 ls []) := by
      intro fu19
      induction fu19 with
      | zero =>
        intro j a hj ha hfu
        exact absurd hfu (Nat.not_lt_zero _)
      | succ fu19 ih19 =>
        intro j a hj ha hfu H locs ls hW hl
        refine lv_iload_n X.x X.b d_R_sees_19 rfl (lv_at hl 0 rfl) ?_
        refine lv_aload_n X.x X.b d_R_sees_20 rfl (lv_at hl 2 rfl) ?_
        refine q_getr X hW qj4 rfl _ ds_R 0 (by decide) mw_686 rfl (c1 := 71) rfl d_R_sees_21 ?_
        refine lv_iconst (v := nI 1) X.x X.b d_R_sees_24 (by decide) ?_
        refine g_ald X hW ds_71 (q_in (by omega) (by decide)) (p0 := 1) (q_tn (by omega) (by omega)) (v := ν 1) (by rw [hν]) d_R_sees_25 ?_
        rw [hwf.t]
        refine lv_icmp_ge (tgt := 54) X.x X.b d_R_sees_26 (by decide) (fun c26 => ?_) (fun c26 => ?_)
        · have c26 : (nT ν) ≤ j := (nI_leI (a := (nT ν)) (b := j) (by omega) (by omega)).mp c26
          refine lv_iload_n X.x X.b d_R_sees_54 rfl (lv_at hl 1 rfl) ?_
          exact q_zret X rfl hW ⟨by rw [ha, show j = nT ν by omega]; rfl, rfl⟩ d_R_sees_55
        · have c26 : ¬ (nT ν) ≤ j := fun z => c26 ((nI_leI (a := (nT ν)) (b := j) (by omega) (by omega)).mpr z)
          refine lv_iload_n X.x X.b d_R_sees_29 rfl (lv_at hl 1 rfl) ?_
          refine lv_aload_n X.x X.b d_R_sees_30 rfl (lv_at hl 2 rfl) ?_
          refine lv_iload_n X.x X.b d_R_sees_31 rfl (lv_at hl 3 rfl) ?_
          refine lv_iload_n X.x X.b d_R_sees_32 rfl (lv_at hl 0 rfl) ?_
          refine q_cvi X (c_R_doesSee l E S ν (by rw [hν]) w j (by omega) (by omega)) hW (q_recv X hW ds_R rfl) ok_R_doesSee mw_866 ⟨by decide, by decide⟩ (As := [.int (nI w), .int (nI j)]) rfl rfl (Nat.le_of_ble_eq_true rfl) (lv := [(3, .int (nI j)), (2, .int a), (0, .ref (eA E 70)), (1, .int (nI w))]) hl ⟨Nat.le_refl 0, Nat.le_refl 0⟩ d_R_sees_33 (fun H locs hW => ?_)
          refine lv_if_eq (tgt := 45) X.x X.b d_R_sees_36 (by decide) (fun c36 => ?_) (fun c36 => ?_)
          · have c36 := b2i_e c36
            refine lv_iconst (v := nI 0) X.x X.b d_R_sees_45 (by decide) ?_
            refine lv_ior X.x X.b d_R_sees_46 ?_
            refine lv_istore_n (lv' := [(2, .int (a ||| (nI 0))), (3, .int (nI j)), (0, .ref (eA E 70)), (1, .int (nI w))]) X.x X.b d_R_sees_47 rfl hl (by decide) rfl (fun ls hl => ?_)
            refine lv_iinc (v := nI (j + 1)) (lv' := [(3, .int (nI (j + 1))), (2, .int (a ||| (nI 0))), (0, .ref (eA E 70)), (1, .int (nI w))]) X.x X.b d_R_sees_48 hl (k := 1) rfl (by rw [show Int32.ofInt 1 = nI 1 from by decide, nI_add]) (by decide) rfl (fun ls hl => ?_)
            refine lv_goto (tgt := 19) X.x X.b d_R_sees_51 (by decide) ?_
            exact ih19 (j + 1) (a ||| (nI 0)) (by omega) (by rw [fo_succ, ← ha]; first | exact (if_pos c36).symm | (rw [if_neg c36]; exact or0)) (by omega) _ _ _ hW (lv_sub hl [0, 1, 2, 3] rfl)
          · have c36 := b2i_n c36
            refine lv_iconst (v := nI 1) X.x X.b d_R_sees_39 (by decide) ?_
            refine lv_iload_n X.x X.b d_R_sees_40 rfl (lv_at hl 0 rfl) ?_
            refine lv_ishl X.x X.b d_R_sees_41 ?_
            refine lv_goto (tgt := 46) X.x X.b d_R_sees_42 (by decide) ?_
            refine lv_ior X.x X.b d_R_sees_46 ?_
            refine lv_istore_n (lv' := [(2, .int (a ||| ((nI 1) <<< ((nI j) &&& 31)))), (3, .int (nI j)), (0, .ref (eA E 70)), (1, .int (nI w))]) X.x X.b d_R_sees_47 rfl hl (by decide) rfl (fun ls hl => ?_)
            refine lv_iinc (v := nI (j + 1)) (lv' := [(3, .int (nI (j + 1))), (2, .int (a ||| ((nI 1) <<< ((nI j) &&& 31)))), (0, .ref (eA E 70)), (1, .int (nI w))]) X.x X.b d_R_sees_48 hl (k := 1) rfl (by rw [show Int32.ofInt 1 = nI 1 from by decide, nI_add]) (by decide) rfl (fun ls hl => ?_)
            refine lv_goto (tgt := 19) X.x X.b d_R_sees_51 (by decide) ?_
            exact ih19 (j + 1) (a ||| ((nI 1) <<< ((nI j) &&& 31))) (by omega) (by rw [fo_succ, ← ha]; first | exact (if_pos c36).symm | (rw [if_neg c36]; exact or0)) (by omega) _ _ _ hW (lv_sub hl [0, 1, 2, 3] rfl)
    exact loop19 (nT ν - 0 + 1) 0 (nI 0) (by omega) rfl (Nat.lt_succ_self _) _ _ _ hW (lv_sub hl [0, 1, 2, 3] rfl)
  · have c5 := b2i_e c5
    have c5 := mt (isW_i hwf (by omega)).mpr c5
    omega
set_option maxHeartbeats 1000000 in
set_option maxRecDepth 20000 in
theorem c_R_sees_b (l : Launch) (E : QE) (S : QM) (ν : Nat → Int32) (hν : S 16 = ν) (hwf : WF ν) (ψ : Nat → Int32) (hψ : S 19 = ψ) (x : Int32) (h : ¬ (isW ν x)) : qCI E l y_R_sees prog_7_method_40_code 4 .int 5 [.ref (eA E 70), .int x] S (-1000001) (qr S 19 (fnR ψ 0)) := by
  refine qCI_of (by decide) (Nat.le_of_ble_eq_true rfl) (fun p e s m below meth c ls X hW hl => ?_)
  have hl : lv_has ls 4 [(0, .ref (eA E 70)), (1, .int x)] := hl
  have htl := hwf.tl
  have hwl := hwf.wl
  have hdl := hwf.dl
  refine lv_aload_n X.x X.b d_R_sees_0 rfl (lv_at hl 0 rfl) ?_
  refine lv_iload_n X.x X.b d_R_sees_1 rfl (lv_at hl 1 rfl) ?_
  refine q_cvi X (c_R_isWalker l E S ν (by rw [hν]) hwf x) hW (q_recv X hW ds_R rfl) ok_R_isWalker mw_841 ⟨by decide, by decide⟩ (As := [.int x]) rfl rfl (Nat.le_of_ble_eq_true rfl) (lv := [(0, .ref (eA E 70)), (1, .int x)]) hl ⟨Nat.le_refl 0, Nat.le_refl 0⟩ d_R_sees_2 (fun H locs hW => ?_)
  refine lv_if_ne (tgt := 15) X.x X.b d_R_sees_5 (by decide) (fun c5 => ?_) (fun c5 => ?_)
  · have c5 := b2i_n c5
    exact absurd c5 h
  · have c5 := b2i_e c5
    refine lv_aload_n X.x X.b d_R_sees_8 rfl (lv_at hl 0 rfl) ?_
    refine lv_ldc (v := (-1000001)) X.x X.b X.ow (X.ts _ mw_767) d_R_sees_9 ?_
    refine q_cvi X (c_R_finding_0 l E S ψ (by rw [hψ])) hW (q_recv X hW ds_R rfl) ok_R_finding mw_768 ⟨by decide, by decide⟩ (As := [.int (-1000001)]) rfl rfl (Nat.le_of_ble_eq_true rfl) (lv := [(0, .ref (eA E 70)), (1, .int x)]) hl ⟨Nat.le_refl 0, Nat.le_refl 0⟩ d_R_sees_11 (fun H locs hW => ?_)
    have hW : qWH E (qr S 19 (fnR ψ 0)) s H locs := hW
    exact q_zret X rfl hW ⟨rfl, rfl⟩ d_R_sees_14
set_option maxHeartbeats 1000000 in
set_option maxRecDepth 20000 in
theorem c_R_seenBy_g (l : Launch) (E : QE) (S : QM) (ν : Nat → Int32) (hν : S 16 = ν) (hwf : WF ν) (t : Nat) (ht : t < nT ν) : qCI E l y_R_seenBy prog_7_method_42_code 2 .int 6 [.ref (eA E 70), .int (nI t)] S (snbS ν t) S := by
  refine qCI_of (by decide) (Nat.le_of_ble_eq_true rfl) (fun p e s m below meth c ls X hW hl => ?_)
  have hl : lv_has ls 2 [(0, .ref (eA E 70)), (1, .int (nI t))] := hl
  have htl := hwf.tl
  have hwl := hwf.wl
  have hdl := hwf.dl
  refine lv_aload_n X.x X.b d_R_seenBy_0 rfl (lv_at hl 0 rfl) ?_
  refine lv_iload_n X.x X.b d_R_seenBy_1 rfl (lv_at hl 1 rfl) ?_
  refine q_cvi X (c_R_isThing l E S ν (by rw [hν]) hwf (nI t)) hW (q_recv X hW ds_R rfl) ok_R_isThing mw_809 ⟨by decide, by decide⟩ (As := [.int (nI t)]) rfl rfl (Nat.le_of_ble_eq_true rfl) (lv := [(0, .ref (eA E 70)), (1, .int (nI t))]) hl ⟨Nat.le_refl 0, Nat.le_refl 0⟩ d_R_seenBy_2 (fun H locs hW => ?_)
  refine lv_if_eq (tgt := 16) X.x X.b d_R_seenBy_5 (by decide) (fun c5 => ?_) (fun c5 => ?_)
  · have c5 := b2i_e c5
    have c5 := mt (isT_i hwf (by omega)).mpr c5
    omega
  · have c5 := b2i_n c5
    have c5 := (isT_i hwf (by omega)).mp c5
    refine lv_aload_n X.x X.b d_R_seenBy_8 rfl (lv_at hl 0 rfl) ?_
    refine lv_iload_n X.x X.b d_R_seenBy_9 rfl (lv_at hl 1 rfl) ?_
    refine q_cvi X (c_R_seers l E S ν (by rw [hν]) hwf t (by omega)) hW (q_recv X hW ds_R rfl) ok_R_seers mw_879 ⟨by decide, by decide⟩ (As := [.int (nI t)]) rfl rfl (Nat.le_of_ble_eq_true rfl) (lv := [(0, .ref (eA E 70)), (1, .int (nI t))]) hl ⟨Nat.le_refl 0, Nat.le_refl 0⟩ d_R_seenBy_10 (fun H locs hW => ?_)
    refine lv_goto (tgt := 22) X.x X.b d_R_seenBy_13 (by decide) ?_
    exact q_zret X rfl hW ⟨rfl, rfl⟩ d_R_seenBy_22
set_option maxHeartbeats 1000000 in
set_option maxRecDepth 20000 in
theorem c_R_seenBy_b (l : Launch) (E : QE) (S : QM) (ν : Nat → Int32) (hν : S 16 = ν) (hwf : WF ν) (ψ : Nat → Int32) (hψ : S 19 = ψ) (x : Int32) (h : ¬ (isT ν x)) : qCI E l y_R_seenBy prog_7_method_42_code 2 .int 6 [.ref (eA E 70), .int x] S (-1000001) (qr S 19 (fnR ψ 0)) := by
  refine qCI_of (by decide) (Nat.le_of_ble_eq_true rfl) (fun p e s m below meth c ls X hW hl => ?_)
  have hl : lv_has ls 2 [(0, .ref (eA E 70)), (1, .int x)] := hl
  have htl := hwf.tl
  have hwl := hwf.wl
  have hdl := hwf.dl
  refine lv_aload_n X.x X.b d_R_seenBy_0 rfl (lv_at hl 0 rfl) ?_
  refine lv_iload_n X.x X.b d_R_seenBy_1 rfl (lv_at hl 1 rfl) ?_
  refine q_cvi X (c_R_isThing l E S ν (by rw [hν]) hwf x) hW (q_recv X hW ds_R rfl) ok_R_isThing mw_809 ⟨by decide, by decide⟩ (As := [.int x]) rfl rfl (Nat.le_of_ble_eq_true rfl) (lv := [(0, .ref (eA E 70)), (1, .int x)]) hl ⟨Nat.le_refl 0, Nat.le_refl 0⟩ d_R_seenBy_2 (fun H locs hW => ?_)
  refine lv_if_eq (tgt := 16) X.x X.b d_R_seenBy_5 (by decide) (fun c5 => ?_) (fun c5 => ?_)
  · have c5 := b2i_e c5
    refine lv_aload_n X.x X.b d_R_seenBy_16 rfl (lv_at hl 0 rfl) ?_
    refine lv_ldc (v := (-1000001)) X.x X.b X.ow (X.ts _ mw_767) d_R_seenBy_17 ?_
    refine q_cvi X (c_R_finding_0 l E S ψ (by rw [hψ])) hW (q_recv X hW ds_R rfl) ok_R_finding mw_768 ⟨by decide, by decide⟩ (As := [.int (-1000001)]) rfl rfl (Nat.le_of_ble_eq_true rfl) (lv := [(0, .ref (eA E 70)), (1, .int x)]) hl ⟨Nat.le_refl 0, Nat.le_refl 0⟩ d_R_seenBy_19 (fun H locs hW => ?_)
    have hW : qWH E (qr S 19 (fnR ψ 0)) s H locs := hW
    exact q_zret X rfl hW ⟨rfl, rfl⟩ d_R_seenBy_22
  · have c5 := b2i_n c5
    exact absurd c5 h
set_option maxHeartbeats 1000000 in
set_option maxRecDepth 20000 in
theorem c_R_go_g (l : Launch) (E : QE) (S : QM) (ν : Nat → Int32) (hν : S 16 = ν) (hwf : WF ν) (n : Nat) (h1 : 1 ≤ n) (hn : n ≤ 60) (hs : nD ν + n ≤ 99999) : qCI E l y_R_go prog_7_method_50_code 2 .int 9 [.ref (eA E 70), .int (nI n)] S (sumS (daysS n ν) 4) (qr S 16 (daysS n ν)) := by
  refine qCI_of (by decide) (Nat.le_of_ble_eq_true rfl) (fun p e s m below meth c ls X hW hl => ?_)
  have hl : lv_has ls 2 [(0, .ref (eA E 70)), (1, .int (nI n))] := hl
  have htl := hwf.tl
  have hwl := hwf.wl
  have hdl := hwf.dl
  refine lv_iload_n X.x X.b d_R_go_0 rfl (lv_at hl 1 rfl) ?_
  refine lv_iconst (v := nI 1) X.x X.b d_R_go_1 (by decide) ?_
  refine lv_bipush (v := nI 60) X.x X.b d_R_go_2 (by decide) ?_
  refine q_csi X (c_R_within l E S (nI n) (nI 1) (nI 60)) hW ok_R_within mw_757 ⟨by decide, by decide⟩ (As := [.int (nI n), .int (nI 1), .int (nI 60)]) rfl rfl (Nat.le_of_ble_eq_true rfl) (lv := [(0, .ref (eA E 70)), (1, .int (nI n))]) hl ⟨Nat.le_refl 0, Nat.le_refl 0⟩ d_R_go_4 (fun H locs hW => ?_)
  refine lv_if_ne (tgt := 17) X.x X.b d_R_go_7 (by decide) (fun c7 => ?_) (fun c7 => ?_)
  · have c7 := b2i_n c7
    have c7 := (inR_i (by omega) (by decide)).mp c7
    refine lv_aload_n X.x X.b d_R_go_17 rfl (lv_at hl 0 rfl) ?_
    refine q_getr X hW qj4 rfl _ ds_R 0 (by decide) mw_686 rfl (c1 := 71) rfl d_R_go_18 ?_
    refine lv_iconst (v := nI 0) X.x X.b d_R_go_21 (by decide) ?_
    refine g_ald X hW ds_71 (q_in (by omega) (by decide)) (p0 := 0) (q_tn (by omega) (by omega)) (v := ν 0) (by rw [hν]) d_R_go_22 ?_
    rw [hwf.d]
    refine lv_iload_n X.x X.b d_R_go_23 rfl (lv_at hl 1 rfl) ?_
    refine lv_iadd X.x X.b d_R_go_24 ?_
    rw [nI_add]
    refine lv_ldc (v := nI 99999) X.x X.b X.ow (X.ts _ mw_887) d_R_go_25 ?_
    refine lv_icmp_le (tgt := 37) X.x X.b d_R_go_27 (by decide) (fun c27 => ?_) (fun c27 => ?_)
    · have c27 : ((nD ν) + n) ≤ 99999 := (nI_leI (a := ((nD ν) + n)) (b := 99999) (by omega) (by omega)).mp c27
      refine lv_aload_n X.x X.b d_R_go_37 rfl (lv_at hl 0 rfl) ?_
      refine lv_iload_n X.x X.b d_R_go_38 rfl (lv_at hl 1 rfl) ?_
      refine q_cvv X (c_R_daysGo l E S ν (by rw [hν]) hwf n (by omega)) hW (q_recv X hW ds_R rfl) ok_R_daysGo mw_889 ⟨by decide, by decide⟩ (As := [.int (nI n)]) rfl rfl (Nat.le_of_ble_eq_true rfl) (lv := [(0, .ref (eA E 70)), (1, .int (nI n))]) hl ⟨Nat.le_refl 0, Nat.le_refl 0⟩ d_R_go_39 (fun H locs hW => ?_)
      have hW : qWH E (qr S 16 (daysS n ν)) s H locs := hW
      have hdw := dF hwf n
      refine lv_aload_n X.x X.b d_R_go_42 rfl (lv_at hl 0 rfl) ?_
      refine lv_iconst (v := nI 4) X.x X.b d_R_go_43 (by decide) ?_
      refine q_cvi X (c_R_sumOf l E (qr S 16 (daysS n ν)) (daysS n ν) (by rw [qr_at]) hdw 4 (by omega)) hW (q_recv X hW ds_R rfl) ok_R_sumOf mw_923 ⟨by decide, by decide⟩ (As := [.int (nI 4)]) rfl rfl (Nat.le_of_ble_eq_true rfl) (lv := [(0, .ref (eA E 70)), (1, .int (nI n))]) hl ⟨Nat.le_refl 0, Nat.le_refl 0⟩ d_R_go_44 (fun H locs hW => ?_)
      exact q_zret X rfl hW ⟨rfl, rfl⟩ d_R_go_47
    · have c27 : ¬ ((nD ν) + n) ≤ 99999 := fun z => c27 ((nI_leI (a := ((nD ν) + n)) (b := 99999) (by omega) (by omega)).mpr z)
      omega
  · have c7 := b2i_e c7
    have c7 := mt (inR_i (by omega) (by decide)).mpr c7
    omega
set_option maxHeartbeats 1000000 in
set_option maxRecDepth 20000 in
theorem c_R_go_s (l : Launch) (E : QE) (S : QM) (ν : Nat → Int32) (hν : S 16 = ν) (hwf : WF ν) (ψ : Nat → Int32) (hψ : S 19 = ψ) (n : Nat) (h1 : 1 ≤ n) (hn : n ≤ 60) (hs : ¬ nD ν + n ≤ 99999) : qCI E l y_R_go prog_7_method_50_code 2 .int 9 [.ref (eA E 70), .int (nI n)] S (-1000005) (qr S 19 (fnR ψ 4)) := by
  refine qCI_of (by decide) (Nat.le_of_ble_eq_true rfl) (fun p e s m below meth c ls X hW hl => ?_)
  have hl : lv_has ls 2 [(0, .ref (eA E 70)), (1, .int (nI n))] := hl
  have htl := hwf.tl
  have hwl := hwf.wl
  have hdl := hwf.dl
  refine lv_iload_n X.x X.b d_R_go_0 rfl (lv_at hl 1 rfl) ?_
  refine lv_iconst (v := nI 1) X.x X.b d_R_go_1 (by decide) ?_
  refine lv_bipush (v := nI 60) X.x X.b d_R_go_2 (by decide) ?_
  refine q_csi X (c_R_within l E S (nI n) (nI 1) (nI 60)) hW ok_R_within mw_757 ⟨by decide, by decide⟩ (As := [.int (nI n), .int (nI 1), .int (nI 60)]) rfl rfl (Nat.le_of_ble_eq_true rfl) (lv := [(0, .ref (eA E 70)), (1, .int (nI n))]) hl ⟨Nat.le_refl 0, Nat.le_refl 0⟩ d_R_go_4 (fun H locs hW => ?_)
  refine lv_if_ne (tgt := 17) X.x X.b d_R_go_7 (by decide) (fun c7 => ?_) (fun c7 => ?_)
  · have c7 := b2i_n c7
    have c7 := (inR_i (by omega) (by decide)).mp c7
    refine lv_aload_n X.x X.b d_R_go_17 rfl (lv_at hl 0 rfl) ?_
    refine q_getr X hW qj4 rfl _ ds_R 0 (by decide) mw_686 rfl (c1 := 71) rfl d_R_go_18 ?_
    refine lv_iconst (v := nI 0) X.x X.b d_R_go_21 (by decide) ?_
    refine g_ald X hW ds_71 (q_in (by omega) (by decide)) (p0 := 0) (q_tn (by omega) (by omega)) (v := ν 0) (by rw [hν]) d_R_go_22 ?_
    rw [hwf.d]
    refine lv_iload_n X.x X.b d_R_go_23 rfl (lv_at hl 1 rfl) ?_
    refine lv_iadd X.x X.b d_R_go_24 ?_
    rw [nI_add]
    refine lv_ldc (v := nI 99999) X.x X.b X.ow (X.ts _ mw_887) d_R_go_25 ?_
    refine lv_icmp_le (tgt := 37) X.x X.b d_R_go_27 (by decide) (fun c27 => ?_) (fun c27 => ?_)
    · have c27 : ((nD ν) + n) ≤ 99999 := (nI_leI (a := ((nD ν) + n)) (b := 99999) (by omega) (by omega)).mp c27
      omega
    · have c27 : ¬ ((nD ν) + n) ≤ 99999 := fun z => c27 ((nI_leI (a := ((nD ν) + n)) (b := 99999) (by omega) (by omega)).mpr z)
      refine lv_aload_n X.x X.b d_R_go_30 rfl (lv_at hl 0 rfl) ?_
      refine lv_ldc (v := (-1000005)) X.x X.b X.ow (X.ts _ mw_888) d_R_go_31 ?_
      refine q_cvi X (c_R_finding_4 l E S ψ (by rw [hψ])) hW (q_recv X hW ds_R rfl) ok_R_finding mw_768 ⟨by decide, by decide⟩ (As := [.int (-1000005)]) rfl rfl (Nat.le_of_ble_eq_true rfl) (lv := [(0, .ref (eA E 70)), (1, .int (nI n))]) hl ⟨Nat.le_refl 0, Nat.le_refl 0⟩ d_R_go_33 (fun H locs hW => ?_)
      have hW : qWH E (qr S 19 (fnR ψ 4)) s H locs := hW
      exact q_zret X rfl hW ⟨rfl, rfl⟩ d_R_go_36
  · have c7 := b2i_e c7
    have c7 := mt (inR_i (by omega) (by decide)).mpr c7
    omega
set_option maxHeartbeats 1000000 in
set_option maxRecDepth 20000 in
theorem c_R_go_b (l : Launch) (E : QE) (S : QM) (ν : Nat → Int32) (hν : S 16 = ν) (hwf : WF ν) (ψ : Nat → Int32) (hψ : S 19 = ψ) (x : Int32) (h : ¬ (inR 1 60 x)) : qCI E l y_R_go prog_7_method_50_code 2 .int 9 [.ref (eA E 70), .int x] S (-1000001) (qr S 19 (fnR ψ 0)) := by
  refine qCI_of (by decide) (Nat.le_of_ble_eq_true rfl) (fun p e s m below meth c ls X hW hl => ?_)
  have hl : lv_has ls 2 [(0, .ref (eA E 70)), (1, .int x)] := hl
  have htl := hwf.tl
  have hwl := hwf.wl
  have hdl := hwf.dl
  refine lv_iload_n X.x X.b d_R_go_0 rfl (lv_at hl 1 rfl) ?_
  refine lv_iconst (v := nI 1) X.x X.b d_R_go_1 (by decide) ?_
  refine lv_bipush (v := nI 60) X.x X.b d_R_go_2 (by decide) ?_
  refine q_csi X (c_R_within l E S x (nI 1) (nI 60)) hW ok_R_within mw_757 ⟨by decide, by decide⟩ (As := [.int x, .int (nI 1), .int (nI 60)]) rfl rfl (Nat.le_of_ble_eq_true rfl) (lv := [(0, .ref (eA E 70)), (1, .int x)]) hl ⟨Nat.le_refl 0, Nat.le_refl 0⟩ d_R_go_4 (fun H locs hW => ?_)
  refine lv_if_ne (tgt := 17) X.x X.b d_R_go_7 (by decide) (fun c7 => ?_) (fun c7 => ?_)
  · have c7 := b2i_n c7
    exact absurd c7 h
  · have c7 := b2i_e c7
    refine lv_aload_n X.x X.b d_R_go_10 rfl (lv_at hl 0 rfl) ?_
    refine lv_ldc (v := (-1000001)) X.x X.b X.ow (X.ts _ mw_767) d_R_go_11 ?_
    refine q_cvi X (c_R_finding_0 l E S ψ (by rw [hψ])) hW (q_recv X hW ds_R rfl) ok_R_finding mw_768 ⟨by decide, by decide⟩ (As := [.int (-1000001)]) rfl rfl (Nat.le_of_ble_eq_true rfl) (lv := [(0, .ref (eA E 70)), (1, .int x)]) hl ⟨Nat.le_refl 0, Nat.le_refl 0⟩ d_R_go_13 (fun H locs hW => ?_)
    have hW : qWH E (qr S 19 (fnR ψ 0)) s H locs := hW
    exact q_zret X rfl hW ⟨rfl, rfl⟩ d_R_go_16
set_option maxHeartbeats 1000000 in
set_option maxRecDepth 20000 in
theorem c_R_now_0 (l : Launch) (E : QE) (S : QM) (ν : Nat → Int32) (hν : S 16 = ν) (hwf : WF ν)  : qCI E l y_R_now prog_7_method_56_code 2 .int 7 [.ref (eA E 70), .int (nI 0)] S (ν 0) S := by
  refine qCI_of (by decide) (Nat.le_of_ble_eq_true rfl) (fun p e s m below meth c ls X hW hl => ?_)
  have hl : lv_has ls 2 [(0, .ref (eA E 70)), (1, .int (nI 0))] := hl
  have htl := hwf.tl
  have hwl := hwf.wl
  have hdl := hwf.dl
  refine lv_iload_n X.x X.b d_R_now_0 rfl (lv_at hl 1 rfl) ?_
  refine lv_tableIn (tgt := 48) (off := 47) X.x X.b d_R_now_1 (by decide) (by decide) (by decide) (by decide) ?_
  refine lv_aload_n X.x X.b d_R_now_48 rfl (lv_at hl 0 rfl) ?_
  refine q_getr X hW qj4 rfl _ ds_R 0 (by decide) mw_686 rfl (c1 := 71) rfl d_R_now_49 ?_
  refine lv_iconst (v := nI 0) X.x X.b d_R_now_52 (by decide) ?_
  refine g_ald X hW ds_71 (q_in (by omega) (by decide)) (p0 := 0) (q_tn (by omega) (by omega)) (v := ν 0) (by rw [hν]) d_R_now_53 ?_
  exact q_zret X rfl hW ⟨rfl, rfl⟩ d_R_now_54
set_option maxHeartbeats 1000000 in
set_option maxRecDepth 20000 in
theorem c_R_now_1 (l : Launch) (E : QE) (S : QM) (ν : Nat → Int32) (hν : S 16 = ν) (hwf : WF ν)  : qCI E l y_R_now prog_7_method_56_code 2 .int 7 [.ref (eA E 70), .int (nI 1)] S (sumS ν 4) S := by
  refine qCI_of (by decide) (Nat.le_of_ble_eq_true rfl) (fun p e s m below meth c ls X hW hl => ?_)
  have hl : lv_has ls 2 [(0, .ref (eA E 70)), (1, .int (nI 1))] := hl
  have htl := hwf.tl
  have hwl := hwf.wl
  have hdl := hwf.dl
  refine lv_iload_n X.x X.b d_R_now_0 rfl (lv_at hl 1 rfl) ?_
  refine lv_tableIn (tgt := 55) (off := 54) X.x X.b d_R_now_1 (by decide) (by decide) (by decide) (by decide) ?_
  refine lv_aload_n X.x X.b d_R_now_55 rfl (lv_at hl 0 rfl) ?_
  refine lv_iconst (v := nI 4) X.x X.b d_R_now_56 (by decide) ?_
  refine q_cvi X (c_R_sumOf l E S ν (by rw [hν]) hwf 4 (by omega)) hW (q_recv X hW ds_R rfl) ok_R_sumOf mw_923 ⟨by decide, by decide⟩ (As := [.int (nI 4)]) rfl rfl (Nat.le_of_ble_eq_true rfl) (lv := [(0, .ref (eA E 70)), (1, .int (nI 1))]) hl ⟨Nat.le_refl 0, Nat.le_refl 0⟩ d_R_now_57 (fun H locs hW => ?_)
  exact q_zret X rfl hW ⟨rfl, rfl⟩ d_R_now_60
set_option maxHeartbeats 1000000 in
set_option maxRecDepth 20000 in
theorem c_R_now_2 (l : Launch) (E : QE) (S : QM) (ν : Nat → Int32) (hν : S 16 = ν) (hwf : WF ν)  : qCI E l y_R_now prog_7_method_56_code 2 .int 7 [.ref (eA E 70), .int (nI 2)] S (sumS ν 5) S := by
  refine qCI_of (by decide) (Nat.le_of_ble_eq_true rfl) (fun p e s m below meth c ls X hW hl => ?_)
  have hl : lv_has ls 2 [(0, .ref (eA E 70)), (1, .int (nI 2))] := hl
  have htl := hwf.tl
  have hwl := hwf.wl
  have hdl := hwf.dl
  refine lv_iload_n X.x X.b d_R_now_0 rfl (lv_at hl 1 rfl) ?_
  refine lv_tableIn (tgt := 61) (off := 60) X.x X.b d_R_now_1 (by decide) (by decide) (by decide) (by decide) ?_
  refine lv_aload_n X.x X.b d_R_now_61 rfl (lv_at hl 0 rfl) ?_
  refine lv_iconst (v := nI 5) X.x X.b d_R_now_62 (by decide) ?_
  refine q_cvi X (c_R_sumOf l E S ν (by rw [hν]) hwf 5 (by omega)) hW (q_recv X hW ds_R rfl) ok_R_sumOf mw_923 ⟨by decide, by decide⟩ (As := [.int (nI 5)]) rfl rfl (Nat.le_of_ble_eq_true rfl) (lv := [(0, .ref (eA E 70)), (1, .int (nI 2))]) hl ⟨Nat.le_refl 0, Nat.le_refl 0⟩ d_R_now_63 (fun H locs hW => ?_)
  exact q_zret X rfl hW ⟨rfl, rfl⟩ d_R_now_66
set_option maxHeartbeats 1000000 in
set_option maxRecDepth 20000 in
theorem c_R_now_3 (l : Launch) (E : QE) (S : QM) (ν : Nat → Int32) (hν : S 16 = ν) (hwf : WF ν)  : qCI E l y_R_now prog_7_method_56_code 2 .int 7 [.ref (eA E 70), .int (nI 3)] S (setS (gdd ν) (nW ν)) S := by
  refine qCI_of (by decide) (Nat.le_of_ble_eq_true rfl) (fun p e s m below meth c ls X hW hl => ?_)
  have hl : lv_has ls 2 [(0, .ref (eA E 70)), (1, .int (nI 3))] := hl
  have htl := hwf.tl
  have hwl := hwf.wl
  have hdl := hwf.dl
  refine lv_iload_n X.x X.b d_R_now_0 rfl (lv_at hl 1 rfl) ?_
  refine lv_tableIn (tgt := 67) (off := 66) X.x X.b d_R_now_1 (by decide) (by decide) (by decide) (by decide) ?_
  refine lv_aload_n X.x X.b d_R_now_67 rfl (lv_at hl 0 rfl) ?_
  refine q_cvi X (c_R_goingOnes l E S ν (by rw [hν]) hwf) hW (q_recv X hW ds_R rfl) ok_R_goingOnes mw_931 ⟨by decide, by decide⟩ (As := []) rfl rfl (Nat.le_of_ble_eq_true rfl) (lv := [(0, .ref (eA E 70)), (1, .int (nI 3))]) hl ⟨Nat.le_refl 0, Nat.le_refl 0⟩ d_R_now_68 (fun H locs hW => ?_)
  exact q_zret X rfl hW ⟨rfl, rfl⟩ d_R_now_71
set_option maxHeartbeats 1000000 in
set_option maxRecDepth 20000 in
theorem c_R_now_4 (l : Launch) (E : QE) (S : QM) (ν : Nat → Int32) (hν : S 16 = ν) (hwf : WF ν)  : qCI E l y_R_now prog_7_method_56_code 2 .int 7 [.ref (eA E 70), .int (nI 4)] S (carS ν) S := by
  refine qCI_of (by decide) (Nat.le_of_ble_eq_true rfl) (fun p e s m below meth c ls X hW hl => ?_)
  have hl : lv_has ls 2 [(0, .ref (eA E 70)), (1, .int (nI 4))] := hl
  have htl := hwf.tl
  have hwl := hwf.wl
  have hdl := hwf.dl
  refine lv_iload_n X.x X.b d_R_now_0 rfl (lv_at hl 1 rfl) ?_
  refine lv_tableIn (tgt := 72) (off := 71) X.x X.b d_R_now_1 (by decide) (by decide) (by decide) (by decide) ?_
  refine lv_aload_n X.x X.b d_R_now_72 rfl (lv_at hl 0 rfl) ?_
  refine q_cvi X (c_R_caredFor l E S ν (by rw [hν]) hwf) hW (q_recv X hW ds_R rfl) ok_R_caredFor mw_935 ⟨by decide, by decide⟩ (As := []) rfl rfl (Nat.le_of_ble_eq_true rfl) (lv := [(0, .ref (eA E 70)), (1, .int (nI 4))]) hl ⟨Nat.le_refl 0, Nat.le_refl 0⟩ d_R_now_73 (fun H locs hW => ?_)
  exact q_zret X rfl hW ⟨rfl, rfl⟩ d_R_now_76
set_option maxHeartbeats 1000000 in
set_option maxRecDepth 20000 in
theorem c_R_now_5 (l : Launch) (E : QE) (S : QM) (ν : Nat → Int32) (hν : S 16 = ν) (hwf : WF ν)  : qCI E l y_R_now prog_7_method_56_code 2 .int 7 [.ref (eA E 70), .int (nI 5)] S (wcsS ν) S := by
  refine qCI_of (by decide) (Nat.le_of_ble_eq_true rfl) (fun p e s m below meth c ls X hW hl => ?_)
  have hl : lv_has ls 2 [(0, .ref (eA E 70)), (1, .int (nI 5))] := hl
  have htl := hwf.tl
  have hwl := hwf.wl
  have hdl := hwf.dl
  refine lv_iload_n X.x X.b d_R_now_0 rfl (lv_at hl 1 rfl) ?_
  refine lv_tableIn (tgt := 77) (off := 76) X.x X.b d_R_now_1 (by decide) (by decide) (by decide) (by decide) ?_
  refine lv_aload_n X.x X.b d_R_now_77 rfl (lv_at hl 0 rfl) ?_
  refine q_cvi X (c_R_walkersCells l E S ν (by rw [hν]) hwf) hW (q_recv X hW ds_R rfl) ok_R_walkersCells mw_939 ⟨by decide, by decide⟩ (As := []) rfl rfl (Nat.le_of_ble_eq_true rfl) (lv := [(0, .ref (eA E 70)), (1, .int (nI 5))]) hl ⟨Nat.le_refl 0, Nat.le_refl 0⟩ d_R_now_78 (fun H locs hW => ?_)
  exact q_zret X rfl hW ⟨rfl, rfl⟩ d_R_now_81
set_option maxHeartbeats 1000000 in
set_option maxRecDepth 20000 in
theorem c_R_now_6 (l : Launch) (E : QE) (S : QM) (ν : Nat → Int32) (hν : S 16 = ν) (hwf : WF ν)  : qCI E l y_R_now prog_7_method_56_code 2 .int 7 [.ref (eA E 70), .int (nI 6)] S (tcsS ν) S := by
  refine qCI_of (by decide) (Nat.le_of_ble_eq_true rfl) (fun p e s m below meth c ls X hW hl => ?_)
  have hl : lv_has ls 2 [(0, .ref (eA E 70)), (1, .int (nI 6))] := hl
  have htl := hwf.tl
  have hwl := hwf.wl
  have hdl := hwf.dl
  refine lv_iload_n X.x X.b d_R_now_0 rfl (lv_at hl 1 rfl) ?_
  refine lv_tableIn (tgt := 82) (off := 81) X.x X.b d_R_now_1 (by decide) (by decide) (by decide) (by decide) ?_
  refine lv_aload_n X.x X.b d_R_now_82 rfl (lv_at hl 0 rfl) ?_
  refine q_cvi X (c_R_thingsCells l E S ν (by rw [hν]) hwf) hW (q_recv X hW ds_R rfl) ok_R_thingsCells mw_943 ⟨by decide, by decide⟩ (As := []) rfl rfl (Nat.le_of_ble_eq_true rfl) (lv := [(0, .ref (eA E 70)), (1, .int (nI 6))]) hl ⟨Nat.le_refl 0, Nat.le_refl 0⟩ d_R_now_83 (fun H locs hW => ?_)
  exact q_zret X rfl hW ⟨rfl, rfl⟩ d_R_now_86
set_option maxHeartbeats 1000000 in
set_option maxRecDepth 20000 in
theorem c_R_now_7 (l : Launch) (E : QE) (S : QM) (ν : Nat → Int32) (hν : S 16 = ν) (hwf : WF ν)  : qCI E l y_R_now prog_7_method_56_code 2 .int 7 [.ref (eA E 70), .int (nI 7)] S (unsS ν) S := by
  refine qCI_of (by decide) (Nat.le_of_ble_eq_true rfl) (fun p e s m below meth c ls X hW hl => ?_)
  have hl : lv_has ls 2 [(0, .ref (eA E 70)), (1, .int (nI 7))] := hl
  have htl := hwf.tl
  have hwl := hwf.wl
  have hdl := hwf.dl
  refine lv_iload_n X.x X.b d_R_now_0 rfl (lv_at hl 1 rfl) ?_
  refine lv_tableIn (tgt := 87) (off := 86) X.x X.b d_R_now_1 (by decide) (by decide) (by decide) (by decide) ?_
  refine lv_aload_n X.x X.b d_R_now_87 rfl (lv_at hl 0 rfl) ?_
  refine q_cvi X (c_R_unseen l E S ν (by rw [hν]) hwf) hW (q_recv X hW ds_R rfl) ok_R_unseen mw_947 ⟨by decide, by decide⟩ (As := []) rfl rfl (Nat.le_of_ble_eq_true rfl) (lv := [(0, .ref (eA E 70)), (1, .int (nI 7))]) hl ⟨Nat.le_refl 0, Nat.le_refl 0⟩ d_R_now_88 (fun H locs hW => ?_)
  exact q_zret X rfl hW ⟨rfl, rfl⟩ d_R_now_91
set_option maxHeartbeats 1000000 in
set_option maxRecDepth 20000 in
theorem c_R_now_b (l : Launch) (E : QE) (S : QM) (ν : Nat → Int32) (hν : S 16 = ν) (hwf : WF ν) (ψ : Nat → Int32) (hψ : S 19 = ψ) (x : Int32) (h : ¬ (inR 0 7 x)) : qCI E l y_R_now prog_7_method_56_code 2 .int 7 [.ref (eA E 70), .int x] S (-1000001) (qr S 19 (fnR ψ 0)) := by
  refine qCI_of (by decide) (Nat.le_of_ble_eq_true rfl) (fun p e s m below meth c ls X hW hl => ?_)
  have hl : lv_has ls 2 [(0, .ref (eA E 70)), (1, .int x)] := hl
  have htl := hwf.tl
  have hwl := hwf.wl
  have hdl := hwf.dl
  refine lv_iload_n X.x X.b d_R_now_0 rfl (lv_at hl 1 rfl) ?_
  by_cases c1_0 : x = nI 0
  · exact absurd (show inR 0 7 x by rw [c1_0]; exact (inR_i (by omega) (by decide)).mpr (by omega)) h
  by_cases c1_1 : x = nI 1
  · exact absurd (show inR 0 7 x by rw [c1_1]; exact (inR_i (by omega) (by decide)).mpr (by omega)) h
  by_cases c1_2 : x = nI 2
  · exact absurd (show inR 0 7 x by rw [c1_2]; exact (inR_i (by omega) (by decide)).mpr (by omega)) h
  by_cases c1_3 : x = nI 3
  · exact absurd (show inR 0 7 x by rw [c1_3]; exact (inR_i (by omega) (by decide)).mpr (by omega)) h
  by_cases c1_4 : x = nI 4
  · exact absurd (show inR 0 7 x by rw [c1_4]; exact (inR_i (by omega) (by decide)).mpr (by omega)) h
  by_cases c1_5 : x = nI 5
  · exact absurd (show inR 0 7 x by rw [c1_5]; exact (inR_i (by omega) (by decide)).mpr (by omega)) h
  by_cases c1_6 : x = nI 6
  · exact absurd (show inR 0 7 x by rw [c1_6]; exact (inR_i (by omega) (by decide)).mpr (by omega)) h
  by_cases c1_7 : x = nI 7
  · exact absurd (show inR 0 7 x by rw [c1_7]; exact (inR_i (by omega) (by decide)).mpr (by omega)) h
  refine lv_tableOut (tgt := 92) X.x X.b d_R_now_1 (by have qc1_0 := lv_neT c1_0 (by decide : Int32.toInt (nI 0) = 0); have qc1_1 := lv_neT c1_1 (by decide : Int32.toInt (nI 1) = 1); have qc1_2 := lv_neT c1_2 (by decide : Int32.toInt (nI 2) = 2); have qc1_3 := lv_neT c1_3 (by decide : Int32.toInt (nI 3) = 3); have qc1_4 := lv_neT c1_4 (by decide : Int32.toInt (nI 4) = 4); have qc1_5 := lv_neT c1_5 (by decide : Int32.toInt (nI 5) = 5); have qc1_6 := lv_neT c1_6 (by decide : Int32.toInt (nI 6) = 6); have qc1_7 := lv_neT c1_7 (by decide : Int32.toInt (nI 7) = 7); omega) (by decide) ?_
  refine lv_aload_n X.x X.b d_R_now_92 rfl (lv_at hl 0 rfl) ?_
  refine lv_ldc (v := (-1000001)) X.x X.b X.ow (X.ts _ mw_767) d_R_now_93 ?_
  refine q_cvi X (c_R_finding_0 l E S ψ (by rw [hψ])) hW (q_recv X hW ds_R rfl) ok_R_finding mw_768 ⟨by decide, by decide⟩ (As := [.int (-1000001)]) rfl rfl (Nat.le_of_ble_eq_true rfl) (lv := [(0, .ref (eA E 70)), (1, .int x)]) hl ⟨Nat.le_refl 0, Nat.le_refl 0⟩ d_R_now_95 (fun H locs hW => ?_)
  have hW : qWH E (qr S 19 (fnR ψ 0)) s H locs := hW
  exact q_zret X rfl hW ⟨rfl, rfl⟩ d_R_now_98
