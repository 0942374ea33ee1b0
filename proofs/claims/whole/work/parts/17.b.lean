theorem d_R_copyRow_0 : decode prog_7_method_5_code 0 = .ok (.iconst 0, 1) := by decide +kernel
theorem d_R_copyRow_1 : decode prog_7_method_5_code 1 = .ok (.istore_n 2, 1) := by decide +kernel
theorem d_R_copyRow_2 : decode prog_7_method_5_code 2 = .ok (.iload_n 2, 1) := by decide +kernel
theorem d_R_copyRow_3 : decode prog_7_method_5_code 3 = .ok (.bipush 80, 2) := by decide +kernel
theorem d_R_copyRow_5 : decode prog_7_method_5_code 5 = .ok (.if_icmp .ge 15, 3) := by decide +kernel
theorem d_R_copyRow_8 : decode prog_7_method_5_code 8 = .ok (.aload_n 1, 1) := by decide +kernel
theorem d_R_copyRow_9 : decode prog_7_method_5_code 9 = .ok (.iload_n 2, 1) := by decide +kernel
theorem d_R_copyRow_10 : decode prog_7_method_5_code 10 = .ok (.aload_n 0, 1) := by decide +kernel
theorem d_R_copyRow_11 : decode prog_7_method_5_code 11 = .ok (.iload_n 2, 1) := by decide +kernel
theorem d_R_copyRow_12 : decode prog_7_method_5_code 12 = .ok (.iaload, 1) := by decide +kernel
theorem d_R_copyRow_13 : decode prog_7_method_5_code 13 = .ok (.iastore, 1) := by decide +kernel
theorem d_R_copyRow_14 : decode prog_7_method_5_code 14 = .ok (.iinc 2 1, 3) := by decide +kernel
theorem d_R_copyRow_17 : decode prog_7_method_5_code 17 = .ok (.goto (-15), 3) := by decide +kernel
theorem d_R_copyRow_20 : decode prog_7_method_5_code 20 = .ok (.return_, 1) := by decide +kernel
theorem d_R_putBack_0 : decode prog_7_method_6_code 0 = .ok (.aload_n 0, 1) := by decide +kernel
theorem d_R_putBack_1 : decode prog_7_method_6_code 1 = .ok (.getfield 16, 3) := by decide +kernel
theorem d_R_putBack_4 : decode prog_7_method_6_code 4 = .ok (.aload_n 0, 1) := by decide +kernel
theorem d_R_putBack_5 : decode prog_7_method_6_code 5 = .ok (.getfield 9, 3) := by decide +kernel
theorem d_R_putBack_8 : decode prog_7_method_6_code 8 = .ok (.invokestatic 61, 3) := by decide +kernel
theorem d_R_putBack_11 : decode prog_7_method_6_code 11 = .ok (.iload_n 1, 1) := by decide +kernel
theorem d_R_putBack_12 : decode prog_7_method_6_code 12 = .ok (.ireturn, 1) := by decide +kernel
theorem d_R_orNone_0 : decode prog_7_method_7_code 0 = .ok (.iload_n 1, 1) := by decide +kernel
theorem d_R_orNone_1 : decode prog_7_method_7_code 1 = .ok (.ifCond .ge 12, 3) := by decide +kernel
theorem d_R_orNone_13 : decode prog_7_method_7_code 13 = .ok (.iload_n 1, 1) := by decide +kernel
theorem d_R_orNone_14 : decode prog_7_method_7_code 14 = .ok (.ireturn, 1) := by decide +kernel
theorem d_R_orNone_4 : decode prog_7_method_7_code 4 = .ok (.aload_n 0, 1) := by decide +kernel
theorem d_R_orNone_5 : decode prog_7_method_7_code 5 = .ok (.ldc 65, 2) := by decide +kernel
theorem d_R_orNone_7 : decode prog_7_method_7_code 7 = .ok (.invokevirtual 66, 3) := by decide +kernel
theorem d_R_orNone_10 : decode prog_7_method_7_code 10 = .ok (.goto 4, 3) := by decide +kernel
theorem d_R_behind_0 : decode prog_7_method_57_code 0 = .ok (.aload_n 0, 1) := by decide +kernel
theorem d_R_behind_1 : decode prog_7_method_57_code 1 = .ok (.getfield 9, 3) := by decide +kernel
theorem d_R_behind_4 : decode prog_7_method_57_code 4 = .ok (.aload_n 0, 1) := by decide +kernel
theorem d_R_behind_5 : decode prog_7_method_57_code 5 = .ok (.getfield 16, 3) := by decide +kernel
theorem d_R_behind_8 : decode prog_7_method_57_code 8 = .ok (.invokestatic 61, 3) := by decide +kernel
theorem d_R_behind_11 : decode prog_7_method_57_code 11 = .ok (.aload_n 0, 1) := by decide +kernel
theorem d_R_behind_12 : decode prog_7_method_57_code 12 = .ok (.iload_n 2, 1) := by decide +kernel
theorem d_R_behind_13 : decode prog_7_method_57_code 13 = .ok (.invokevirtual 186, 3) := by decide +kernel
theorem d_R_behind_16 : decode prog_7_method_57_code 16 = .ok (.aload_n 0, 1) := by decide +kernel
theorem d_R_behind_17 : decode prog_7_method_57_code 17 = .ok (.aload_n 0, 1) := by decide +kernel
theorem d_R_behind_18 : decode prog_7_method_57_code 18 = .ok (.getfield 9, 3) := by decide +kernel
theorem d_R_behind_21 : decode prog_7_method_57_code 21 = .ok (.iload_n 1, 1) := by decide +kernel
theorem d_R_behind_22 : decode prog_7_method_57_code 22 = .ok (.iaload, 1) := by decide +kernel
theorem d_R_behind_23 : decode prog_7_method_57_code 23 = .ok (.invokevirtual 208, 3) := by decide +kernel
theorem d_R_behind_26 : decode prog_7_method_57_code 26 = .ok (.ireturn, 1) := by decide +kernel
theorem d_R_ahead_0 : decode prog_7_method_58_code 0 = .ok (.aload_n 0, 1) := by decide +kernel
theorem d_R_ahead_1 : decode prog_7_method_58_code 1 = .ok (.iload_n 1, 1) := by decide +kernel
theorem d_R_ahead_2 : decode prog_7_method_58_code 2 = .ok (.invokevirtual 116, 3) := by decide +kernel
theorem d_R_ahead_5 : decode prog_7_method_58_code 5 = .ok (.ifCond .eq 35, 3) := by decide +kernel
theorem d_R_ahead_8 : decode prog_7_method_58_code 8 = .ok (.iload_n 2, 1) := by decide +kernel
theorem d_R_ahead_9 : decode prog_7_method_58_code 9 = .ok (.iconst 1, 1) := by decide +kernel
theorem d_R_ahead_10 : decode prog_7_method_58_code 10 = .ok (.iconst 2, 1) := by decide +kernel
theorem d_R_ahead_11 : decode prog_7_method_58_code 11 = .ok (.invokestatic 70, 3) := by decide +kernel
theorem d_R_ahead_14 : decode prog_7_method_58_code 14 = .ok (.ifCond .eq 26, 3) := by decide +kernel
theorem d_R_ahead_17 : decode prog_7_method_58_code 17 = .ok (.iload_n 3, 1) := by decide +kernel
theorem d_R_ahead_18 : decode prog_7_method_58_code 18 = .ok (.iconst 0, 1) := by decide +kernel
theorem d_R_ahead_19 : decode prog_7_method_58_code 19 = .ok (.bipush 100, 2) := by decide +kernel
theorem d_R_ahead_21 : decode prog_7_method_58_code 21 = .ok (.invokestatic 70, 3) := by decide +kernel
theorem d_R_ahead_24 : decode prog_7_method_58_code 24 = .ok (.ifCond .eq 16, 3) := by decide +kernel
theorem d_R_ahead_27 : decode prog_7_method_58_code 27 = .ok (.aload_n 0, 1) := by decide +kernel
theorem d_R_ahead_28 : decode prog_7_method_58_code 28 = .ok (.iload_n 1, 1) := by decide +kernel
theorem d_R_ahead_29 : decode prog_7_method_58_code 29 = .ok (.iload_n 2, 1) := by decide +kernel
theorem d_R_ahead_30 : decode prog_7_method_58_code 30 = .ok (.invokestatic 85, 3) := by decide +kernel
theorem d_R_ahead_33 : decode prog_7_method_58_code 33 = .ok (.iload_n 3, 1) := by decide +kernel
theorem d_R_ahead_34 : decode prog_7_method_58_code 34 = .ok (.invokevirtual 211, 3) := by decide +kernel
theorem d_R_ahead_37 : decode prog_7_method_58_code 37 = .ok (.goto 9, 3) := by decide +kernel
theorem d_R_ahead_46 : decode prog_7_method_58_code 46 = .ok (.ireturn, 1) := by decide +kernel
theorem d_R_ahead_40 : decode prog_7_method_58_code 40 = .ok (.aload_n 0, 1) := by decide +kernel
theorem d_R_ahead_41 : decode prog_7_method_58_code 41 = .ok (.ldc 60, 2) := by decide +kernel
theorem d_R_ahead_43 : decode prog_7_method_58_code 43 = .ok (.invokevirtual 66, 3) := by decide +kernel
theorem d_R_later_0 : decode prog_7_method_59_code 0 = .ok (.iload_n 2, 1) := by decide +kernel
theorem d_R_later_1 : decode prog_7_method_59_code 1 = .ok (.ifCond .eq 12, 3) := by decide +kernel
theorem d_R_later_13 : decode prog_7_method_59_code 13 = .ok (.iconst 1, 1) := by decide +kernel
theorem d_R_later_14 : decode prog_7_method_59_code 14 = .ok (.goto 4, 3) := by decide +kernel
theorem d_R_later_18 : decode prog_7_method_59_code 18 = .ok (.istore 4, 2) := by decide +kernel
theorem d_R_later_20 : decode prog_7_method_59_code 20 = .ok (.aload_n 0, 1) := by decide +kernel
theorem d_R_later_21 : decode prog_7_method_59_code 21 = .ok (.iload_n 1, 1) := by decide +kernel
theorem d_R_later_22 : decode prog_7_method_59_code 22 = .ok (.invokevirtual 122, 3) := by decide +kernel
theorem d_R_later_25 : decode prog_7_method_59_code 25 = .ok (.ifCond .eq 31, 3) := by decide +kernel
theorem d_R_later_28 : decode prog_7_method_59_code 28 = .ok (.iload 4, 2) := by decide +kernel
theorem d_R_later_30 : decode prog_7_method_59_code 30 = .ok (.ifCond .eq 26, 3) := by decide +kernel
theorem d_R_later_33 : decode prog_7_method_59_code 33 = .ok (.iload_n 3, 1) := by decide +kernel
theorem d_R_later_34 : decode prog_7_method_59_code 34 = .ok (.iconst 0, 1) := by decide +kernel
theorem d_R_later_35 : decode prog_7_method_59_code 35 = .ok (.bipush 100, 2) := by decide +kernel
theorem d_R_later_37 : decode prog_7_method_59_code 37 = .ok (.invokestatic 70, 3) := by decide +kernel
theorem d_R_later_40 : decode prog_7_method_59_code 40 = .ok (.ifCond .eq 16, 3) := by decide +kernel
theorem d_R_later_43 : decode prog_7_method_59_code 43 = .ok (.aload_n 0, 1) := by decide +kernel
theorem d_R_later_44 : decode prog_7_method_59_code 44 = .ok (.iload_n 1, 1) := by decide +kernel
theorem d_R_later_45 : decode prog_7_method_59_code 45 = .ok (.iload_n 2, 1) := by decide +kernel
theorem d_R_later_46 : decode prog_7_method_59_code 46 = .ok (.invokestatic 88, 3) := by decide +kernel
theorem d_R_later_49 : decode prog_7_method_59_code 49 = .ok (.iload_n 3, 1) := by decide +kernel
theorem d_R_later_50 : decode prog_7_method_59_code 50 = .ok (.invokevirtual 211, 3) := by decide +kernel
theorem d_R_later_53 : decode prog_7_method_59_code 53 = .ok (.goto 9, 3) := by decide +kernel
theorem d_R_later_62 : decode prog_7_method_59_code 62 = .ok (.ireturn, 1) := by decide +kernel
theorem d_R_later_4 : decode prog_7_method_59_code 4 = .ok (.iload_n 2, 1) := by decide +kernel
theorem d_R_later_5 : decode prog_7_method_59_code 5 = .ok (.iconst 3, 1) := by decide +kernel
theorem d_R_later_6 : decode prog_7_method_59_code 6 = .ok (.iconst 5, 1) := by decide +kernel
theorem d_R_later_7 : decode prog_7_method_59_code 7 = .ok (.invokestatic 70, 3) := by decide +kernel
theorem d_R_later_10 : decode prog_7_method_59_code 10 = .ok (.ifCond .eq 7, 3) := by decide +kernel
theorem d_R_later_17 : decode prog_7_method_59_code 17 = .ok (.iconst 0, 1) := by decide +kernel
theorem d_R_later_56 : decode prog_7_method_59_code 56 = .ok (.aload_n 0, 1) := by decide +kernel
theorem d_R_later_57 : decode prog_7_method_59_code 57 = .ok (.ldc 60, 2) := by decide +kernel
theorem d_R_later_59 : decode prog_7_method_59_code 59 = .ok (.invokevirtual 66, 3) := by decide +kernel
theorem d_R_areTogether_0 : decode prog_7_method_62_code 0 = .ok (.aload_n 0, 1) := by decide +kernel
theorem d_R_areTogether_1 : decode prog_7_method_62_code 1 = .ok (.iload_n 1, 1) := by decide +kernel
theorem d_R_areTogether_2 : decode prog_7_method_62_code 2 = .ok (.iconst 0, 1) := by decide +kernel
theorem d_R_areTogether_3 : decode prog_7_method_62_code 3 = .ok (.invokevirtual 125, 3) := by decide +kernel
theorem d_R_areTogether_6 : decode prog_7_method_62_code 6 = .ok (.aload_n 0, 1) := by decide +kernel
theorem d_R_areTogether_7 : decode prog_7_method_62_code 7 = .ok (.iload_n 2, 1) := by decide +kernel
theorem d_R_areTogether_8 : decode prog_7_method_62_code 8 = .ok (.iconst 0, 1) := by decide +kernel
theorem d_R_areTogether_9 : decode prog_7_method_62_code 9 = .ok (.invokevirtual 125, 3) := by decide +kernel
theorem d_R_areTogether_12 : decode prog_7_method_62_code 12 = .ok (.if_icmp .ne 7, 3) := by decide +kernel
theorem d_R_areTogether_15 : decode prog_7_method_62_code 15 = .ok (.iconst 1, 1) := by decide +kernel
theorem d_R_areTogether_16 : decode prog_7_method_62_code 16 = .ok (.goto 4, 3) := by decide +kernel
theorem d_R_areTogether_19 : decode prog_7_method_62_code 19 = .ok (.iconst 0, 1) := by decide +kernel
theorem d_R_areTogether_20 : decode prog_7_method_62_code 20 = .ok (.ireturn, 1) := by decide +kernel
theorem d_R_arrives_0 : decode prog_7_method_60_code 0 = .ok (.aload_n 0, 1) := by decide +kernel
theorem d_R_arrives_1 : decode prog_7_method_60_code 1 = .ok (.iload_n 1, 1) := by decide +kernel
theorem d_R_arrives_2 : decode prog_7_method_60_code 2 = .ok (.invokevirtual 122, 3) := by decide +kernel
theorem d_R_arrives_5 : decode prog_7_method_60_code 5 = .ok (.ifCond .eq 14, 3) := by decide +kernel
theorem d_R_arrives_8 : decode prog_7_method_60_code 8 = .ok (.iload_n 2, 1) := by decide +kernel
theorem d_R_arrives_9 : decode prog_7_method_60_code 9 = .ok (.iconst 0, 1) := by decide +kernel
theorem d_R_arrives_10 : decode prog_7_method_60_code 10 = .ok (.sipush 9999, 3) := by decide +kernel
theorem d_R_arrives_13 : decode prog_7_method_60_code 13 = .ok (.invokestatic 70, 3) := by decide +kernel
theorem d_R_arrives_16 : decode prog_7_method_60_code 16 = .ok (.ifCond .ne 10, 3) := by decide +kernel
theorem d_R_arrives_26 : decode prog_7_method_60_code 26 = .ok (.aload_n 0, 1) := by decide +kernel
theorem d_R_arrives_27 : decode prog_7_method_60_code 27 = .ok (.getfield 9, 3) := by decide +kernel
theorem d_R_arrives_30 : decode prog_7_method_60_code 30 = .ok (.aload_n 0, 1) := by decide +kernel
theorem d_R_arrives_31 : decode prog_7_method_60_code 31 = .ok (.getfield 16, 3) := by decide +kernel
theorem d_R_arrives_34 : decode prog_7_method_60_code 34 = .ok (.invokestatic 61, 3) := by decide +kernel
theorem d_R_arrives_37 : decode prog_7_method_60_code 37 = .ok (.iconst 0, 1) := by decide +kernel
theorem d_R_arrives_38 : decode prog_7_method_60_code 38 = .ok (.istore_n 3, 1) := by decide +kernel
theorem d_R_arrives_39 : decode prog_7_method_60_code 39 = .ok (.iload_n 3, 1) := by decide +kernel
theorem d_R_arrives_40 : decode prog_7_method_60_code 40 = .ok (.sipush 200, 3) := by decide +kernel
theorem d_R_arrives_43 : decode prog_7_method_60_code 43 = .ok (.if_icmp .ge 23, 3) := by decide +kernel
theorem d_R_arrives_46 : decode prog_7_method_60_code 46 = .ok (.aload_n 0, 1) := by decide +kernel
theorem d_R_arrives_47 : decode prog_7_method_60_code 47 = .ok (.iload_n 1, 1) := by decide +kernel
theorem d_R_arrives_48 : decode prog_7_method_60_code 48 = .ok (.iconst 4, 1) := by decide +kernel
theorem d_R_arrives_49 : decode prog_7_method_60_code 49 = .ok (.invokevirtual 125, 3) := by decide +kernel
theorem d_R_arrives_52 : decode prog_7_method_60_code 52 = .ok (.iload_n 2, 1) := by decide +kernel
theorem d_R_arrives_53 : decode prog_7_method_60_code 53 = .ok (.if_icmp .ge 13, 3) := by decide +kernel
theorem d_R_arrives_56 : decode prog_7_method_60_code 56 = .ok (.aload_n 0, 1) := by decide +kernel
theorem d_R_arrives_57 : decode prog_7_method_60_code 57 = .ok (.invokevirtual 182, 3) := by decide +kernel
theorem d_R_arrives_60 : decode prog_7_method_60_code 60 = .ok (.iinc 3 1, 3) := by decide +kernel
theorem d_R_arrives_63 : decode prog_7_method_60_code 63 = .ok (.goto (-24), 3) := by decide +kernel
theorem d_R_arrives_66 : decode prog_7_method_60_code 66 = .ok (.aload_n 0, 1) := by decide +kernel
theorem d_R_arrives_67 : decode prog_7_method_60_code 67 = .ok (.aload_n 0, 1) := by decide +kernel
theorem d_R_arrives_68 : decode prog_7_method_60_code 68 = .ok (.aload_n 0, 1) := by decide +kernel
theorem d_R_arrives_69 : decode prog_7_method_60_code 69 = .ok (.iload_n 1, 1) := by decide +kernel
theorem d_R_arrives_70 : decode prog_7_method_60_code 70 = .ok (.iconst 4, 1) := by decide +kernel
theorem d_R_arrives_71 : decode prog_7_method_60_code 71 = .ok (.invokevirtual 125, 3) := by decide +kernel
theorem d_R_arrives_74 : decode prog_7_method_60_code 74 = .ok (.iload_n 2, 1) := by decide +kernel
theorem d_R_arrives_75 : decode prog_7_method_60_code 75 = .ok (.if_icmp .ge 7, 3) := by decide +kernel
theorem d_R_arrives_82 : decode prog_7_method_60_code 82 = .ok (.iload_n 3, 1) := by decide +kernel
theorem d_R_arrives_83 : decode prog_7_method_60_code 83 = .ok (.invokevirtual 208, 3) := by decide +kernel
theorem d_R_arrives_86 : decode prog_7_method_60_code 86 = .ok (.invokevirtual 214, 3) := by decide +kernel
theorem d_R_arrives_89 : decode prog_7_method_60_code 89 = .ok (.ireturn, 1) := by decide +kernel
theorem d_R_arrives_78 : decode prog_7_method_60_code 78 = .ok (.iconst (-1), 1) := by decide +kernel
theorem d_R_arrives_79 : decode prog_7_method_60_code 79 = .ok (.goto 4, 3) := by decide +kernel
theorem d_R_arrives_19 : decode prog_7_method_60_code 19 = .ok (.aload_n 0, 1) := by decide +kernel
theorem d_R_arrives_20 : decode prog_7_method_60_code 20 = .ok (.ldc 60, 2) := by decide +kernel
theorem d_R_arrives_22 : decode prog_7_method_60_code 22 = .ok (.invokevirtual 66, 3) := by decide +kernel
theorem d_R_arrives_25 : decode prog_7_method_60_code 25 = .ok (.ireturn, 1) := by decide +kernel
theorem d_R_spies_0 : decode prog_7_method_61_code 0 = .ok (.aload_n 0, 1) := by decide +kernel
theorem d_R_spies_1 : decode prog_7_method_61_code 1 = .ok (.iload_n 1, 1) := by decide +kernel
theorem d_R_spies_2 : decode prog_7_method_61_code 2 = .ok (.invokevirtual 122, 3) := by decide +kernel
theorem d_R_spies_5 : decode prog_7_method_61_code 5 = .ok (.ifCond .eq 11, 3) := by decide +kernel
theorem d_R_spies_8 : decode prog_7_method_61_code 8 = .ok (.aload_n 0, 1) := by decide +kernel
theorem d_R_spies_9 : decode prog_7_method_61_code 9 = .ok (.iload_n 2, 1) := by decide +kernel
theorem d_R_spies_10 : decode prog_7_method_61_code 10 = .ok (.invokevirtual 116, 3) := by decide +kernel
theorem d_R_spies_13 : decode prog_7_method_61_code 13 = .ok (.ifCond .ne 10, 3) := by decide +kernel
theorem d_R_spies_23 : decode prog_7_method_61_code 23 = .ok (.aload_n 0, 1) := by decide +kernel
theorem d_R_spies_24 : decode prog_7_method_61_code 24 = .ok (.getfield 9, 3) := by decide +kernel
theorem d_R_spies_27 : decode prog_7_method_61_code 27 = .ok (.aload_n 0, 1) := by decide +kernel
theorem d_R_spies_28 : decode prog_7_method_61_code 28 = .ok (.getfield 16, 3) := by decide +kernel
theorem d_R_spies_31 : decode prog_7_method_61_code 31 = .ok (.invokestatic 61, 3) := by decide +kernel
theorem d_R_spies_34 : decode prog_7_method_61_code 34 = .ok (.iconst 0, 1) := by decide +kernel
theorem d_R_spies_35 : decode prog_7_method_61_code 35 = .ok (.istore_n 3, 1) := by decide +kernel
theorem d_R_spies_36 : decode prog_7_method_61_code 36 = .ok (.iload_n 3, 1) := by decide +kernel
theorem d_R_spies_37 : decode prog_7_method_61_code 37 = .ok (.sipush 200, 3) := by decide +kernel
theorem d_R_spies_40 : decode prog_7_method_61_code 40 = .ok (.if_icmp .ge 22, 3) := by decide +kernel
theorem d_R_spies_43 : decode prog_7_method_61_code 43 = .ok (.aload_n 0, 1) := by decide +kernel
theorem d_R_spies_44 : decode prog_7_method_61_code 44 = .ok (.iload_n 1, 1) := by decide +kernel
theorem d_R_spies_45 : decode prog_7_method_61_code 45 = .ok (.iload_n 2, 1) := by decide +kernel
theorem d_R_spies_46 : decode prog_7_method_61_code 46 = .ok (.invokevirtual 146, 3) := by decide +kernel
theorem d_R_spies_49 : decode prog_7_method_61_code 49 = .ok (.ifCond .ne 13, 3) := by decide +kernel
theorem d_R_spies_52 : decode prog_7_method_61_code 52 = .ok (.aload_n 0, 1) := by decide +kernel
theorem d_R_spies_53 : decode prog_7_method_61_code 53 = .ok (.invokevirtual 182, 3) := by decide +kernel
theorem d_R_spies_56 : decode prog_7_method_61_code 56 = .ok (.iinc 3 1, 3) := by decide +kernel
theorem d_R_spies_59 : decode prog_7_method_61_code 59 = .ok (.goto (-23), 3) := by decide +kernel
theorem d_R_spies_62 : decode prog_7_method_61_code 62 = .ok (.aload_n 0, 1) := by decide +kernel
theorem d_R_spies_63 : decode prog_7_method_61_code 63 = .ok (.aload_n 0, 1) := by decide +kernel
theorem d_R_spies_64 : decode prog_7_method_61_code 64 = .ok (.aload_n 0, 1) := by decide +kernel
theorem d_R_spies_65 : decode prog_7_method_61_code 65 = .ok (.iload_n 1, 1) := by decide +kernel
theorem d_R_spies_66 : decode prog_7_method_61_code 66 = .ok (.iload_n 2, 1) := by decide +kernel
theorem d_R_spies_67 : decode prog_7_method_61_code 67 = .ok (.invokevirtual 146, 3) := by decide +kernel
theorem d_R_spies_70 : decode prog_7_method_61_code 70 = .ok (.ifCond .eq 7, 3) := by decide +kernel
theorem d_R_spies_73 : decode prog_7_method_61_code 73 = .ok (.iload_n 3, 1) := by decide +kernel
theorem d_R_spies_74 : decode prog_7_method_61_code 74 = .ok (.goto 4, 3) := by decide +kernel
theorem d_R_spies_78 : decode prog_7_method_61_code 78 = .ok (.invokevirtual 208, 3) := by decide +kernel
theorem d_R_spies_81 : decode prog_7_method_61_code 81 = .ok (.invokevirtual 214, 3) := by decide +kernel
theorem d_R_spies_84 : decode prog_7_method_61_code 84 = .ok (.ireturn, 1) := by decide +kernel
theorem d_R_spies_77 : decode prog_7_method_61_code 77 = .ok (.iconst (-1), 1) := by decide +kernel
theorem d_R_spies_16 : decode prog_7_method_61_code 16 = .ok (.aload_n 0, 1) := by decide +kernel
theorem d_R_spies_17 : decode prog_7_method_61_code 17 = .ok (.ldc 60, 2) := by decide +kernel
theorem d_R_spies_19 : decode prog_7_method_61_code 19 = .ok (.invokevirtual 66, 3) := by decide +kernel
theorem d_R_spies_22 : decode prog_7_method_61_code 22 = .ok (.ireturn, 1) := by decide +kernel
theorem d_R_meet_0 : decode prog_7_method_63_code 0 = .ok (.aload_n 0, 1) := by decide +kernel
theorem d_R_meet_1 : decode prog_7_method_63_code 1 = .ok (.iload_n 1, 1) := by decide +kernel
theorem d_R_meet_2 : decode prog_7_method_63_code 2 = .ok (.invokevirtual 122, 3) := by decide +kernel
theorem d_R_meet_5 : decode prog_7_method_63_code 5 = .ok (.ifCond .eq 16, 3) := by decide +kernel
theorem d_R_meet_8 : decode prog_7_method_63_code 8 = .ok (.aload_n 0, 1) := by decide +kernel
theorem d_R_meet_9 : decode prog_7_method_63_code 9 = .ok (.iload_n 2, 1) := by decide +kernel
theorem d_R_meet_10 : decode prog_7_method_63_code 10 = .ok (.invokevirtual 122, 3) := by decide +kernel
theorem d_R_meet_13 : decode prog_7_method_63_code 13 = .ok (.ifCond .eq 8, 3) := by decide +kernel
theorem d_R_meet_16 : decode prog_7_method_63_code 16 = .ok (.iload_n 1, 1) := by decide +kernel
theorem d_R_meet_17 : decode prog_7_method_63_code 17 = .ok (.iload_n 2, 1) := by decide +kernel
theorem d_R_meet_18 : decode prog_7_method_63_code 18 = .ok (.if_icmp .ne 10, 3) := by decide +kernel
theorem d_R_meet_28 : decode prog_7_method_63_code 28 = .ok (.aload_n 0, 1) := by decide +kernel
theorem d_R_meet_29 : decode prog_7_method_63_code 29 = .ok (.getfield 9, 3) := by decide +kernel
theorem d_R_meet_32 : decode prog_7_method_63_code 32 = .ok (.aload_n 0, 1) := by decide +kernel
theorem d_R_meet_33 : decode prog_7_method_63_code 33 = .ok (.getfield 16, 3) := by decide +kernel
theorem d_R_meet_36 : decode prog_7_method_63_code 36 = .ok (.invokestatic 61, 3) := by decide +kernel
theorem d_R_meet_39 : decode prog_7_method_63_code 39 = .ok (.iconst 0, 1) := by decide +kernel
theorem d_R_meet_40 : decode prog_7_method_63_code 40 = .ok (.istore_n 3, 1) := by decide +kernel
theorem d_R_meet_41 : decode prog_7_method_63_code 41 = .ok (.iload_n 3, 1) := by decide +kernel
theorem d_R_meet_42 : decode prog_7_method_63_code 42 = .ok (.sipush 200, 3) := by decide +kernel
theorem d_R_meet_45 : decode prog_7_method_63_code 45 = .ok (.if_icmp .ge 22, 3) := by decide +kernel
theorem d_R_meet_48 : decode prog_7_method_63_code 48 = .ok (.aload_n 0, 1) := by decide +kernel
theorem d_R_meet_49 : decode prog_7_method_63_code 49 = .ok (.iload_n 1, 1) := by decide +kernel
theorem d_R_meet_50 : decode prog_7_method_63_code 50 = .ok (.iload_n 2, 1) := by decide +kernel
theorem d_R_meet_51 : decode prog_7_method_63_code 51 = .ok (.invokevirtual 217, 3) := by decide +kernel
theorem d_R_meet_54 : decode prog_7_method_63_code 54 = .ok (.ifCond .ne 13, 3) := by decide +kernel
theorem d_R_meet_57 : decode prog_7_method_63_code 57 = .ok (.aload_n 0, 1) := by decide +kernel
theorem d_R_meet_58 : decode prog_7_method_63_code 58 = .ok (.invokevirtual 182, 3) := by decide +kernel
theorem d_R_meet_61 : decode prog_7_method_63_code 61 = .ok (.iinc 3 1, 3) := by decide +kernel
theorem d_R_meet_64 : decode prog_7_method_63_code 64 = .ok (.goto (-23), 3) := by decide +kernel
theorem d_R_meet_67 : decode prog_7_method_63_code 67 = .ok (.aload_n 0, 1) := by decide +kernel
theorem d_R_meet_68 : decode prog_7_method_63_code 68 = .ok (.aload_n 0, 1) := by decide +kernel
theorem d_R_meet_69 : decode prog_7_method_63_code 69 = .ok (.aload_n 0, 1) := by decide +kernel
theorem d_R_meet_70 : decode prog_7_method_63_code 70 = .ok (.iload_n 1, 1) := by decide +kernel
theorem d_R_meet_71 : decode prog_7_method_63_code 71 = .ok (.iload_n 2, 1) := by decide +kernel
theorem d_R_meet_72 : decode prog_7_method_63_code 72 = .ok (.invokevirtual 217, 3) := by decide +kernel
theorem d_R_meet_75 : decode prog_7_method_63_code 75 = .ok (.ifCond .eq 7, 3) := by decide +kernel
theorem d_R_meet_78 : decode prog_7_method_63_code 78 = .ok (.iload_n 3, 1) := by decide +kernel
theorem d_R_meet_79 : decode prog_7_method_63_code 79 = .ok (.goto 4, 3) := by decide +kernel
theorem d_R_meet_83 : decode prog_7_method_63_code 83 = .ok (.invokevirtual 208, 3) := by decide +kernel
theorem d_R_meet_86 : decode prog_7_method_63_code 86 = .ok (.invokevirtual 214, 3) := by decide +kernel
theorem d_R_meet_89 : decode prog_7_method_63_code 89 = .ok (.ireturn, 1) := by decide +kernel
theorem d_R_meet_82 : decode prog_7_method_63_code 82 = .ok (.iconst (-1), 1) := by decide +kernel
theorem d_R_meet_21 : decode prog_7_method_63_code 21 = .ok (.aload_n 0, 1) := by decide +kernel
theorem d_R_meet_22 : decode prog_7_method_63_code 22 = .ok (.ldc 60, 2) := by decide +kernel
theorem d_R_meet_24 : decode prog_7_method_63_code 24 = .ok (.invokevirtual 66, 3) := by decide +kernel
theorem d_R_meet_27 : decode prog_7_method_63_code 27 = .ok (.ireturn, 1) := by decide +kernel
theorem d_R_mostFor_0 : decode prog_7_method_65_code 0 = .ok (.aload_n 0, 1) := by decide +kernel
theorem d_R_mostFor_1 : decode prog_7_method_65_code 1 = .ok (.getfield 9, 3) := by decide +kernel
theorem d_R_mostFor_4 : decode prog_7_method_65_code 4 = .ok (.iload_n 1, 1) := by decide +kernel
theorem d_R_mostFor_5 : decode prog_7_method_65_code 5 = .ok (.iaload, 1) := by decide +kernel
theorem d_R_mostFor_6 : decode prog_7_method_65_code 6 = .ok (.istore 5, 2) := by decide +kernel
theorem d_R_mostFor_8 : decode prog_7_method_65_code 8 = .ok (.iconst 0, 1) := by decide +kernel
theorem d_R_mostFor_9 : decode prog_7_method_65_code 9 = .ok (.istore 6, 2) := by decide +kernel
theorem d_R_mostFor_11 : decode prog_7_method_65_code 11 = .ok (.iconst (-1), 1) := by decide +kernel
theorem d_R_mostFor_12 : decode prog_7_method_65_code 12 = .ok (.istore 7, 2) := by decide +kernel
theorem d_R_mostFor_14 : decode prog_7_method_65_code 14 = .ok (.iconst 0, 1) := by decide +kernel
theorem d_R_mostFor_15 : decode prog_7_method_65_code 15 = .ok (.istore 8, 2) := by decide +kernel
theorem d_R_mostFor_17 : decode prog_7_method_65_code 17 = .ok (.iload 8, 2) := by decide +kernel
theorem d_R_mostFor_19 : decode prog_7_method_65_code 19 = .ok (.iload_n 2, 1) := by decide +kernel
theorem d_R_mostFor_20 : decode prog_7_method_65_code 20 = .ok (.if_icmp .ge 41, 3) := by decide +kernel
theorem d_R_mostFor_23 : decode prog_7_method_65_code 23 = .ok (.aload_n 0, 1) := by decide +kernel
theorem d_R_mostFor_24 : decode prog_7_method_65_code 24 = .ok (.getfield 9, 3) := by decide +kernel
theorem d_R_mostFor_27 : decode prog_7_method_65_code 27 = .ok (.iload_n 1, 1) := by decide +kernel
theorem d_R_mostFor_28 : decode prog_7_method_65_code 28 = .ok (.iload 8, 2) := by decide +kernel
theorem d_R_mostFor_30 : decode prog_7_method_65_code 30 = .ok (.iastore, 1) := by decide +kernel
theorem d_R_mostFor_31 : decode prog_7_method_65_code 31 = .ok (.aload_n 0, 1) := by decide +kernel
theorem d_R_mostFor_32 : decode prog_7_method_65_code 32 = .ok (.iload_n 3, 1) := by decide +kernel
theorem d_R_mostFor_33 : decode prog_7_method_65_code 33 = .ok (.iload 4, 2) := by decide +kernel
theorem d_R_mostFor_35 : decode prog_7_method_65_code 35 = .ok (.invokevirtual 211, 3) := by decide +kernel
theorem d_R_mostFor_38 : decode prog_7_method_65_code 38 = .ok (.istore 9, 2) := by decide +kernel
theorem d_R_mostFor_40 : decode prog_7_method_65_code 40 = .ok (.iload 9, 2) := by decide +kernel
theorem d_R_mostFor_42 : decode prog_7_method_65_code 42 = .ok (.iload 7, 2) := by decide +kernel
theorem d_R_mostFor_44 : decode prog_7_method_65_code 44 = .ok (.if_icmp .le 11, 3) := by decide +kernel
theorem d_R_mostFor_47 : decode prog_7_method_65_code 47 = .ok (.iload 8, 2) := by decide +kernel
theorem d_R_mostFor_49 : decode prog_7_method_65_code 49 = .ok (.istore 6, 2) := by decide +kernel
theorem d_R_mostFor_51 : decode prog_7_method_65_code 51 = .ok (.iload 9, 2) := by decide +kernel
theorem d_R_mostFor_53 : decode prog_7_method_65_code 53 = .ok (.istore 7, 2) := by decide +kernel
theorem d_R_mostFor_55 : decode prog_7_method_65_code 55 = .ok (.iinc 8 1, 3) := by decide +kernel
theorem d_R_mostFor_58 : decode prog_7_method_65_code 58 = .ok (.goto (-41), 3) := by decide +kernel
theorem d_R_mostFor_61 : decode prog_7_method_65_code 61 = .ok (.aload_n 0, 1) := by decide +kernel
theorem d_R_mostFor_62 : decode prog_7_method_65_code 62 = .ok (.getfield 9, 3) := by decide +kernel
theorem d_R_mostFor_65 : decode prog_7_method_65_code 65 = .ok (.iload_n 1, 1) := by decide +kernel
theorem d_R_mostFor_66 : decode prog_7_method_65_code 66 = .ok (.iload 5, 2) := by decide +kernel
theorem d_R_mostFor_68 : decode prog_7_method_65_code 68 = .ok (.iastore, 1) := by decide +kernel
theorem d_R_mostFor_69 : decode prog_7_method_65_code 69 = .ok (.iload 6, 2) := by decide +kernel
theorem d_R_mostFor_71 : decode prog_7_method_65_code 71 = .ok (.ireturn, 1) := by decide +kernel
theorem d_R_startFor_0 : decode prog_7_method_66_code 0 = .ok (.aload_n 0, 1) := by decide +kernel
theorem d_R_startFor_1 : decode prog_7_method_66_code 1 = .ok (.iload_n 1, 1) := by decide +kernel
theorem d_R_startFor_2 : decode prog_7_method_66_code 2 = .ok (.invokevirtual 122, 3) := by decide +kernel
theorem d_R_startFor_5 : decode prog_7_method_66_code 5 = .ok (.ifCond .eq 30, 3) := by decide +kernel
theorem d_R_startFor_8 : decode prog_7_method_66_code 8 = .ok (.iload_n 2, 1) := by decide +kernel
theorem d_R_startFor_9 : decode prog_7_method_66_code 9 = .ok (.invokestatic 220, 3) := by decide +kernel
theorem d_R_startFor_12 : decode prog_7_method_66_code 12 = .ok (.ifCond .eq 23, 3) := by decide +kernel
theorem d_R_startFor_15 : decode prog_7_method_66_code 15 = .ok (.aload_n 0, 1) := by decide +kernel
theorem d_R_startFor_16 : decode prog_7_method_66_code 16 = .ok (.iload_n 1, 1) := by decide +kernel
theorem d_R_startFor_17 : decode prog_7_method_66_code 17 = .ok (.iconst 0, 1) := by decide +kernel
theorem d_R_startFor_18 : decode prog_7_method_66_code 18 = .ok (.invokestatic 88, 3) := by decide +kernel
theorem d_R_startFor_21 : decode prog_7_method_66_code 21 = .ok (.bipush 16, 2) := by decide +kernel
theorem d_R_startFor_23 : decode prog_7_method_66_code 23 = .ok (.iload_n 1, 1) := by decide +kernel
theorem d_R_startFor_24 : decode prog_7_method_66_code 24 = .ok (.iconst 4, 1) := by decide +kernel
theorem d_R_startFor_25 : decode prog_7_method_66_code 25 = .ok (.invokestatic 88, 3) := by decide +kernel
theorem d_R_startFor_28 : decode prog_7_method_66_code 28 = .ok (.iload_n 2, 1) := by decide +kernel
theorem d_R_startFor_29 : decode prog_7_method_66_code 29 = .ok (.invokevirtual 223, 3) := by decide +kernel
theorem d_R_startFor_32 : decode prog_7_method_66_code 32 = .ok (.goto 9, 3) := by decide +kernel
theorem d_R_startFor_41 : decode prog_7_method_66_code 41 = .ok (.ireturn, 1) := by decide +kernel
theorem d_R_startFor_35 : decode prog_7_method_66_code 35 = .ok (.aload_n 0, 1) := by decide +kernel
theorem d_R_startFor_36 : decode prog_7_method_66_code 36 = .ok (.ldc 60, 2) := by decide +kernel
theorem d_R_startFor_38 : decode prog_7_method_66_code 38 = .ok (.invokevirtual 66, 3) := by decide +kernel
theorem d_R_aimFor_0 : decode prog_7_method_67_code 0 = .ok (.aload_n 0, 1) := by decide +kernel
theorem d_R_aimFor_1 : decode prog_7_method_67_code 1 = .ok (.iload_n 1, 1) := by decide +kernel
theorem d_R_aimFor_2 : decode prog_7_method_67_code 2 = .ok (.invokevirtual 122, 3) := by decide +kernel
theorem d_R_aimFor_5 : decode prog_7_method_67_code 5 = .ok (.ifCond .eq 30, 3) := by decide +kernel
theorem d_R_aimFor_8 : decode prog_7_method_67_code 8 = .ok (.iload_n 2, 1) := by decide +kernel
theorem d_R_aimFor_9 : decode prog_7_method_67_code 9 = .ok (.invokestatic 220, 3) := by decide +kernel
theorem d_R_aimFor_12 : decode prog_7_method_67_code 12 = .ok (.ifCond .eq 23, 3) := by decide +kernel
theorem d_R_aimFor_15 : decode prog_7_method_67_code 15 = .ok (.aload_n 0, 1) := by decide +kernel
theorem d_R_aimFor_16 : decode prog_7_method_67_code 16 = .ok (.iload_n 1, 1) := by decide +kernel
theorem d_R_aimFor_17 : decode prog_7_method_67_code 17 = .ok (.iconst 1, 1) := by decide +kernel
theorem d_R_aimFor_18 : decode prog_7_method_67_code 18 = .ok (.invokestatic 88, 3) := by decide +kernel
theorem d_R_aimFor_21 : decode prog_7_method_67_code 21 = .ok (.bipush 8, 2) := by decide +kernel
theorem d_R_aimFor_23 : decode prog_7_method_67_code 23 = .ok (.iload_n 1, 1) := by decide +kernel
theorem d_R_aimFor_24 : decode prog_7_method_67_code 24 = .ok (.iconst 4, 1) := by decide +kernel
theorem d_R_aimFor_25 : decode prog_7_method_67_code 25 = .ok (.invokestatic 88, 3) := by decide +kernel
theorem d_R_aimFor_28 : decode prog_7_method_67_code 28 = .ok (.iload_n 2, 1) := by decide +kernel
theorem d_R_aimFor_29 : decode prog_7_method_67_code 29 = .ok (.invokevirtual 223, 3) := by decide +kernel
theorem d_R_aimFor_32 : decode prog_7_method_67_code 32 = .ok (.goto 9, 3) := by decide +kernel
theorem d_R_aimFor_41 : decode prog_7_method_67_code 41 = .ok (.ireturn, 1) := by decide +kernel
theorem d_R_aimFor_35 : decode prog_7_method_67_code 35 = .ok (.aload_n 0, 1) := by decide +kernel
theorem d_R_aimFor_36 : decode prog_7_method_67_code 36 = .ok (.ldc 60, 2) := by decide +kernel
theorem d_R_aimFor_38 : decode prog_7_method_67_code 38 = .ok (.invokevirtual 66, 3) := by decide +kernel
theorem d_R_kindFor_0 : decode prog_7_method_68_code 0 = .ok (.aload_n 0, 1) := by decide +kernel
theorem d_R_kindFor_1 : decode prog_7_method_68_code 1 = .ok (.iload_n 1, 1) := by decide +kernel
theorem d_R_kindFor_2 : decode prog_7_method_68_code 2 = .ok (.invokevirtual 116, 3) := by decide +kernel
theorem d_R_kindFor_5 : decode prog_7_method_68_code 5 = .ok (.ifCond .eq 30, 3) := by decide +kernel
theorem d_R_kindFor_8 : decode prog_7_method_68_code 8 = .ok (.iload_n 2, 1) := by decide +kernel
theorem d_R_kindFor_9 : decode prog_7_method_68_code 9 = .ok (.invokestatic 220, 3) := by decide +kernel
theorem d_R_kindFor_12 : decode prog_7_method_68_code 12 = .ok (.ifCond .eq 23, 3) := by decide +kernel
theorem d_R_kindFor_15 : decode prog_7_method_68_code 15 = .ok (.aload_n 0, 1) := by decide +kernel
theorem d_R_kindFor_16 : decode prog_7_method_68_code 16 = .ok (.iload_n 1, 1) := by decide +kernel
theorem d_R_kindFor_17 : decode prog_7_method_68_code 17 = .ok (.iconst 0, 1) := by decide +kernel
theorem d_R_kindFor_18 : decode prog_7_method_68_code 18 = .ok (.invokestatic 85, 3) := by decide +kernel
theorem d_R_kindFor_21 : decode prog_7_method_68_code 21 = .ok (.bipush 7, 2) := by decide +kernel
theorem d_R_kindFor_23 : decode prog_7_method_68_code 23 = .ok (.iload_n 1, 1) := by decide +kernel
theorem d_R_kindFor_24 : decode prog_7_method_68_code 24 = .ok (.iconst 2, 1) := by decide +kernel
theorem d_R_kindFor_25 : decode prog_7_method_68_code 25 = .ok (.invokestatic 85, 3) := by decide +kernel
theorem d_R_kindFor_28 : decode prog_7_method_68_code 28 = .ok (.iload_n 2, 1) := by decide +kernel
theorem d_R_kindFor_29 : decode prog_7_method_68_code 29 = .ok (.invokevirtual 223, 3) := by decide +kernel
theorem d_R_kindFor_32 : decode prog_7_method_68_code 32 = .ok (.goto 9, 3) := by decide +kernel
theorem d_R_kindFor_41 : decode prog_7_method_68_code 41 = .ok (.ireturn, 1) := by decide +kernel
theorem d_R_kindFor_35 : decode prog_7_method_68_code 35 = .ok (.aload_n 0, 1) := by decide +kernel
theorem d_R_kindFor_36 : decode prog_7_method_68_code 36 = .ok (.ldc 60, 2) := by decide +kernel
theorem d_R_kindFor_38 : decode prog_7_method_68_code 38 = .ok (.invokevirtual 66, 3) := by decide +kernel
theorem d_R_getsThere_0 : decode prog_7_method_69_code 0 = .ok (.aload_n 0, 1) := by decide +kernel
theorem d_R_getsThere_1 : decode prog_7_method_69_code 1 = .ok (.iload_n 1, 1) := by decide +kernel
theorem d_R_getsThere_2 : decode prog_7_method_69_code 2 = .ok (.iconst 4, 1) := by decide +kernel
theorem d_R_getsThere_3 : decode prog_7_method_69_code 3 = .ok (.invokestatic 88, 3) := by decide +kernel
theorem d_R_getsThere_6 : decode prog_7_method_69_code 6 = .ok (.iload_n 2, 1) := by decide +kernel
theorem d_R_getsThere_7 : decode prog_7_method_69_code 7 = .ok (.invokevirtual 211, 3) := by decide +kernel
theorem d_R_getsThere_10 : decode prog_7_method_69_code 10 = .ok (.aload_n 0, 1) := by decide +kernel
theorem d_R_getsThere_11 : decode prog_7_method_69_code 11 = .ok (.iload_n 1, 1) := by decide +kernel
theorem d_R_getsThere_12 : decode prog_7_method_69_code 12 = .ok (.iconst 4, 1) := by decide +kernel
theorem d_R_getsThere_13 : decode prog_7_method_69_code 13 = .ok (.invokevirtual 125, 3) := by decide +kernel
theorem d_R_getsThere_16 : decode prog_7_method_69_code 16 = .ok (.if_icmp .le 7, 3) := by decide +kernel
theorem d_R_getsThere_19 : decode prog_7_method_69_code 19 = .ok (.iconst 1, 1) := by decide +kernel
theorem d_R_getsThere_20 : decode prog_7_method_69_code 20 = .ok (.goto 4, 3) := by decide +kernel
theorem d_R_getsThere_23 : decode prog_7_method_69_code 23 = .ok (.iconst 0, 1) := by decide +kernel
theorem d_R_getsThere_24 : decode prog_7_method_69_code 24 = .ok (.ireturn, 1) := by decide +kernel
theorem d_R_paceFor_0 : decode prog_7_method_70_code 0 = .ok (.aload_n 0, 1) := by decide +kernel
theorem d_R_paceFor_1 : decode prog_7_method_70_code 1 = .ok (.iload_n 1, 1) := by decide +kernel
theorem d_R_paceFor_2 : decode prog_7_method_70_code 2 = .ok (.invokevirtual 122, 3) := by decide +kernel
theorem d_R_paceFor_5 : decode prog_7_method_70_code 5 = .ok (.ifCond .eq 10, 3) := by decide +kernel
theorem d_R_paceFor_8 : decode prog_7_method_70_code 8 = .ok (.iload_n 2, 1) := by decide +kernel
theorem d_R_paceFor_9 : decode prog_7_method_70_code 9 = .ok (.invokestatic 220, 3) := by decide +kernel
theorem d_R_paceFor_12 : decode prog_7_method_70_code 12 = .ok (.ifCond .ne 10, 3) := by decide +kernel
theorem d_R_paceFor_22 : decode prog_7_method_70_code 22 = .ok (.iload_n 1, 1) := by decide +kernel
theorem d_R_paceFor_23 : decode prog_7_method_70_code 23 = .ok (.iconst 2, 1) := by decide +kernel
theorem d_R_paceFor_24 : decode prog_7_method_70_code 24 = .ok (.invokestatic 88, 3) := by decide +kernel
theorem d_R_paceFor_27 : decode prog_7_method_70_code 27 = .ok (.istore_n 3, 1) := by decide +kernel
theorem d_R_paceFor_28 : decode prog_7_method_70_code 28 = .ok (.aload_n 0, 1) := by decide +kernel
theorem d_R_paceFor_29 : decode prog_7_method_70_code 29 = .ok (.getfield 9, 3) := by decide +kernel
theorem d_R_paceFor_32 : decode prog_7_method_70_code 32 = .ok (.iload_n 3, 1) := by decide +kernel
theorem d_R_paceFor_33 : decode prog_7_method_70_code 33 = .ok (.iaload, 1) := by decide +kernel
theorem d_R_paceFor_34 : decode prog_7_method_70_code 34 = .ok (.istore 4, 2) := by decide +kernel
theorem d_R_paceFor_36 : decode prog_7_method_70_code 36 = .ok (.iconst (-1), 1) := by decide +kernel
theorem d_R_paceFor_37 : decode prog_7_method_70_code 37 = .ok (.istore 5, 2) := by decide +kernel
theorem d_R_paceFor_39 : decode prog_7_method_70_code 39 = .ok (.iconst 5, 1) := by decide +kernel
theorem d_R_paceFor_40 : decode prog_7_method_70_code 40 = .ok (.istore 6, 2) := by decide +kernel
theorem d_R_paceFor_42 : decode prog_7_method_70_code 42 = .ok (.iload 6, 2) := by decide +kernel
theorem d_R_paceFor_44 : decode prog_7_method_70_code 44 = .ok (.ifCond .le 35, 3) := by decide +kernel
theorem d_R_paceFor_47 : decode prog_7_method_70_code 47 = .ok (.aload_n 0, 1) := by decide +kernel
theorem d_R_paceFor_48 : decode prog_7_method_70_code 48 = .ok (.getfield 9, 3) := by decide +kernel
theorem d_R_paceFor_51 : decode prog_7_method_70_code 51 = .ok (.iload_n 3, 1) := by decide +kernel
theorem d_R_paceFor_52 : decode prog_7_method_70_code 52 = .ok (.iload 6, 2) := by decide +kernel
theorem d_R_paceFor_54 : decode prog_7_method_70_code 54 = .ok (.iastore, 1) := by decide +kernel
theorem d_R_paceFor_55 : decode prog_7_method_70_code 55 = .ok (.aload_n 0, 1) := by decide +kernel
theorem d_R_paceFor_56 : decode prog_7_method_70_code 56 = .ok (.iload_n 1, 1) := by decide +kernel
theorem d_R_paceFor_57 : decode prog_7_method_70_code 57 = .ok (.iload_n 2, 1) := by decide +kernel
theorem d_R_paceFor_58 : decode prog_7_method_70_code 58 = .ok (.invokevirtual 227, 3) := by decide +kernel
theorem d_R_paceFor_61 : decode prog_7_method_70_code 61 = .ok (.ifCond .eq 8, 3) := by decide +kernel
theorem d_R_paceFor_64 : decode prog_7_method_70_code 64 = .ok (.iload 6, 2) := by decide +kernel
theorem d_R_paceFor_66 : decode prog_7_method_70_code 66 = .ok (.goto 5, 3) := by decide +kernel
theorem d_R_paceFor_69 : decode prog_7_method_70_code 69 = .ok (.iload 5, 2) := by decide +kernel
theorem d_R_paceFor_71 : decode prog_7_method_70_code 71 = .ok (.istore 5, 2) := by decide +kernel
theorem d_R_paceFor_73 : decode prog_7_method_70_code 73 = .ok (.iinc 6 (-1), 3) := by decide +kernel
theorem d_R_paceFor_76 : decode prog_7_method_70_code 76 = .ok (.goto (-34), 3) := by decide +kernel
theorem d_R_paceFor_79 : decode prog_7_method_70_code 79 = .ok (.aload_n 0, 1) := by decide +kernel
theorem d_R_paceFor_80 : decode prog_7_method_70_code 80 = .ok (.getfield 9, 3) := by decide +kernel
theorem d_R_paceFor_83 : decode prog_7_method_70_code 83 = .ok (.iload_n 3, 1) := by decide +kernel
theorem d_R_paceFor_84 : decode prog_7_method_70_code 84 = .ok (.iload 4, 2) := by decide +kernel
theorem d_R_paceFor_86 : decode prog_7_method_70_code 86 = .ok (.iastore, 1) := by decide +kernel
theorem d_R_paceFor_87 : decode prog_7_method_70_code 87 = .ok (.aload_n 0, 1) := by decide +kernel
theorem d_R_paceFor_88 : decode prog_7_method_70_code 88 = .ok (.iload 5, 2) := by decide +kernel
theorem d_R_paceFor_90 : decode prog_7_method_70_code 90 = .ok (.invokevirtual 214, 3) := by decide +kernel
theorem d_R_paceFor_93 : decode prog_7_method_70_code 93 = .ok (.ireturn, 1) := by decide +kernel
theorem d_R_paceFor_15 : decode prog_7_method_70_code 15 = .ok (.aload_n 0, 1) := by decide +kernel
theorem d_R_paceFor_16 : decode prog_7_method_70_code 16 = .ok (.ldc 60, 2) := by decide +kernel
theorem d_R_paceFor_18 : decode prog_7_method_70_code 18 = .ok (.invokevirtual 66, 3) := by decide +kernel
theorem d_R_paceFor_21 : decode prog_7_method_70_code 21 = .ok (.ireturn, 1) := by decide +kernel
theorem d_R_drawn_0 : decode prog_7_method_77_code 0 = .ok (.aload_n 0, 1) := by decide +kernel
theorem d_R_drawn_1 : decode prog_7_method_77_code 1 = .ok (.getfield 9, 3) := by decide +kernel
theorem d_R_drawn_4 : decode prog_7_method_77_code 4 = .ok (.iconst 2, 1) := by decide +kernel
theorem d_R_drawn_5 : decode prog_7_method_77_code 5 = .ok (.aload_n 0, 1) := by decide +kernel
theorem d_R_drawn_6 : decode prog_7_method_77_code 6 = .ok (.getfield 9, 3) := by decide +kernel
theorem d_R_drawn_9 : decode prog_7_method_77_code 9 = .ok (.iconst 2, 1) := by decide +kernel
theorem d_R_drawn_10 : decode prog_7_method_77_code 10 = .ok (.iaload, 1) := by decide +kernel
theorem d_R_drawn_11 : decode prog_7_method_77_code 11 = .ok (.ldc 247, 2) := by decide +kernel
theorem d_R_drawn_13 : decode prog_7_method_77_code 13 = .ok (.imul, 1) := by decide +kernel
theorem d_R_drawn_14 : decode prog_7_method_77_code 14 = .ok (.sipush 12345, 3) := by decide +kernel
theorem d_R_drawn_17 : decode prog_7_method_77_code 17 = .ok (.iadd, 1) := by decide +kernel
theorem d_R_drawn_18 : decode prog_7_method_77_code 18 = .ok (.iastore, 1) := by decide +kernel
theorem d_R_drawn_19 : decode prog_7_method_77_code 19 = .ok (.aload_n 0, 1) := by decide +kernel
theorem d_R_drawn_20 : decode prog_7_method_77_code 20 = .ok (.getfield 9, 3) := by decide +kernel
theorem d_R_drawn_23 : decode prog_7_method_77_code 23 = .ok (.iconst 2, 1) := by decide +kernel
theorem d_R_drawn_24 : decode prog_7_method_77_code 24 = .ok (.iaload, 1) := by decide +kernel
theorem d_R_drawn_25 : decode prog_7_method_77_code 25 = .ok (.bipush 8, 2) := by decide +kernel
theorem d_R_drawn_27 : decode prog_7_method_77_code 27 = .ok (.iushr, 1) := by decide +kernel
theorem d_R_drawn_28 : decode prog_7_method_77_code 28 = .ok (.ireturn, 1) := by decide +kernel
theorem d_R_morning_0 : decode prog_7_method_78_code 0 = .ok (.iload_n 1, 1) := by decide +kernel
theorem d_R_morning_1 : decode prog_7_method_78_code 1 = .ok (.iconst 1, 1) := by decide +kernel
theorem d_R_morning_2 : decode prog_7_method_78_code 2 = .ok (.bipush 20, 2) := by decide +kernel
theorem d_R_morning_4 : decode prog_7_method_78_code 4 = .ok (.invokestatic 70, 3) := by decide +kernel
theorem d_R_morning_7 : decode prog_7_method_78_code 7 = .ok (.ifCond .ne 10, 3) := by decide +kernel
theorem d_R_morning_17 : decode prog_7_method_78_code 17 = .ok (.aload_n 0, 1) := by decide +kernel
theorem d_R_morning_18 : decode prog_7_method_78_code 18 = .ok (.getfield 9, 3) := by decide +kernel
theorem d_R_morning_21 : decode prog_7_method_78_code 21 = .ok (.iconst 0, 1) := by decide +kernel
theorem d_R_morning_22 : decode prog_7_method_78_code 22 = .ok (.iaload, 1) := by decide +kernel
theorem d_R_morning_23 : decode prog_7_method_78_code 23 = .ok (.iload_n 1, 1) := by decide +kernel
theorem d_R_morning_24 : decode prog_7_method_78_code 24 = .ok (.iadd, 1) := by decide +kernel
theorem d_R_morning_25 : decode prog_7_method_78_code 25 = .ok (.ldc 181, 2) := by decide +kernel
theorem d_R_morning_27 : decode prog_7_method_78_code 27 = .ok (.if_icmp .le 10, 3) := by decide +kernel
theorem d_R_morning_37 : decode prog_7_method_78_code 37 = .ok (.iconst 0, 1) := by decide +kernel
theorem d_R_morning_38 : decode prog_7_method_78_code 38 = .ok (.istore_n 2, 1) := by decide +kernel
theorem d_R_morning_39 : decode prog_7_method_78_code 39 = .ok (.iload_n 2, 1) := by decide +kernel
theorem d_R_morning_40 : decode prog_7_method_78_code 40 = .ok (.iload_n 1, 1) := by decide +kernel
theorem d_R_morning_41 : decode prog_7_method_78_code 41 = .ok (.if_icmp .ge 46, 3) := by decide +kernel
theorem d_R_morning_44 : decode prog_7_method_78_code 44 = .ok (.aload_n 0, 1) := by decide +kernel
theorem d_R_morning_45 : decode prog_7_method_78_code 45 = .ok (.invokevirtual 248, 3) := by decide +kernel
theorem d_R_morning_48 : decode prog_7_method_78_code 48 = .ok (.bipush 6, 2) := by decide +kernel
theorem d_R_morning_50 : decode prog_7_method_78_code 50 = .ok (.irem, 1) := by decide +kernel
theorem d_R_morning_51 : decode prog_7_method_78_code 51 = .ok (.istore_n 3, 1) := by decide +kernel
theorem d_R_morning_52 : decode prog_7_method_78_code 52 = .ok (.aload_n 0, 1) := by decide +kernel
theorem d_R_morning_53 : decode prog_7_method_78_code 53 = .ok (.invokevirtual 248, 3) := by decide +kernel
theorem d_R_morning_56 : decode prog_7_method_78_code 56 = .ok (.bipush 8, 2) := by decide +kernel
theorem d_R_morning_58 : decode prog_7_method_78_code 58 = .ok (.irem, 1) := by decide +kernel
theorem d_R_morning_59 : decode prog_7_method_78_code 59 = .ok (.istore 4, 2) := by decide +kernel
theorem d_R_morning_61 : decode prog_7_method_78_code 61 = .ok (.aload_n 0, 1) := by decide +kernel
theorem d_R_morning_62 : decode prog_7_method_78_code 62 = .ok (.getfield 9, 3) := by decide +kernel
theorem d_R_morning_65 : decode prog_7_method_78_code 65 = .ok (.aload_n 0, 1) := by decide +kernel
theorem d_R_morning_66 : decode prog_7_method_78_code 66 = .ok (.invokevirtual 173, 3) := by decide +kernel
theorem d_R_morning_69 : decode prog_7_method_78_code 69 = .ok (.bipush 10, 2) := by decide +kernel
theorem d_R_morning_71 : decode prog_7_method_78_code 71 = .ok (.iload_n 3, 1) := by decide +kernel
theorem d_R_morning_72 : decode prog_7_method_78_code 72 = .ok (.imul, 1) := by decide +kernel
theorem d_R_morning_73 : decode prog_7_method_78_code 73 = .ok (.iload 4, 2) := by decide +kernel
theorem d_R_morning_75 : decode prog_7_method_78_code 75 = .ok (.iadd, 1) := by decide +kernel
theorem d_R_morning_76 : decode prog_7_method_78_code 76 = .ok (.iastore, 1) := by decide +kernel
theorem d_R_morning_77 : decode prog_7_method_78_code 77 = .ok (.aload_n 0, 1) := by decide +kernel
theorem d_R_morning_78 : decode prog_7_method_78_code 78 = .ok (.invokevirtual 182, 3) := by decide +kernel
theorem d_R_morning_81 : decode prog_7_method_78_code 81 = .ok (.iinc 2 1, 3) := by decide +kernel
theorem d_R_morning_84 : decode prog_7_method_78_code 84 = .ok (.goto (-45), 3) := by decide +kernel
theorem d_R_morning_87 : decode prog_7_method_78_code 87 = .ok (.aload_n 0, 1) := by decide +kernel
theorem d_R_morning_88 : decode prog_7_method_78_code 88 = .ok (.iconst 4, 1) := by decide +kernel
theorem d_R_morning_89 : decode prog_7_method_78_code 89 = .ok (.invokevirtual 190, 3) := by decide +kernel
theorem d_R_morning_92 : decode prog_7_method_78_code 92 = .ok (.ireturn, 1) := by decide +kernel
theorem d_R_morning_30 : decode prog_7_method_78_code 30 = .ok (.aload_n 0, 1) := by decide +kernel
theorem d_R_morning_31 : decode prog_7_method_78_code 31 = .ok (.ldc 185, 2) := by decide +kernel
theorem d_R_morning_33 : decode prog_7_method_78_code 33 = .ok (.invokevirtual 66, 3) := by decide +kernel
theorem d_R_morning_36 : decode prog_7_method_78_code 36 = .ok (.ireturn, 1) := by decide +kernel
theorem d_R_morning_10 : decode prog_7_method_78_code 10 = .ok (.aload_n 0, 1) := by decide +kernel
theorem d_R_morning_11 : decode prog_7_method_78_code 11 = .ok (.ldc 60, 2) := by decide +kernel
theorem d_R_morning_13 : decode prog_7_method_78_code 13 = .ok (.invokevirtual 66, 3) := by decide +kernel
theorem d_R_morning_16 : decode prog_7_method_78_code 16 = .ok (.ireturn, 1) := by decide +kernel
theorem d_R_seed_0 : decode prog_7_method_80_code 0 = .ok (.aload_n 0, 1) := by decide +kernel
theorem d_R_seed_1 : decode prog_7_method_80_code 1 = .ok (.iconst 2, 1) := by decide +kernel
theorem d_R_seed_2 : decode prog_7_method_80_code 2 = .ok (.iload_n 1, 1) := by decide +kernel
theorem d_R_seed_3 : decode prog_7_method_80_code 3 = .ok (.invokevirtual 81, 3) := by decide +kernel
theorem d_R_seed_6 : decode prog_7_method_80_code 6 = .ok (.ireturn, 1) := by decide +kernel
set_option maxHeartbeats 1000000 in
set_option maxRecDepth 20000 in
theorem c_R_copyRow_na (l : Launch) (E : QE) (S : QM) (f g : Nat → Int32) (hf : S 16 = f) (hg : S 18 = g) : qCV E l y_R_copyRow prog_7_method_5_code 3 1 [.ref (eA E 71), .ref (eA E 73)] S (qr S 18 (c80 f g 80)) := by
  refine qCV_of (by decide) (Nat.le_of_ble_eq_true rfl) (fun p e s m below meth c ls X hW hl => ?_)
  have hl : lv_has ls 3 [(0, .ref (eA E 71)), (1, .ref (eA E 73))] := hl
  refine lv_iconst (v := nI 0) X.x X.b d_R_copyRow_0 (by decide) ?_
  refine lv_istore_n (lv' := [(2, .int (nI 0)), (0, .ref (eA E 71)), (1, .ref (eA E 73))]) X.x X.b d_R_copyRow_1 rfl hl (by decide) rfl (fun ls hl => ?_)
  have hW : qWH E (qr S 18 g) s s.heap [] := by rw [← hg, qr_self]; exact hW
  have loop2 : ∀ (fu2 : Nat) (i : Nat) (μ : Nat → Int32), i ≤ 80 → μ = c80 f g i → 80 - i < fu2 → ∀ (H : Heap) (locs : List Loc) (ls : Array Slot), qWH E (qr S 18 μ) s H locs → lv_has ls 3 [(2, .int (nI i)), (0, .ref (eA E 71)), (1, .ref (eA E 73))] → W p l e (qRm 1) s m ([.ref (eA E 71), .ref (eA E 73)] : List Value).toArray below meth c H locs 0 0 (MQ below (qQv E (qr S 18 (c80 f g 80)) s.heap.size) ([.ref (eA E 71), .ref (eA E 73)] : List Value).toArray s 0 0 (qAA E s.heap.size)) (F0 m 2 ls []) := by
    intro fu2
    induction fu2 with
    | zero =>
      intro i μ hi hm hfu
      exact absurd hfu (Nat.not_lt_zero _)
    | succ fu2 ih2 =>
      intro i μ hi hm hfu H locs ls hW hl
      refine lv_iload_n X.x X.b d_R_copyRow_2 rfl (lv_at hl 0 rfl) ?_
      refine lv_bipush (v := nI 80) X.x X.b d_R_copyRow_3 (by decide) ?_
      refine lv_icmp_ge (tgt := 20) X.x X.b d_R_copyRow_5 (by decide) (fun c5 => ?_) (fun c5 => ?_)
      · have c5 : 80 ≤ i := (nI_leI (a := 80) (b := i) (by omega) (by omega)).mp c5
        exact q_vret X hW (by rw [hm, show i = 80 by omega]) d_R_copyRow_20
      · have c5 : ¬ 80 ≤ i := fun z => c5 ((nI_leI (a := 80) (b := i) (by omega) (by omega)).mpr z)
        refine lv_aload_n X.x X.b d_R_copyRow_8 rfl (lv_at hl 2 rfl) ?_
        refine lv_iload_n X.x X.b d_R_copyRow_9 rfl (lv_at hl 0 rfl) ?_
        refine lv_aload_n X.x X.b d_R_copyRow_10 rfl (lv_at hl 1 rfl) ?_
        refine lv_iload_n X.x X.b d_R_copyRow_11 rfl (lv_at hl 0 rfl) ?_
        refine g_ald X hW ds_71 (q_in (by omega) (by decide)) (p0 := i) (q_tn (by omega) (by omega)) (v := f i) (by rw [qr_ne (by omega), hf]) d_R_copyRow_12 ?_
        refine g_ast X hW ds_73 (q_in (by omega) (by decide)) (p0 := i) (q_tn (by omega) (by omega)) (ρ := μ) (by rw [qr_at]) d_R_copyRow_13 (fun H locs hW => ?_)
        obtain ⟨r13, er13⟩ : ∃ z, z = upd μ i (f i) := ⟨_, rfl⟩
        rw [← er13] at hW
        rw [qr_qr] at hW
        refine lv_iinc (v := nI (i + 1)) (lv' := [(2, .int (nI (i + 1))), (0, .ref (eA E 71)), (1, .ref (eA E 73))]) X.x X.b d_R_copyRow_14 hl (k := 0) rfl (by rw [show Int32.ofInt 1 = nI 1 from by decide, nI_add]) (by decide) rfl (fun ls hl => ?_)
        refine lv_goto (tgt := 2) X.x X.b d_R_copyRow_17 (by decide) ?_
        exact ih2 (i + 1) r13 (by omega) (by rw [er13, hm]; exact c80_s) (by omega) _ _ _ hW (lv_sub hl [0, 1, 2] rfl)
  exact loop2 (80 - 0 + 1) 0 g (by omega) c80_0 (Nat.lt_succ_self _) _ _ _ hW (lv_sub hl [0, 1, 2] rfl)
set_option maxHeartbeats 1000000 in
set_option maxRecDepth 20000 in
theorem c_R_copyRow_an (l : Launch) (E : QE) (S : QM) (f g : Nat → Int32) (hf : S 18 = f) (hg : S 16 = g) : qCV E l y_R_copyRow prog_7_method_5_code 3 1 [.ref (eA E 73), .ref (eA E 71)] S (qr S 16 (c80 f g 80)) := by
  refine qCV_of (by decide) (Nat.le_of_ble_eq_true rfl) (fun p e s m below meth c ls X hW hl => ?_)
  have hl : lv_has ls 3 [(0, .ref (eA E 73)), (1, .ref (eA E 71))] := hl
  refine lv_iconst (v := nI 0) X.x X.b d_R_copyRow_0 (by decide) ?_
  refine lv_istore_n (lv' := [(2, .int (nI 0)), (0, .ref (eA E 73)), (1, .ref (eA E 71))]) X.x X.b d_R_copyRow_1 rfl hl (by decide) rfl (fun ls hl => ?_)
  have hW : qWH E (qr S 16 g) s s.heap [] := by rw [← hg, qr_self]; exact hW
  have loop2 : ∀ (fu2 : Nat) (i : Nat) (μ : Nat → Int32), i ≤ 80 → μ = c80 f g i → 80 - i < fu2 → ∀ (H : Heap) (locs : List Loc) (ls : Array Slot), qWH E (qr S 16 μ) s H locs → lv_has ls 3 [(2, .int (nI i)), (0, .ref (eA E 73)), (1, .ref (eA E 71))] → W p l e (qRm 1) s m ([.ref (eA E 73), .ref (eA E 71)] : List Value).toArray below meth c H locs 0 0 (MQ below (qQv E (qr S 16 (c80 f g 80)) s.heap.size) ([.ref (eA E 73), .ref (eA E 71)] : List Value).toArray s 0 0 (qAA E s.heap.size)) (F0 m 2 ls []) := by
    intro fu2
    induction fu2 with
    | zero =>
      intro i μ hi hm hfu
      exact absurd hfu (Nat.not_lt_zero _)
    | succ fu2 ih2 =>
      intro i μ hi hm hfu H locs ls hW hl
      refine lv_iload_n X.x X.b d_R_copyRow_2 rfl (lv_at hl 0 rfl) ?_
      refine lv_bipush (v := nI 80) X.x X.b d_R_copyRow_3 (by decide) ?_
      refine lv_icmp_ge (tgt := 20) X.x X.b d_R_copyRow_5 (by decide) (fun c5 => ?_) (fun c5 => ?_)
      · have c5 : 80 ≤ i := (nI_leI (a := 80) (b := i) (by omega) (by omega)).mp c5
        exact q_vret X hW (by rw [hm, show i = 80 by omega]) d_R_copyRow_20
      · have c5 : ¬ 80 ≤ i := fun z => c5 ((nI_leI (a := 80) (b := i) (by omega) (by omega)).mpr z)
        refine lv_aload_n X.x X.b d_R_copyRow_8 rfl (lv_at hl 2 rfl) ?_
        refine lv_iload_n X.x X.b d_R_copyRow_9 rfl (lv_at hl 0 rfl) ?_
        refine lv_aload_n X.x X.b d_R_copyRow_10 rfl (lv_at hl 1 rfl) ?_
        refine lv_iload_n X.x X.b d_R_copyRow_11 rfl (lv_at hl 0 rfl) ?_
        refine g_ald X hW ds_73 (q_in (by omega) (by decide)) (p0 := i) (q_tn (by omega) (by omega)) (v := f i) (by rw [qr_ne (by omega), hf]) d_R_copyRow_12 ?_
        refine g_ast X hW ds_71 (q_in (by omega) (by decide)) (p0 := i) (q_tn (by omega) (by omega)) (ρ := μ) (by rw [qr_at]) d_R_copyRow_13 (fun H locs hW => ?_)
        obtain ⟨r13, er13⟩ : ∃ z, z = upd μ i (f i) := ⟨_, rfl⟩
        rw [← er13] at hW
        rw [qr_qr] at hW
        refine lv_iinc (v := nI (i + 1)) (lv' := [(2, .int (nI (i + 1))), (0, .ref (eA E 73)), (1, .ref (eA E 71))]) X.x X.b d_R_copyRow_14 hl (k := 0) rfl (by rw [show Int32.ofInt 1 = nI 1 from by decide, nI_add]) (by decide) rfl (fun ls hl => ?_)
        refine lv_goto (tgt := 2) X.x X.b d_R_copyRow_17 (by decide) ?_
        exact ih2 (i + 1) r13 (by omega) (by rw [er13, hm]; exact c80_s) (by omega) _ _ _ hW (lv_sub hl [0, 1, 2] rfl)
  exact loop2 (80 - 0 + 1) 0 g (by omega) c80_0 (Nat.lt_succ_self _) _ _ _ hW (lv_sub hl [0, 1, 2] rfl)
set_option maxHeartbeats 1000000 in
set_option maxRecDepth 20000 in
theorem c_R_copyRow_nk (l : Launch) (E : QE) (S : QM) (f g : Nat → Int32) (hf : S 16 = f) (hg : S 17 = g) : qCV E l y_R_copyRow prog_7_method_5_code 3 1 [.ref (eA E 71), .ref (eA E 72)] S (qr S 17 (c80 f g 80)) := by
  refine qCV_of (by decide) (Nat.le_of_ble_eq_true rfl) (fun p e s m below meth c ls X hW hl => ?_)
  have hl : lv_has ls 3 [(0, .ref (eA E 71)), (1, .ref (eA E 72))] := hl
  refine lv_iconst (v := nI 0) X.x X.b d_R_copyRow_0 (by decide) ?_
  refine lv_istore_n (lv' := [(2, .int (nI 0)), (0, .ref (eA E 71)), (1, .ref (eA E 72))]) X.x X.b d_R_copyRow_1 rfl hl (by decide) rfl (fun ls hl => ?_)
  have hW : qWH E (qr S 17 g) s s.heap [] := by rw [← hg, qr_self]; exact hW
  have loop2 : ∀ (fu2 : Nat) (i : Nat) (μ : Nat → Int32), i ≤ 80 → μ = c80 f g i → 80 - i < fu2 → ∀ (H : Heap) (locs : List Loc) (ls : Array Slot), qWH E (qr S 17 μ) s H locs → lv_has ls 3 [(2, .int (nI i)), (0, .ref (eA E 71)), (1, .ref (eA E 72))] → W p l e (qRm 1) s m ([.ref (eA E 71), .ref (eA E 72)] : List Value).toArray below meth c H locs 0 0 (MQ below (qQv E (qr S 17 (c80 f g 80)) s.heap.size) ([.ref (eA E 71), .ref (eA E 72)] : List Value).toArray s 0 0 (qAA E s.heap.size)) (F0 m 2 ls []) := by
    intro fu2
    induction fu2 with
    | zero =>
      intro i μ hi hm hfu
      exact absurd hfu (Nat.not_lt_zero _)
    | succ fu2 ih2 =>
      intro i μ hi hm hfu H locs ls hW hl
      refine lv_iload_n X.x X.b d_R_copyRow_2 rfl (lv_at hl 0 rfl) ?_
      refine lv_bipush (v := nI 80) X.x X.b d_R_copyRow_3 (by decide) ?_
      refine lv_icmp_ge (tgt := 20) X.x X.b d_R_copyRow_5 (by decide) (fun c5 => ?_) (fun c5 => ?_)
      · have c5 : 80 ≤ i := (nI_leI (a := 80) (b := i) (by omega) (by omega)).mp c5
        exact q_vret X hW (by rw [hm, show i = 80 by omega]) d_R_copyRow_20
      · have c5 : ¬ 80 ≤ i := fun z => c5 ((nI_leI (a := 80) (b := i) (by omega) (by omega)).mpr z)
        refine lv_aload_n X.x X.b d_R_copyRow_8 rfl (lv_at hl 2 rfl) ?_
        refine lv_iload_n X.x X.b d_R_copyRow_9 rfl (lv_at hl 0 rfl) ?_
        refine lv_aload_n X.x X.b d_R_copyRow_10 rfl (lv_at hl 1 rfl) ?_
        refine lv_iload_n X.x X.b d_R_copyRow_11 rfl (lv_at hl 0 rfl) ?_
        refine g_ald X hW ds_71 (q_in (by omega) (by decide)) (p0 := i) (q_tn (by omega) (by omega)) (v := f i) (by rw [qr_ne (by omega), hf]) d_R_copyRow_12 ?_
        refine g_ast X hW ds_72 (q_in (by omega) (by decide)) (p0 := i) (q_tn (by omega) (by omega)) (ρ := μ) (by rw [qr_at]) d_R_copyRow_13 (fun H locs hW => ?_)
        obtain ⟨r13, er13⟩ : ∃ z, z = upd μ i (f i) := ⟨_, rfl⟩
        rw [← er13] at hW
        rw [qr_qr] at hW
        refine lv_iinc (v := nI (i + 1)) (lv' := [(2, .int (nI (i + 1))), (0, .ref (eA E 71)), (1, .ref (eA E 72))]) X.x X.b d_R_copyRow_14 hl (k := 0) rfl (by rw [show Int32.ofInt 1 = nI 1 from by decide, nI_add]) (by decide) rfl (fun ls hl => ?_)
        refine lv_goto (tgt := 2) X.x X.b d_R_copyRow_17 (by decide) ?_
        exact ih2 (i + 1) r13 (by omega) (by rw [er13, hm]; exact c80_s) (by omega) _ _ _ hW (lv_sub hl [0, 1, 2] rfl)
  exact loop2 (80 - 0 + 1) 0 g (by omega) c80_0 (Nat.lt_succ_self _) _ _ _ hW (lv_sub hl [0, 1, 2] rfl)
set_option maxHeartbeats 1000000 in
set_option maxRecDepth 20000 in
theorem c_R_copyRow_kn (l : Launch) (E : QE) (S : QM) (f g : Nat → Int32) (hf : S 17 = f) (hg : S 16 = g) : qCV E l y_R_copyRow prog_7_method_5_code 3 1 [.ref (eA E 72), .ref (eA E 71)] S (qr S 16 (c80 f g 80)) := by
  refine qCV_of (by decide) (Nat.le_of_ble_eq_true rfl) (fun p e s m below meth c ls X hW hl => ?_)
  have hl : lv_has ls 3 [(0, .ref (eA E 72)), (1, .ref (eA E 71))] := hl
  refine lv_iconst (v := nI 0) X.x X.b d_R_copyRow_0 (by decide) ?_
  refine lv_istore_n (lv' := [(2, .int (nI 0)), (0, .ref (eA E 72)), (1, .ref (eA E 71))]) X.x X.b d_R_copyRow_1 rfl hl (by decide) rfl (fun ls hl => ?_)
  have hW : qWH E (qr S 16 g) s s.heap [] := by rw [← hg, qr_self]; exact hW
  have loop2 : ∀ (fu2 : Nat) (i : Nat) (μ : Nat → Int32), i ≤ 80 → μ = c80 f g i → 80 - i < fu2 → ∀ (H : Heap) (locs : List Loc) (ls : Array Slot), qWH E (qr S 16 μ) s H locs → lv_has ls 3 [(2, .int (nI i)), (0, .ref (eA E 72)), (1, .ref (eA E 71))] → W p l e (qRm 1) s m ([.ref (eA E 72), .ref (eA E 71)] : List Value).toArray below meth c H locs 0 0 (MQ below (qQv E (qr S 16 (c80 f g 80)) s.heap.size) ([.ref (eA E 72), .ref (eA E 71)] : List Value).toArray s 0 0 (qAA E s.heap.size)) (F0 m 2 ls []) := by
    intro fu2
    induction fu2 with
    | zero =>
      intro i μ hi hm hfu
      exact absurd hfu (Nat.not_lt_zero _)
    | succ fu2 ih2 =>
      intro i μ hi hm hfu H locs ls hW hl
      refine lv_iload_n X.x X.b d_R_copyRow_2 rfl (lv_at hl 0 rfl) ?_
      refine lv_bipush (v := nI 80) X.x X.b d_R_copyRow_3 (by decide) ?_
      refine lv_icmp_ge (tgt := 20) X.x X.b d_R_copyRow_5 (by decide) (fun c5 => ?_) (fun c5 => ?_)
      · have c5 : 80 ≤ i := (nI_leI (a := 80) (b := i) (by omega) (by omega)).mp c5
        exact q_vret X hW (by rw [hm, show i = 80 by omega]) d_R_copyRow_20
      · have c5 : ¬ 80 ≤ i := fun z => c5 ((nI_leI (a := 80) (b := i) (by omega) (by omega)).mpr z)
        refine lv_aload_n X.x X.b d_R_copyRow_8 rfl (lv_at hl 2 rfl) ?_
        refine lv_iload_n X.x X.b d_R_copyRow_9 rfl (lv_at hl 0 rfl) ?_
        refine lv_aload_n X.x X.b d_R_copyRow_10 rfl (lv_at hl 1 rfl) ?_
        refine lv_iload_n X.x X.b d_R_copyRow_11 rfl (lv_at hl 0 rfl) ?_
        refine g_ald X hW ds_72 (q_in (by omega) (by decide)) (p0 := i) (q_tn (by omega) (by omega)) (v := f i) (by rw [qr_ne (by omega), hf]) d_R_copyRow_12 ?_
        refine g_ast X hW ds_71 (q_in (by omega) (by decide)) (p0 := i) (q_tn (by omega) (by omega)) (ρ := μ) (by rw [qr_at]) d_R_copyRow_13 (fun H locs hW => ?_)
        obtain ⟨r13, er13⟩ : ∃ z, z = upd μ i (f i) := ⟨_, rfl⟩
        rw [← er13] at hW
        rw [qr_qr] at hW
        refine lv_iinc (v := nI (i + 1)) (lv' := [(2, .int (nI (i + 1))), (0, .ref (eA E 72)), (1, .ref (eA E 71))]) X.x X.b d_R_copyRow_14 hl (k := 0) rfl (by rw [show Int32.ofInt 1 = nI 1 from by decide, nI_add]) (by decide) rfl (fun ls hl => ?_)
        refine lv_goto (tgt := 2) X.x X.b d_R_copyRow_17 (by decide) ?_
        exact ih2 (i + 1) r13 (by omega) (by rw [er13, hm]; exact c80_s) (by omega) _ _ _ hW (lv_sub hl [0, 1, 2] rfl)
  exact loop2 (80 - 0 + 1) 0 g (by omega) c80_0 (Nat.lt_succ_self _) _ _ _ hW (lv_sub hl [0, 1, 2] rfl)
set_option maxHeartbeats 1000000 in
set_option maxRecDepth 20000 in
theorem c_R_putBack (l : Launch) (E : QE) (S : QM) (ν α : Nat → Int32) (hν : S 16 = ν) (hα : S 18 = α) (v : Int32) : qCI E l y_R_putBack prog_7_method_6_code 2 .int 2 [.ref (eA E 70), .int v] S v (qr S 16 (c80 α ν 80)) := by
  refine qCI_of (by decide) (Nat.le_of_ble_eq_true rfl) (fun p e s m below meth c ls X hW hl => ?_)
  have hl : lv_has ls 2 [(0, .ref (eA E 70)), (1, .int v)] := hl
  refine lv_aload_n X.x X.b d_R_putBack_0 rfl (lv_at hl 0 rfl) ?_
  refine q_getr X hW qj4 rfl _ ds_R 2 (by decide) mw_688 rfl (c1 := 73) rfl d_R_putBack_1 ?_
  refine lv_aload_n X.x X.b d_R_putBack_4 rfl (lv_at hl 0 rfl) ?_
  refine q_getr X hW qj4 rfl _ ds_R 0 (by decide) mw_686 rfl (c1 := 71) rfl d_R_putBack_5 ?_
  refine q_csv X (c_R_copyRow_an l E S α ν (by rw [hα]) (by rw [hν])) hW ok_R_copyRow mw_959 ⟨by decide, by decide⟩ (As := [.ref (eA E 73), .ref (eA E 71)]) rfl rfl (Nat.le_of_ble_eq_true rfl) (lv := [(0, .ref (eA E 70)), (1, .int v)]) hl ⟨Nat.le_refl 0, Nat.le_refl 0⟩ d_R_putBack_8 (fun H locs hW => ?_)
  have hW : qWH E (qr S 16 (c80 α ν 80)) s H locs := hW
  refine lv_iload_n X.x X.b d_R_putBack_11 rfl (lv_at hl 1 rfl) ?_
  exact q_zret X rfl hW ⟨rfl, rfl⟩ d_R_putBack_12
set_option maxHeartbeats 1000000 in
set_option maxRecDepth 20000 in
theorem c_R_orNone_g (l : Launch) (E : QE) (S : QM) (j : Nat) (hj : j ≤ 1000) : qCI E l y_R_orNone prog_7_method_7_code 2 .int 2 [.ref (eA E 70), .int (nI j)] S (nI j) S := by
  refine qCI_of (by decide) (Nat.le_of_ble_eq_true rfl) (fun p e s m below meth c ls X hW hl => ?_)
  have hl : lv_has ls 2 [(0, .ref (eA E 70)), (1, .int (nI j))] := hl
  refine lv_iload_n X.x X.b d_R_orNone_0 rfl (lv_at hl 1 rfl) ?_
  refine lv_if_ge (tgt := 13) X.x X.b d_R_orNone_1 (by decide) (fun c1 => ?_) (fun c1 => ?_)
  · have c1 : 0 ≤ j := (nI_leI (a := 0) (b := j) (by omega) (by omega)).mp c1
    refine lv_iload_n X.x X.b d_R_orNone_13 rfl (lv_at hl 1 rfl) ?_
    exact q_zret X rfl hW ⟨rfl, rfl⟩ d_R_orNone_14
  · have c1 : ¬ 0 ≤ j := fun z => c1 ((nI_leI (a := 0) (b := j) (by omega) (by omega)).mpr z)
    omega
set_option maxHeartbeats 1000000 in
set_option maxRecDepth 20000 in
theorem c_R_orNone_n (l : Launch) (E : QE) (S : QM) (ψ : Nat → Int32) (hψ : S 19 = ψ) : qCI E l y_R_orNone prog_7_method_7_code 2 .int 2 [.ref (eA E 70), .int (-1)] S (-1000004) (qr S 19 (fnR ψ 3)) := by
  refine qCI_of (by decide) (Nat.le_of_ble_eq_true rfl) (fun p e s m below meth c ls X hW hl => ?_)
  have hl : lv_has ls 2 [(0, .ref (eA E 70)), (1, .int (-1))] := hl
  refine lv_iload_n X.x X.b d_R_orNone_0 rfl (lv_at hl 1 rfl) ?_
  refine lv_if_ge (tgt := 13) X.x X.b d_R_orNone_1 (by decide) (fun c1 => ?_) (fun c1 => ?_)
  · exact absurd c1 (by decide)
  · refine lv_aload_n X.x X.b d_R_orNone_4 rfl (lv_at hl 0 rfl) ?_
    refine lv_ldc (v := (-1000004)) X.x X.b X.ow (X.ts _ mw_978) d_R_orNone_5 ?_
    refine q_cvi X (c_R_finding_3 l E S ψ (by rw [hψ])) hW (q_recv X hW ds_R rfl) ok_R_finding mw_768 ⟨by decide, by decide⟩ (As := [.int (-1000004)]) rfl rfl (Nat.le_of_ble_eq_true rfl) (lv := [(0, .ref (eA E 70)), (1, .int (-1))]) hl ⟨Nat.le_refl 0, Nat.le_refl 0⟩ d_R_orNone_7 (fun H locs hW => ?_)
    have hW : qWH E (qr S 19 (fnR ψ 3)) s H locs := hW
    refine lv_goto (tgt := 14) X.x X.b d_R_orNone_10 (by decide) ?_
    exact q_zret X rfl hW ⟨rfl, rfl⟩ d_R_orNone_14
set_option maxHeartbeats 1000000 in
set_option maxRecDepth 20000 in
theorem c_R_behind (l : Launch) (E : QE) (S : QM) (ν : Nat → Int32) (hν : S 16 = ν) (hwf : WF ν) (α : Nat → Int32) (hα : S 18 = α) (pl n : Nat) (hp : pl < 80) (hn : n ≤ 1000) : qCPi E l y_R_behind prog_7_method_57_code 3 .int 9 [.ref (eA E 70), .int (nI pl), .int (nI n)] S (daysS n ν pl) (bhG S ν) := by
  refine qCPi_of (by decide) (Nat.le_of_ble_eq_true rfl) (fun p e s m below meth c ls X hW hl => ?_)
  have hl : lv_has ls 3 [(0, .ref (eA E 70)), (1, .int (nI pl)), (2, .int (nI n))] := hl
  have hW : qWH E (qr (qr S 18 α) 16 ν) s s.heap [] := by rw [show qr (qr S 18 α) 16 ν = S from by rw [← hα, qr_self, ← hν, qr_self]]; exact hW
  have htl := hwf.tl
  have hwl := hwf.wl
  have hdl := hwf.dl
  refine lv_aload_n X.x X.b d_R_behind_0 rfl (lv_at hl 0 rfl) ?_
  refine q_getr X hW qj4 rfl _ ds_R 0 (by decide) mw_686 rfl (c1 := 71) rfl d_R_behind_1 ?_
  refine lv_aload_n X.x X.b d_R_behind_4 rfl (lv_at hl 0 rfl) ?_
  refine q_getr X hW qj4 rfl _ ds_R 2 (by decide) mw_688 rfl (c1 := 73) rfl d_R_behind_5 ?_
  refine q_csv X (c_R_copyRow_na l E (qr (qr S 18 α) 16 ν) ν α (by rw [qr_at]) (by rw [qr_ne (by omega), qr_at])) hW ok_R_copyRow mw_959 ⟨by decide, by decide⟩ (As := [.ref (eA E 71), .ref (eA E 73)]) rfl rfl (Nat.le_of_ble_eq_true rfl) (lv := [(0, .ref (eA E 70)), (1, .int (nI pl)), (2, .int (nI n))]) hl ⟨Nat.le_refl 0, Nat.le_refl 0⟩ d_R_behind_8 (fun H locs hW => ?_)
  have hW : qWH E (qr (qr S 18 (c80 ν α 80)) 16 ν) s H locs := (by have h := hW; rw [qr_in (by omega)] at h; exact h)
  refine lv_aload_n X.x X.b d_R_behind_11 rfl (lv_at hl 0 rfl) ?_
  refine lv_iload_n X.x X.b d_R_behind_12 rfl (lv_at hl 2 rfl) ?_
  refine q_cvv X (c_R_daysGo l E (qr (qr S 18 (c80 ν α 80)) 16 ν) ν (by rw [qr_at]) hwf n (by omega)) hW (q_recv X hW ds_R rfl) ok_R_daysGo mw_889 ⟨by decide, by decide⟩ (As := [.int (nI n)]) rfl rfl (Nat.le_of_ble_eq_true rfl) (lv := [(0, .ref (eA E 70)), (1, .int (nI pl)), (2, .int (nI n))]) hl ⟨Nat.le_refl 0, Nat.le_refl 0⟩ d_R_behind_13 (fun H locs hW => ?_)
  have hW : qWH E (qr (qr S 18 (c80 ν α 80)) 16 (daysS n ν)) s H locs := (by have h := hW; rw [qr_qr] at h; exact h)
  refine lv_aload_n X.x X.b d_R_behind_16 rfl (lv_at hl 0 rfl) ?_
  refine lv_aload_n X.x X.b d_R_behind_17 rfl (lv_at hl 0 rfl) ?_
  refine q_getr X hW qj4 rfl _ ds_R 0 (by decide) mw_686 rfl (c1 := 71) rfl d_R_behind_18 ?_
  refine lv_iload_n X.x X.b d_R_behind_21 rfl (lv_at hl 1 rfl) ?_
  refine g_ald X hW ds_71 (q_in (by omega) (by decide)) (p0 := pl) (q_tn (by omega) (by omega)) (v := (daysS n ν) pl) (by rw [qr_at]) d_R_behind_22 ?_
  refine q_cvi X (c_R_putBack l E (qr (qr S 18 (c80 ν α 80)) 16 (daysS n ν)) (daysS n ν) (c80 ν α 80) (by rw [qr_at]) (by rw [qr_ne (by omega), qr_at]) ((daysS n ν) pl)) hW (q_recv X hW ds_R rfl) ok_R_putBack mw_962 ⟨by decide, by decide⟩ (As := [.int ((daysS n ν) pl)]) rfl rfl (Nat.le_of_ble_eq_true rfl) (lv := [(0, .ref (eA E 70)), (1, .int (nI pl)), (2, .int (nI n))]) hl ⟨Nat.le_refl 0, Nat.le_refl 0⟩ d_R_behind_23 (fun H locs hW => ?_)
  have hW : qWH E (qr (qr S 18 (c80 ν α 80)) 16 (c80 (c80 ν α 80) (daysS n ν) 80)) s H locs := (by have h := hW; rw [qr_qr] at h; exact h)
  exact q_pzret X rfl hW ⟨rfl, ⟨_, _, eq80_c.tr eq80_c, rfl⟩⟩ d_R_behind_26
set_option maxHeartbeats 1000000 in
set_option maxRecDepth 20000 in
theorem c_R_ahead_1 (l : Launch) (E : QE) (S : QM) (ν : Nat → Int32) (hν : S 16 = ν) (hwf : WF ν) (α : Nat → Int32) (hα : S 18 = α) (t n : Nat) (ht : t < nT ν) (hn : n ≤ 100) : qCPi E l y_R_ahead prog_7_method_58_code 4 .int 10 [.ref (eA E 70), .int (nI t), .int (nI 1), .int (nI n)] S (daysS n ν (20 + 3 * t + 1)) (bhG S ν) := by
  refine qCPi_of (by decide) (Nat.le_of_ble_eq_true rfl) (fun p e s m below meth c ls X hW hl => ?_)
  have hl : lv_has ls 4 [(0, .ref (eA E 70)), (1, .int (nI t)), (2, .int (nI 1)), (3, .int (nI n))] := hl
  have hW : qWH E (qr (qr S 18 α) 16 ν) s s.heap [] := by rw [show qr (qr S 18 α) 16 ν = S from by rw [← hα, qr_self, ← hν, qr_self]]; exact hW
  have htl := hwf.tl
  have hwl := hwf.wl
  have hdl := hwf.dl
  refine lv_aload_n X.x X.b d_R_ahead_0 rfl (lv_at hl 0 rfl) ?_
  refine lv_iload_n X.x X.b d_R_ahead_1 rfl (lv_at hl 1 rfl) ?_
  refine q_cvi X (c_R_isThing l E (qr (qr S 18 α) 16 ν) ν (by rw [qr_at]) hwf (nI t)) hW (q_recv X hW ds_R rfl) ok_R_isThing mw_809 ⟨by decide, by decide⟩ (As := [.int (nI t)]) rfl rfl (Nat.le_of_ble_eq_true rfl) (lv := [(0, .ref (eA E 70)), (1, .int (nI t)), (2, .int (nI 1)), (3, .int (nI n))]) hl ⟨Nat.le_refl 0, Nat.le_refl 0⟩ d_R_ahead_2 (fun H locs hW => ?_)
  refine lv_if_eq (tgt := 40) X.x X.b d_R_ahead_5 (by decide) (fun c5 => ?_) (fun c5 => ?_)
  · have c5 := b2i_e c5
    have c5 := mt (isT_i hwf (by omega)).mpr c5
    omega
  · have c5 := b2i_n c5
    have c5 := (isT_i hwf (by omega)).mp c5
    refine lv_iload_n X.x X.b d_R_ahead_8 rfl (lv_at hl 2 rfl) ?_
    refine lv_iconst (v := nI 1) X.x X.b d_R_ahead_9 (by decide) ?_
    refine lv_iconst (v := nI 2) X.x X.b d_R_ahead_10 (by decide) ?_
    refine q_csi X (c_R_within l E (qr (qr S 18 α) 16 ν) (nI 1) (nI 1) (nI 2)) hW ok_R_within mw_757 ⟨by decide, by decide⟩ (As := [.int (nI 1), .int (nI 1), .int (nI 2)]) rfl rfl (Nat.le_of_ble_eq_true rfl) (lv := [(0, .ref (eA E 70)), (1, .int (nI t)), (2, .int (nI 1)), (3, .int (nI n))]) hl ⟨Nat.le_refl 0, Nat.le_refl 0⟩ d_R_ahead_11 (fun H locs hW => ?_)
    refine lv_if_eq (tgt := 40) X.x X.b d_R_ahead_14 (by decide) (fun c14 => ?_) (fun c14 => ?_)
    · have c14 := b2i_e c14
      have c14 := mt (inR_i (by omega) (by decide)).mpr c14
      omega
    · have c14 := b2i_n c14
      have c14 := (inR_i (by omega) (by decide)).mp c14
      refine lv_iload_n X.x X.b d_R_ahead_17 rfl (lv_at hl 3 rfl) ?_
      refine lv_iconst (v := nI 0) X.x X.b d_R_ahead_18 (by decide) ?_
      refine lv_bipush (v := nI 100) X.x X.b d_R_ahead_19 (by decide) ?_
      refine q_csi X (c_R_within l E (qr (qr S 18 α) 16 ν) (nI n) (nI 0) (nI 100)) hW ok_R_within mw_757 ⟨by decide, by decide⟩ (As := [.int (nI n), .int (nI 0), .int (nI 100)]) rfl rfl (Nat.le_of_ble_eq_true rfl) (lv := [(0, .ref (eA E 70)), (1, .int (nI t)), (2, .int (nI 1)), (3, .int (nI n))]) hl ⟨Nat.le_refl 0, Nat.le_refl 0⟩ d_R_ahead_21 (fun H locs hW => ?_)
      refine lv_if_eq (tgt := 40) X.x X.b d_R_ahead_24 (by decide) (fun c24 => ?_) (fun c24 => ?_)
      · have c24 := b2i_e c24
        have c24 := mt (inR_i (by omega) (by decide)).mpr c24
        omega
      · have c24 := b2i_n c24
        have c24 := (inR_i (by omega) (by decide)).mp c24
        refine lv_aload_n X.x X.b d_R_ahead_27 rfl (lv_at hl 0 rfl) ?_
        refine lv_iload_n X.x X.b d_R_ahead_28 rfl (lv_at hl 1 rfl) ?_
        refine lv_iload_n X.x X.b d_R_ahead_29 rfl (lv_at hl 2 rfl) ?_
        refine q_csi X (c_R_thingAt l E (qr (qr S 18 α) 16 ν) t 1) hW ok_R_thingAt mw_791 ⟨by decide, by decide⟩ (As := [.int (nI t), .int (nI 1)]) rfl rfl (Nat.le_of_ble_eq_true rfl) (lv := [(0, .ref (eA E 70)), (1, .int (nI t)), (2, .int (nI 1)), (3, .int (nI n))]) hl ⟨Nat.le_refl 0, Nat.le_refl 0⟩ d_R_ahead_30 (fun H locs hW => ?_)
        refine lv_iload_n X.x X.b d_R_ahead_33 rfl (lv_at hl 3 rfl) ?_
        refine q_cvip X (c_R_behind l E (qr (qr S 18 α) 16 ν) ν (by rw [qr_at]) hwf α (by rw [qr_ne (by omega), qr_at]) (20 + 3 * t + 1) n (by omega) (by omega)) hW (q_recv X hW ds_R rfl) ok_R_behind mw_955 ⟨by decide, by decide⟩ (As := [.int (nI (20 + 3 * t + 1)), .int (nI n)]) rfl rfl (Nat.le_of_ble_eq_true rfl) (lv := [(0, .ref (eA E 70)), (1, .int (nI t)), (2, .int (nI 1)), (3, .int (nI n))]) hl ⟨Nat.le_refl 0, Nat.le_refl 0⟩ d_R_ahead_34 (fun H locs Sq34 hP34 hW => ?_)
        obtain ⟨τ34, α34, hτ34, rfl⟩ := hP34
        have hW : qWH E (qr (qr S 18 α34) 16 τ34) s H locs := (by have h := hW; rw [qr_in (by omega), qr_in (by omega)] at h; exact h)
        refine lv_goto (tgt := 46) X.x X.b d_R_ahead_37 (by decide) ?_
        exact q_pzret X rfl hW ⟨rfl, ⟨_, _, hτ34, rfl⟩⟩ d_R_ahead_46
set_option maxHeartbeats 1000000 in
set_option maxRecDepth 20000 in
theorem c_R_ahead_2 (l : Launch) (E : QE) (S : QM) (ν : Nat → Int32) (hν : S 16 = ν) (hwf : WF ν) (α : Nat → Int32) (hα : S 18 = α) (t n : Nat) (ht : t < nT ν) (hn : n ≤ 100) : qCPi E l y_R_ahead prog_7_method_58_code 4 .int 10 [.ref (eA E 70), .int (nI t), .int (nI 2), .int (nI n)] S (daysS n ν (20 + 3 * t + 2)) (bhG S ν) := by
  refine qCPi_of (by decide) (Nat.le_of_ble_eq_true rfl) (fun p e s m below meth c ls X hW hl => ?_)
  have hl : lv_has ls 4 [(0, .ref (eA E 70)), (1, .int (nI t)), (2, .int (nI 2)), (3, .int (nI n))] := hl
  have hW : qWH E (qr (qr S 18 α) 16 ν) s s.heap [] := by rw [show qr (qr S 18 α) 16 ν = S from by rw [← hα, qr_self, ← hν, qr_self]]; exact hW
  have htl := hwf.tl
  have hwl := hwf.wl
  have hdl := hwf.dl
  refine lv_aload_n X.x X.b d_R_ahead_0 rfl (lv_at hl 0 rfl) ?_
  refine lv_iload_n X.x X.b d_R_ahead_1 rfl (lv_at hl 1 rfl) ?_
  refine q_cvi X (c_R_isThing l E (qr (qr S 18 α) 16 ν) ν (by rw [qr_at]) hwf (nI t)) hW (q_recv X hW ds_R rfl) ok_R_isThing mw_809 ⟨by decide, by decide⟩ (As := [.int (nI t)]) rfl rfl (Nat.le_of_ble_eq_true rfl) (lv := [(0, .ref (eA E 70)), (1, .int (nI t)), (2, .int (nI 2)), (3, .int (nI n))]) hl ⟨Nat.le_refl 0, Nat.le_refl 0⟩ d_R_ahead_2 (fun H locs hW => ?_)
  refine lv_if_eq (tgt := 40) X.x X.b d_R_ahead_5 (by decide) (fun c5 => ?_) (fun c5 => ?_)
  · have c5 := b2i_e c5
    have c5 := mt (isT_i hwf (by omega)).mpr c5
    omega
  · have c5 := b2i_n c5
    have c5 := (isT_i hwf (by omega)).mp c5
    refine lv_iload_n X.x X.b d_R_ahead_8 rfl (lv_at hl 2 rfl) ?_
    refine lv_iconst (v := nI 1) X.x X.b d_R_ahead_9 (by decide) ?_
    refine lv_iconst (v := nI 2) X.x X.b d_R_ahead_10 (by decide) ?_
    refine q_csi X (c_R_within l E (qr (qr S 18 α) 16 ν) (nI 2) (nI 1) (nI 2)) hW ok_R_within mw_757 ⟨by decide, by decide⟩ (As := [.int (nI 2), .int (nI 1), .int (nI 2)]) rfl rfl (Nat.le_of_ble_eq_true rfl) (lv := [(0, .ref (eA E 70)), (1, .int (nI t)), (2, .int (nI 2)), (3, .int (nI n))]) hl ⟨Nat.le_refl 0, Nat.le_refl 0⟩ d_R_ahead_11 (fun H locs hW => ?_)
    refine lv_if_eq (tgt := 40) X.x X.b d_R_ahead_14 (by decide) (fun c14 => ?_) (fun c14 => ?_)
    · have c14 := b2i_e c14
      have c14 := mt (inR_i (by omega) (by decide)).mpr c14
      omega
    · have c14 := b2i_n c14
      have c14 := (inR_i (by omega) (by decide)).mp c14
      refine lv_iload_n X.x X.b d_R_ahead_17 rfl (lv_at hl 3 rfl) ?_
      refine lv_iconst (v := nI 0) X.x X.b d_R_ahead_18 (by decide) ?_
      refine lv_bipush (v := nI 100) X.x X.b d_R_ahead_19 (by decide) ?_
      refine q_csi X (c_R_within l E (qr (qr S 18 α) 16 ν) (nI n) (nI 0) (nI 100)) hW ok_R_within mw_757 ⟨by decide, by decide⟩ (As := [.int (nI n), .int (nI 0), .int (nI 100)]) rfl rfl (Nat.le_of_ble_eq_true rfl) (lv := [(0, .ref (eA E 70)), (1, .int (nI t)), (2, .int (nI 2)), (3, .int (nI n))]) hl ⟨Nat.le_refl 0, Nat.le_refl 0⟩ d_R_ahead_21 (fun H locs hW => ?_)
      refine lv_if_eq (tgt := 40) X.x X.b d_R_ahead_24 (by decide) (fun c24 => ?_) (fun c24 => ?_)
      · have c24 := b2i_e c24
        have c24 := mt (inR_i (by omega) (by decide)).mpr c24
        omega
      · have c24 := b2i_n c24
        have c24 := (inR_i (by omega) (by decide)).mp c24
        refine lv_aload_n X.x X.b d_R_ahead_27 rfl (lv_at hl 0 rfl) ?_
        refine lv_iload_n X.x X.b d_R_ahead_28 rfl (lv_at hl 1 rfl) ?_
        refine lv_iload_n X.x X.b d_R_ahead_29 rfl (lv_at hl 2 rfl) ?_
        refine q_csi X (c_R_thingAt l E (qr (qr S 18 α) 16 ν) t 2) hW ok_R_thingAt mw_791 ⟨by decide, by decide⟩ (As := [.int (nI t), .int (nI 2)]) rfl rfl (Nat.le_of_ble_eq_true rfl) (lv := [(0, .ref (eA E 70)), (1, .int (nI t)), (2, .int (nI 2)), (3, .int (nI n))]) hl ⟨Nat.le_refl 0, Nat.le_refl 0⟩ d_R_ahead_30 (fun H locs hW => ?_)
        refine lv_iload_n X.x X.b d_R_ahead_33 rfl (lv_at hl 3 rfl) ?_
        refine q_cvip X (c_R_behind l E (qr (qr S 18 α) 16 ν) ν (by rw [qr_at]) hwf α (by rw [qr_ne (by omega), qr_at]) (20 + 3 * t + 2) n (by omega) (by omega)) hW (q_recv X hW ds_R rfl) ok_R_behind mw_955 ⟨by decide, by decide⟩ (As := [.int (nI (20 + 3 * t + 2)), .int (nI n)]) rfl rfl (Nat.le_of_ble_eq_true rfl) (lv := [(0, .ref (eA E 70)), (1, .int (nI t)), (2, .int (nI 2)), (3, .int (nI n))]) hl ⟨Nat.le_refl 0, Nat.le_refl 0⟩ d_R_ahead_34 (fun H locs Sq34 hP34 hW => ?_)
        obtain ⟨τ34, α34, hτ34, rfl⟩ := hP34
        have hW : qWH E (qr (qr S 18 α34) 16 τ34) s H locs := (by have h := hW; rw [qr_in (by omega), qr_in (by omega)] at h; exact h)
        refine lv_goto (tgt := 46) X.x X.b d_R_ahead_37 (by decide) ?_
        exact q_pzret X rfl hW ⟨rfl, ⟨_, _, hτ34, rfl⟩⟩ d_R_ahead_46
set_option maxHeartbeats 1000000 in
set_option maxRecDepth 20000 in
theorem c_R_ahead_b (l : Launch) (E : QE) (S : QM) (ν : Nat → Int32) (hν : S 16 = ν) (hwf : WF ν) (ψ : Nat → Int32) (hψ : S 19 = ψ) (x y z : Int32) (h : ¬ (isT ν x ∧ inR 1 2 y ∧ inR 0 100 z)) : qCI E l y_R_ahead prog_7_method_58_code 4 .int 4 [.ref (eA E 70), .int x, .int y, .int z] S (-1000001) (qr S 19 (fnR ψ 0)) := by
  refine qCI_of (by decide) (Nat.le_of_ble_eq_true rfl) (fun p e s m below meth c ls X hW hl => ?_)
  have hl : lv_has ls 4 [(0, .ref (eA E 70)), (1, .int x), (2, .int y), (3, .int z)] := hl
  have htl := hwf.tl
  have hwl := hwf.wl
  have hdl := hwf.dl
  refine lv_aload_n X.x X.b d_R_ahead_0 rfl (lv_at hl 0 rfl) ?_
  refine lv_iload_n X.x X.b d_R_ahead_1 rfl (lv_at hl 1 rfl) ?_
  refine q_cvi X (c_R_isThing l E S ν (by rw [hν]) hwf x) hW (q_recv X hW ds_R rfl) ok_R_isThing mw_809 ⟨by decide, by decide⟩ (As := [.int x]) rfl rfl (Nat.le_of_ble_eq_true rfl) (lv := [(0, .ref (eA E 70)), (1, .int x), (2, .int y), (3, .int z)]) hl ⟨Nat.le_refl 0, Nat.le_refl 0⟩ d_R_ahead_2 (fun H locs hW => ?_)
  refine lv_if_eq (tgt := 40) X.x X.b d_R_ahead_5 (by decide) (fun c5 => ?_) (fun c5 => ?_)
  · have c5 := b2i_e c5
    refine lv_aload_n X.x X.b d_R_ahead_40 rfl (lv_at hl 0 rfl) ?_
    refine lv_ldc (v := (-1000001)) X.x X.b X.ow (X.ts _ mw_767) d_R_ahead_41 ?_
    refine q_cvi X (c_R_finding_0 l E S ψ (by rw [hψ])) hW (q_recv X hW ds_R rfl) ok_R_finding mw_768 ⟨by decide, by decide⟩ (As := [.int (-1000001)]) rfl rfl (Nat.le_of_ble_eq_true rfl) (lv := [(0, .ref (eA E 70)), (1, .int x), (2, .int y), (3, .int z)]) hl ⟨Nat.le_refl 0, Nat.le_refl 0⟩ d_R_ahead_43 (fun H locs hW => ?_)
    have hW : qWH E (qr S 19 (fnR ψ 0)) s H locs := hW
    exact q_zret X rfl hW ⟨rfl, rfl⟩ d_R_ahead_46
  · have c5 := b2i_n c5
    refine lv_iload_n X.x X.b d_R_ahead_8 rfl (lv_at hl 2 rfl) ?_
    refine lv_iconst (v := nI 1) X.x X.b d_R_ahead_9 (by decide) ?_
    refine lv_iconst (v := nI 2) X.x X.b d_R_ahead_10 (by decide) ?_
    refine q_csi X (c_R_within l E S y (nI 1) (nI 2)) hW ok_R_within mw_757 ⟨by decide, by decide⟩ (As := [.int y, .int (nI 1), .int (nI 2)]) rfl rfl (Nat.le_of_ble_eq_true rfl) (lv := [(0, .ref (eA E 70)), (1, .int x), (2, .int y), (3, .int z)]) hl ⟨Nat.le_refl 0, Nat.le_refl 0⟩ d_R_ahead_11 (fun H locs hW => ?_)
    refine lv_if_eq (tgt := 40) X.x X.b d_R_ahead_14 (by decide) (fun c14 => ?_) (fun c14 => ?_)
    · have c14 := b2i_e c14
      refine lv_aload_n X.x X.b d_R_ahead_40 rfl (lv_at hl 0 rfl) ?_
      refine lv_ldc (v := (-1000001)) X.x X.b X.ow (X.ts _ mw_767) d_R_ahead_41 ?_
      refine q_cvi X (c_R_finding_0 l E S ψ (by rw [hψ])) hW (q_recv X hW ds_R rfl) ok_R_finding mw_768 ⟨by decide, by decide⟩ (As := [.int (-1000001)]) rfl rfl (Nat.le_of_ble_eq_true rfl) (lv := [(0, .ref (eA E 70)), (1, .int x), (2, .int y), (3, .int z)]) hl ⟨Nat.le_refl 0, Nat.le_refl 0⟩ d_R_ahead_43 (fun H locs hW => ?_)
      have hW : qWH E (qr S 19 (fnR ψ 0)) s H locs := hW
      exact q_zret X rfl hW ⟨rfl, rfl⟩ d_R_ahead_46
    · have c14 := b2i_n c14
      refine lv_iload_n X.x X.b d_R_ahead_17 rfl (lv_at hl 3 rfl) ?_
      refine lv_iconst (v := nI 0) X.x X.b d_R_ahead_18 (by decide) ?_
      refine lv_bipush (v := nI 100) X.x X.b d_R_ahead_19 (by decide) ?_
      refine q_csi X (c_R_within l E S z (nI 0) (nI 100)) hW ok_R_within mw_757 ⟨by decide, by decide⟩ (As := [.int z, .int (nI 0), .int (nI 100)]) rfl rfl (Nat.le_of_ble_eq_true rfl) (lv := [(0, .ref (eA E 70)), (1, .int x), (2, .int y), (3, .int z)]) hl ⟨Nat.le_refl 0, Nat.le_refl 0⟩ d_R_ahead_21 (fun H locs hW => ?_)
      refine lv_if_eq (tgt := 40) X.x X.b d_R_ahead_24 (by decide) (fun c24 => ?_) (fun c24 => ?_)
      · have c24 := b2i_e c24
        refine lv_aload_n X.x X.b d_R_ahead_40 rfl (lv_at hl 0 rfl) ?_
        refine lv_ldc (v := (-1000001)) X.x X.b X.ow (X.ts _ mw_767) d_R_ahead_41 ?_
        refine q_cvi X (c_R_finding_0 l E S ψ (by rw [hψ])) hW (q_recv X hW ds_R rfl) ok_R_finding mw_768 ⟨by decide, by decide⟩ (As := [.int (-1000001)]) rfl rfl (Nat.le_of_ble_eq_true rfl) (lv := [(0, .ref (eA E 70)), (1, .int x), (2, .int y), (3, .int z)]) hl ⟨Nat.le_refl 0, Nat.le_refl 0⟩ d_R_ahead_43 (fun H locs hW => ?_)
        have hW : qWH E (qr S 19 (fnR ψ 0)) s H locs := hW
        exact q_zret X rfl hW ⟨rfl, rfl⟩ d_R_ahead_46
      · have c24 := b2i_n c24
        exact absurd ⟨c5, c14, c24⟩ h
set_option maxHeartbeats 1000000 in
set_option maxRecDepth 20000 in
theorem c_R_later_0 (l : Launch) (E : QE) (S : QM) (ν : Nat → Int32) (hν : S 16 = ν) (hwf : WF ν) (α : Nat → Int32) (hα : S 18 = α) (w n : Nat) (hw : w < nW ν) (hn : n ≤ 100) : qCPi E l y_R_later prog_7_method_59_code 5 .int 10 [.ref (eA E 70), .int (nI w), .int (nI 0), .int (nI n)] S (daysS n ν (44 + 6 * w)) (bhG S ν) := by
  refine qCPi_of (by decide) (Nat.le_of_ble_eq_true rfl) (fun p e s m below meth c ls X hW hl => ?_)
  have hl : lv_has ls 5 [(0, .ref (eA E 70)), (1, .int (nI w)), (2, .int (nI 0)), (3, .int (nI n))] := hl
  have hW : qWH E (qr (qr S 18 α) 16 ν) s s.heap [] := by rw [show qr (qr S 18 α) 16 ν = S from by rw [← hα, qr_self, ← hν, qr_self]]; exact hW
  have htl := hwf.tl
  have hwl := hwf.wl
  have hdl := hwf.dl
  refine lv_iload_n X.x X.b d_R_later_0 rfl (lv_at hl 2 rfl) ?_
  refine lv_if_eq (tgt := 13) X.x X.b d_R_later_1 (by decide) (fun c1 => ?_) (fun c1 => ?_)
  · have c1 : 0 = 0 := (nI_eq (a := 0) (b := 0) (by omega) (by omega)).mp c1
    refine lv_iconst (v := nI 1) X.x X.b d_R_later_13 (by decide) ?_
    refine lv_goto (tgt := 18) X.x X.b d_R_later_14 (by decide) ?_
    refine lv_istore (lv' := [(4, .int (nI 1)), (0, .ref (eA E 70)), (1, .int (nI w)), (2, .int (nI 0)), (3, .int (nI n))]) X.x X.b d_R_later_18 hl (by decide) rfl (fun ls hl => ?_)
    refine lv_aload_n X.x X.b d_R_later_20 rfl (lv_at hl 1 rfl) ?_
    refine lv_iload_n X.x X.b d_R_later_21 rfl (lv_at hl 2 rfl) ?_
    refine q_cvi X (c_R_isWalker l E (qr (qr S 18 α) 16 ν) ν (by rw [qr_at]) hwf (nI w)) hW (q_recv X hW ds_R rfl) ok_R_isWalker mw_841 ⟨by decide, by decide⟩ (As := [.int (nI w)]) rfl rfl (Nat.le_of_ble_eq_true rfl) (lv := [(4, .int (nI 1)), (0, .ref (eA E 70)), (1, .int (nI w)), (2, .int (nI 0)), (3, .int (nI n))]) hl ⟨Nat.le_refl 0, Nat.le_refl 0⟩ d_R_later_22 (fun H locs hW => ?_)
    refine lv_if_eq (tgt := 56) X.x X.b d_R_later_25 (by decide) (fun c25 => ?_) (fun c25 => ?_)
    · have c25 := b2i_e c25
      have c25 := mt (isW_i hwf (by omega)).mpr c25
      omega
    · have c25 := b2i_n c25
      have c25 := (isW_i hwf (by omega)).mp c25
      refine lv_iload X.x X.b d_R_later_28 (lv_at hl 0 rfl) ?_
      refine lv_if_eq (tgt := 56) X.x X.b d_R_later_30 (by decide) (fun c30 => ?_) (fun c30 => ?_)
      · exact absurd c30 (by decide)
      · have c30 : ¬ 1 = 0 := fun z => c30 ((nI_eq (a := 1) (b := 0) (by omega) (by omega)).mpr z)
        refine lv_iload_n X.x X.b d_R_later_33 rfl (lv_at hl 4 rfl) ?_
        refine lv_iconst (v := nI 0) X.x X.b d_R_later_34 (by decide) ?_
        refine lv_bipush (v := nI 100) X.x X.b d_R_later_35 (by decide) ?_
        refine q_csi X (c_R_within l E (qr (qr S 18 α) 16 ν) (nI n) (nI 0) (nI 100)) hW ok_R_within mw_757 ⟨by decide, by decide⟩ (As := [.int (nI n), .int (nI 0), .int (nI 100)]) rfl rfl (Nat.le_of_ble_eq_true rfl) (lv := [(4, .int (nI 1)), (0, .ref (eA E 70)), (1, .int (nI w)), (2, .int (nI 0)), (3, .int (nI n))]) hl ⟨Nat.le_refl 0, Nat.le_refl 0⟩ d_R_later_37 (fun H locs hW => ?_)
        refine lv_if_eq (tgt := 56) X.x X.b d_R_later_40 (by decide) (fun c40 => ?_) (fun c40 => ?_)
        · have c40 := b2i_e c40
          have c40 := mt (inR_i (by omega) (by decide)).mpr c40
          omega
        · have c40 := b2i_n c40
          have c40 := (inR_i (by omega) (by decide)).mp c40
          refine lv_aload_n X.x X.b d_R_later_43 rfl (lv_at hl 1 rfl) ?_
          refine lv_iload_n X.x X.b d_R_later_44 rfl (lv_at hl 2 rfl) ?_
          refine lv_iload_n X.x X.b d_R_later_45 rfl (lv_at hl 3 rfl) ?_
          refine q_csi X (c_R_walkerAt_z l E (qr (qr S 18 α) 16 ν) w) hW ok_R_walkerAt mw_802 ⟨by decide, by decide⟩ (As := [.int (nI w), .int (nI 0)]) rfl rfl (Nat.le_of_ble_eq_true rfl) (lv := [(4, .int (nI 1)), (0, .ref (eA E 70)), (1, .int (nI w)), (2, .int (nI 0)), (3, .int (nI n))]) hl ⟨Nat.le_refl 0, Nat.le_refl 0⟩ d_R_later_46 (fun H locs hW => ?_)
          refine lv_iload_n X.x X.b d_R_later_49 rfl (lv_at hl 4 rfl) ?_
          refine q_cvip X (c_R_behind l E (qr (qr S 18 α) 16 ν) ν (by rw [qr_at]) hwf α (by rw [qr_ne (by omega), qr_at]) (44 + 6 * w) n (by omega) (by omega)) hW (q_recv X hW ds_R rfl) ok_R_behind mw_955 ⟨by decide, by decide⟩ (As := [.int (nI (44 + 6 * w)), .int (nI n)]) rfl rfl (Nat.le_of_ble_eq_true rfl) (lv := [(4, .int (nI 1)), (0, .ref (eA E 70)), (1, .int (nI w)), (2, .int (nI 0)), (3, .int (nI n))]) hl ⟨Nat.le_refl 0, Nat.le_refl 0⟩ d_R_later_50 (fun H locs Sq50 hP50 hW => ?_)
          obtain ⟨τ50, α50, hτ50, rfl⟩ := hP50
          have hW : qWH E (qr (qr S 18 α50) 16 τ50) s H locs := (by have h := hW; rw [qr_in (by omega), qr_in (by omega)] at h; exact h)
          refine lv_goto (tgt := 62) X.x X.b d_R_later_53 (by decide) ?_
          exact q_pzret X rfl hW ⟨rfl, ⟨_, _, hτ50, rfl⟩⟩ d_R_later_62
  · exact absurd (by decide) c1
set_option maxHeartbeats 1000000 in
set_option maxRecDepth 20000 in
theorem c_R_later_3 (l : Launch) (E : QE) (S : QM) (ν : Nat → Int32) (hν : S 16 = ν) (hwf : WF ν) (α : Nat → Int32) (hα : S 18 = α) (w n : Nat) (hw : w < nW ν) (hn : n ≤ 100) : qCPi E l y_R_later prog_7_method_59_code 5 .int 10 [.ref (eA E 70), .int (nI w), .int (nI 3), .int (nI n)] S (daysS n ν (44 + 6 * w + 3)) (bhG S ν) := by
  refine qCPi_of (by decide) (Nat.le_of_ble_eq_true rfl) (fun p e s m below meth c ls X hW hl => ?_)
  have hl : lv_has ls 5 [(0, .ref (eA E 70)), (1, .int (nI w)), (2, .int (nI 3)), (3, .int (nI n))] := hl
  have hW : qWH E (qr (qr S 18 α) 16 ν) s s.heap [] := by rw [show qr (qr S 18 α) 16 ν = S from by rw [← hα, qr_self, ← hν, qr_self]]; exact hW
  have htl := hwf.tl
  have hwl := hwf.wl
  have hdl := hwf.dl
  refine lv_iload_n X.x X.b d_R_later_0 rfl (lv_at hl 2 rfl) ?_
  refine lv_if_eq (tgt := 13) X.x X.b d_R_later_1 (by decide) (fun c1 => ?_) (fun c1 => ?_)
  · exact absurd c1 (by decide)
  · have c1 : ¬ 3 = 0 := fun z => c1 ((nI_eq (a := 3) (b := 0) (by omega) (by omega)).mpr z)
    refine lv_iload_n X.x X.b d_R_later_4 rfl (lv_at hl 2 rfl) ?_
    refine lv_iconst (v := nI 3) X.x X.b d_R_later_5 (by decide) ?_
    refine lv_iconst (v := nI 5) X.x X.b d_R_later_6 (by decide) ?_
    refine q_csi X (c_R_within l E (qr (qr S 18 α) 16 ν) (nI 3) (nI 3) (nI 5)) hW ok_R_within mw_757 ⟨by decide, by decide⟩ (As := [.int (nI 3), .int (nI 3), .int (nI 5)]) rfl rfl (Nat.le_of_ble_eq_true rfl) (lv := [(0, .ref (eA E 70)), (1, .int (nI w)), (2, .int (nI 3)), (3, .int (nI n))]) hl ⟨Nat.le_refl 0, Nat.le_refl 0⟩ d_R_later_7 (fun H locs hW => ?_)
    refine lv_if_eq (tgt := 17) X.x X.b d_R_later_10 (by decide) (fun c10 => ?_) (fun c10 => ?_)
    · have c10 := b2i_e c10
      have c10 := mt (inR_i (by omega) (by decide)).mpr c10
      omega
    · have c10 := b2i_n c10
      have c10 := (inR_i (by omega) (by decide)).mp c10
      refine lv_iconst (v := nI 1) X.x X.b d_R_later_13 (by decide) ?_
      refine lv_goto (tgt := 18) X.x X.b d_R_later_14 (by decide) ?_
      refine lv_istore (lv' := [(4, .int (nI 1)), (0, .ref (eA E 70)), (1, .int (nI w)), (2, .int (nI 3)), (3, .int (nI n))]) X.x X.b d_R_later_18 hl (by decide) rfl (fun ls hl => ?_)
      refine lv_aload_n X.x X.b d_R_later_20 rfl (lv_at hl 1 rfl) ?_
      refine lv_iload_n X.x X.b d_R_later_21 rfl (lv_at hl 2 rfl) ?_
      refine q_cvi X (c_R_isWalker l E (qr (qr S 18 α) 16 ν) ν (by rw [qr_at]) hwf (nI w)) hW (q_recv X hW ds_R rfl) ok_R_isWalker mw_841 ⟨by decide, by decide⟩ (As := [.int (nI w)]) rfl rfl (Nat.le_of_ble_eq_true rfl) (lv := [(4, .int (nI 1)), (0, .ref (eA E 70)), (1, .int (nI w)), (2, .int (nI 3)), (3, .int (nI n))]) hl ⟨Nat.le_refl 0, Nat.le_refl 0⟩ d_R_later_22 (fun H locs hW => ?_)
      refine lv_if_eq (tgt := 56) X.x X.b d_R_later_25 (by decide) (fun c25 => ?_) (fun c25 => ?_)
      · have c25 := b2i_e c25
        have c25 := mt (isW_i hwf (by omega)).mpr c25
        omega
      · have c25 := b2i_n c25
        have c25 := (isW_i hwf (by omega)).mp c25
        refine lv_iload X.x X.b d_R_later_28 (lv_at hl 0 rfl) ?_
        refine lv_if_eq (tgt := 56) X.x X.b d_R_later_30 (by decide) (fun c30 => ?_) (fun c30 => ?_)
        · exact absurd c30 (by decide)
        · have c30 : ¬ 1 = 0 := fun z => c30 ((nI_eq (a := 1) (b := 0) (by omega) (by omega)).mpr z)
          refine lv_iload_n X.x X.b d_R_later_33 rfl (lv_at hl 4 rfl) ?_
          refine lv_iconst (v := nI 0) X.x X.b d_R_later_34 (by decide) ?_
          refine lv_bipush (v := nI 100) X.x X.b d_R_later_35 (by decide) ?_
          refine q_csi X (c_R_within l E (qr (qr S 18 α) 16 ν) (nI n) (nI 0) (nI 100)) hW ok_R_within mw_757 ⟨by decide, by decide⟩ (As := [.int (nI n), .int (nI 0), .int (nI 100)]) rfl rfl (Nat.le_of_ble_eq_true rfl) (lv := [(4, .int (nI 1)), (0, .ref (eA E 70)), (1, .int (nI w)), (2, .int (nI 3)), (3, .int (nI n))]) hl ⟨Nat.le_refl 0, Nat.le_refl 0⟩ d_R_later_37 (fun H locs hW => ?_)
          refine lv_if_eq (tgt := 56) X.x X.b d_R_later_40 (by decide) (fun c40 => ?_) (fun c40 => ?_)
          · have c40 := b2i_e c40
            have c40 := mt (inR_i (by omega) (by decide)).mpr c40
            omega
          · have c40 := b2i_n c40
            have c40 := (inR_i (by omega) (by decide)).mp c40
            refine lv_aload_n X.x X.b d_R_later_43 rfl (lv_at hl 1 rfl) ?_
            refine lv_iload_n X.x X.b d_R_later_44 rfl (lv_at hl 2 rfl) ?_
            refine lv_iload_n X.x X.b d_R_later_45 rfl (lv_at hl 3 rfl) ?_
            refine q_csi X (c_R_walkerAt l E (qr (qr S 18 α) 16 ν) w 3) hW ok_R_walkerAt mw_802 ⟨by decide, by decide⟩ (As := [.int (nI w), .int (nI 3)]) rfl rfl (Nat.le_of_ble_eq_true rfl) (lv := [(4, .int (nI 1)), (0, .ref (eA E 70)), (1, .int (nI w)), (2, .int (nI 3)), (3, .int (nI n))]) hl ⟨Nat.le_refl 0, Nat.le_refl 0⟩ d_R_later_46 (fun H locs hW => ?_)
            refine lv_iload_n X.x X.b d_R_later_49 rfl (lv_at hl 4 rfl) ?_
            refine q_cvip X (c_R_behind l E (qr (qr S 18 α) 16 ν) ν (by rw [qr_at]) hwf α (by rw [qr_ne (by omega), qr_at]) (44 + 6 * w + 3) n (by omega) (by omega)) hW (q_recv X hW ds_R rfl) ok_R_behind mw_955 ⟨by decide, by decide⟩ (As := [.int (nI (44 + 6 * w + 3)), .int (nI n)]) rfl rfl (Nat.le_of_ble_eq_true rfl) (lv := [(4, .int (nI 1)), (0, .ref (eA E 70)), (1, .int (nI w)), (2, .int (nI 3)), (3, .int (nI n))]) hl ⟨Nat.le_refl 0, Nat.le_refl 0⟩ d_R_later_50 (fun H locs Sq50 hP50 hW => ?_)
            obtain ⟨τ50, α50, hτ50, rfl⟩ := hP50
            have hW : qWH E (qr (qr S 18 α50) 16 τ50) s H locs := (by have h := hW; rw [qr_in (by omega), qr_in (by omega)] at h; exact h)
            refine lv_goto (tgt := 62) X.x X.b d_R_later_53 (by decide) ?_
            exact q_pzret X rfl hW ⟨rfl, ⟨_, _, hτ50, rfl⟩⟩ d_R_later_62
set_option maxHeartbeats 1000000 in
set_option maxRecDepth 20000 in
theorem c_R_later_4 (l : Launch) (E : QE) (S : QM) (ν : Nat → Int32) (hν : S 16 = ν) (hwf : WF ν) (α : Nat → Int32) (hα : S 18 = α) (w n : Nat) (hw : w < nW ν) (hn : n ≤ 100) : qCPi E l y_R_later prog_7_method_59_code 5 .int 10 [.ref (eA E 70), .int (nI w), .int (nI 4), .int (nI n)] S (daysS n ν (44 + 6 * w + 4)) (bhG S ν) := by
  refine qCPi_of (by decide) (Nat.le_of_ble_eq_true rfl) (fun p e s m below meth c ls X hW hl => ?_)
  have hl : lv_has ls 5 [(0, .ref (eA E 70)), (1, .int (nI w)), (2, .int (nI 4)), (3, .int (nI n))] := hl
  have hW : qWH E (qr (qr S 18 α) 16 ν) s s.heap [] := by rw [show qr (qr S 18 α) 16 ν = S from by rw [← hα, qr_self, ← hν, qr_self]]; exact hW
  have htl := hwf.tl
  have hwl := hwf.wl
  have hdl := hwf.dl
  refine lv_iload_n X.x X.b d_R_later_0 rfl (lv_at hl 2 rfl) ?_
  refine lv_if_eq (tgt := 13) X.x X.b d_R_later_1 (by decide) (fun c1 => ?_) (fun c1 => ?_)
  · exact absurd c1 (by decide)
  · have c1 : ¬ 4 = 0 := fun z => c1 ((nI_eq (a := 4) (b := 0) (by omega) (by omega)).mpr z)
    refine lv_iload_n X.x X.b d_R_later_4 rfl (lv_at hl 2 rfl) ?_
    refine lv_iconst (v := nI 3) X.x X.b d_R_later_5 (by decide) ?_
    refine lv_iconst (v := nI 5) X.x X.b d_R_later_6 (by decide) ?_
    refine q_csi X (c_R_within l E (qr (qr S 18 α) 16 ν) (nI 4) (nI 3) (nI 5)) hW ok_R_within mw_757 ⟨by decide, by decide⟩ (As := [.int (nI 4), .int (nI 3), .int (nI 5)]) rfl rfl (Nat.le_of_ble_eq_true rfl) (lv := [(0, .ref (eA E 70)), (1, .int (nI w)), (2, .int (nI 4)), (3, .int (nI n))]) hl ⟨Nat.le_refl 0, Nat.le_refl 0⟩ d_R_later_7 (fun H locs hW => ?_)
    refine lv_if_eq (tgt := 17) X.x X.b d_R_later_10 (by decide) (fun c10 => ?_) (fun c10 => ?_)
    · have c10 := b2i_e c10
      have c10 := mt (inR_i (by omega) (by decide)).mpr c10
      omega
    · have c10 := b2i_n c10
      have c10 := (inR_i (by omega) (by decide)).mp c10
      refine lv_iconst (v := nI 1) X.x X.b d_R_later_13 (by decide) ?_
      refine lv_goto (tgt := 18) X.x X.b d_R_later_14 (by decide) ?_
      refine lv_istore (lv' := [(4, .int (nI 1)), (0, .ref (eA E 70)), (1, .int (nI w)), (2, .int (nI 4)), (3, .int (nI n))]) X.x X.b d_R_later_18 hl (by decide) rfl (fun ls hl => ?_)
      refine lv_aload_n X.x X.b d_R_later_20 rfl (lv_at hl 1 rfl) ?_
      refine lv_iload_n X.x X.b d_R_later_21 rfl (lv_at hl 2 rfl) ?_
      refine q_cvi X (c_R_isWalker l E (qr (qr S 18 α) 16 ν) ν (by rw [qr_at]) hwf (nI w)) hW (q_recv X hW ds_R rfl) ok_R_isWalker mw_841 ⟨by decide, by decide⟩ (As := [.int (nI w)]) rfl rfl (Nat.le_of_ble_eq_true rfl) (lv := [(4, .int (nI 1)), (0, .ref (eA E 70)), (1, .int (nI w)), (2, .int (nI 4)), (3, .int (nI n))]) hl ⟨Nat.le_refl 0, Nat.le_refl 0⟩ d_R_later_22 (fun H locs hW => ?_)
      refine lv_if_eq (tgt := 56) X.x X.b d_R_later_25 (by decide) (fun c25 => ?_) (fun c25 => ?_)
      · have c25 := b2i_e c25
        have c25 := mt (isW_i hwf (by omega)).mpr c25
        omega
      · have c25 := b2i_n c25
        have c25 := (isW_i hwf (by omega)).mp c25
        refine lv_iload X.x X.b d_R_later_28 (lv_at hl 0 rfl) ?_
        refine lv_if_eq (tgt := 56) X.x X.b d_R_later_30 (by decide) (fun c30 => ?_) (fun c30 => ?_)
        · exact absurd c30 (by decide)
        · have c30 : ¬ 1 = 0 := fun z => c30 ((nI_eq (a := 1) (b := 0) (by omega) (by omega)).mpr z)
          refine lv_iload_n X.x X.b d_R_later_33 rfl (lv_at hl 4 rfl) ?_
          refine lv_iconst (v := nI 0) X.x X.b d_R_later_34 (by decide) ?_
          refine lv_bipush (v := nI 100) X.x X.b d_R_later_35 (by decide) ?_
          refine q_csi X (c_R_within l E (qr (qr S 18 α) 16 ν) (nI n) (nI 0) (nI 100)) hW ok_R_within mw_757 ⟨by decide, by decide⟩ (As := [.int (nI n), .int (nI 0), .int (nI 100)]) rfl rfl (Nat.le_of_ble_eq_true rfl) (lv := [(4, .int (nI 1)), (0, .ref (eA E 70)), (1, .int (nI w)), (2, .int (nI 4)), (3, .int (nI n))]) hl ⟨Nat.le_refl 0, Nat.le_refl 0⟩ d_R_later_37 (fun H locs hW => ?_)
          refine lv_if_eq (tgt := 56) X.x X.b d_R_later_40 (by decide) (fun c40 => ?_) (fun c40 => ?_)
          · have c40 := b2i_e c40
            have c40 := mt (inR_i (by omega) (by decide)).mpr c40
            omega
          · have c40 := b2i_n c40
            have c40 := (inR_i (by omega) (by decide)).mp c40
            refine lv_aload_n X.x X.b d_R_later_43 rfl (lv_at hl 1 rfl) ?_
            refine lv_iload_n X.x X.b d_R_later_44 rfl (lv_at hl 2 rfl) ?_
            refine lv_iload_n X.x X.b d_R_later_45 rfl (lv_at hl 3 rfl) ?_
            refine q_csi X (c_R_walkerAt l E (qr (qr S 18 α) 16 ν) w 4) hW ok_R_walkerAt mw_802 ⟨by decide, by decide⟩ (As := [.int (nI w), .int (nI 4)]) rfl rfl (Nat.le_of_ble_eq_true rfl) (lv := [(4, .int (nI 1)), (0, .ref (eA E 70)), (1, .int (nI w)), (2, .int (nI 4)), (3, .int (nI n))]) hl ⟨Nat.le_refl 0, Nat.le_refl 0⟩ d_R_later_46 (fun H locs hW => ?_)
            refine lv_iload_n X.x X.b d_R_later_49 rfl (lv_at hl 4 rfl) ?_
            refine q_cvip X (c_R_behind l E (qr (qr S 18 α) 16 ν) ν (by rw [qr_at]) hwf α (by rw [qr_ne (by omega), qr_at]) (44 + 6 * w + 4) n (by omega) (by omega)) hW (q_recv X hW ds_R rfl) ok_R_behind mw_955 ⟨by decide, by decide⟩ (As := [.int (nI (44 + 6 * w + 4)), .int (nI n)]) rfl rfl (Nat.le_of_ble_eq_true rfl) (lv := [(4, .int (nI 1)), (0, .ref (eA E 70)), (1, .int (nI w)), (2, .int (nI 4)), (3, .int (nI n))]) hl ⟨Nat.le_refl 0, Nat.le_refl 0⟩ d_R_later_50 (fun H locs Sq50 hP50 hW => ?_)
            obtain ⟨τ50, α50, hτ50, rfl⟩ := hP50
            have hW : qWH E (qr (qr S 18 α50) 16 τ50) s H locs := (by have h := hW; rw [qr_in (by omega), qr_in (by omega)] at h; exact h)
            refine lv_goto (tgt := 62) X.x X.b d_R_later_53 (by decide) ?_
            exact q_pzret X rfl hW ⟨rfl, ⟨_, _, hτ50, rfl⟩⟩ d_R_later_62
set_option maxHeartbeats 1000000 in
set_option maxRecDepth 20000 in
theorem c_R_later_5 (l : Launch) (E : QE) (S : QM) (ν : Nat → Int32) (hν : S 16 = ν) (hwf : WF ν) (α : Nat → Int32) (hα : S 18 = α) (w n : Nat) (hw : w < nW ν) (hn : n ≤ 100) : qCPi E l y_R_later prog_7_method_59_code 5 .int 10 [.ref (eA E 70), .int (nI w), .int (nI 5), .int (nI n)] S (daysS n ν (44 + 6 * w + 5)) (bhG S ν) := by
  refine qCPi_of (by decide) (Nat.le_of_ble_eq_true rfl) (fun p e s m below meth c ls X hW hl => ?_)
  have hl : lv_has ls 5 [(0, .ref (eA E 70)), (1, .int (nI w)), (2, .int (nI 5)), (3, .int (nI n))] := hl
  have hW : qWH E (qr (qr S 18 α) 16 ν) s s.heap [] := by rw [show qr (qr S 18 α) 16 ν = S from by rw [← hα, qr_self, ← hν, qr_self]]; exact hW
  have htl := hwf.tl
  have hwl := hwf.wl
  have hdl := hwf.dl
  refine lv_iload_n X.x X.b d_R_later_0 rfl (lv_at hl 2 rfl) ?_
  refine lv_if_eq (tgt := 13) X.x X.b d_R_later_1 (by decide) (fun c1 => ?_) (fun c1 => ?_)
  · exact absurd c1 (by decide)
  · have c1 : ¬ 5 = 0 := fun z => c1 ((nI_eq (a := 5) (b := 0) (by omega) (by omega)).mpr z)
    refine lv_iload_n X.x X.b d_R_later_4 rfl (lv_at hl 2 rfl) ?_
    refine lv_iconst (v := nI 3) X.x X.b d_R_later_5 (by decide) ?_
    refine lv_iconst (v := nI 5) X.x X.b d_R_later_6 (by decide) ?_
    refine q_csi X (c_R_within l E (qr (qr S 18 α) 16 ν) (nI 5) (nI 3) (nI 5)) hW ok_R_within mw_757 ⟨by decide, by decide⟩ (As := [.int (nI 5), .int (nI 3), .int (nI 5)]) rfl rfl (Nat.le_of_ble_eq_true rfl) (lv := [(0, .ref (eA E 70)), (1, .int (nI w)), (2, .int (nI 5)), (3, .int (nI n))]) hl ⟨Nat.le_refl 0, Nat.le_refl 0⟩ d_R_later_7 (fun H locs hW => ?_)
    refine lv_if_eq (tgt := 17) X.x X.b d_R_later_10 (by decide) (fun c10 => ?_) (fun c10 => ?_)
    · have c10 := b2i_e c10
      have c10 := mt (inR_i (by omega) (by decide)).mpr c10
      omega
    · have c10 := b2i_n c10
      have c10 := (inR_i (by omega) (by decide)).mp c10
      refine lv_iconst (v := nI 1) X.x X.b d_R_later_13 (by decide) ?_
      refine lv_goto (tgt := 18) X.x X.b d_R_later_14 (by decide) ?_
      refine lv_istore (lv' := [(4, .int (nI 1)), (0, .ref (eA E 70)), (1, .int (nI w)), (2, .int (nI 5)), (3, .int (nI n))]) X.x X.b d_R_later_18 hl (by decide) rfl (fun ls hl => ?_)
      refine lv_aload_n X.x X.b d_R_later_20 rfl (lv_at hl 1 rfl) ?_
      refine lv_iload_n X.x X.b d_R_later_21 rfl (lv_at hl 2 rfl) ?_
      refine q_cvi X (c_R_isWalker l E (qr (qr S 18 α) 16 ν) ν (by rw [qr_at]) hwf (nI w)) hW (q_recv X hW ds_R rfl) ok_R_isWalker mw_841 ⟨by decide, by decide⟩ (As := [.int (nI w)]) rfl rfl (Nat.le_of_ble_eq_true rfl) (lv := [(4, .int (nI 1)), (0, .ref (eA E 70)), (1, .int (nI w)), (2, .int (nI 5)), (3, .int (nI n))]) hl ⟨Nat.le_refl 0, Nat.le_refl 0⟩ d_R_later_22 (fun H locs hW => ?_)
      refine lv_if_eq (tgt := 56) X.x X.b d_R_later_25 (by decide) (fun c25 => ?_) (fun c25 => ?_)
      · have c25 := b2i_e c25
        have c25 := mt (isW_i hwf (by omega)).mpr c25
        omega
      · have c25 := b2i_n c25
        have c25 := (isW_i hwf (by omega)).mp c25
        refine lv_iload X.x X.b d_R_later_28 (lv_at hl 0 rfl) ?_
        refine lv_if_eq (tgt := 56) X.x X.b d_R_later_30 (by decide) (fun c30 => ?_) (fun c30 => ?_)
        · exact absurd c30 (by decide)
        · have c30 : ¬ 1 = 0 := fun z => c30 ((nI_eq (a := 1) (b := 0) (by omega) (by omega)).mpr z)
          refine lv_iload_n X.x X.b d_R_later_33 rfl (lv_at hl 4 rfl) ?_
          refine lv_iconst (v := nI 0) X.x X.b d_R_later_34 (by decide) ?_
          refine lv_bipush (v := nI 100) X.x X.b d_R_later_35 (by decide) ?_
          refine q_csi X (c_R_within l E (qr (qr S 18 α) 16 ν) (nI n) (nI 0) (nI 100)) hW ok_R_within mw_757 ⟨by decide, by decide⟩ (As := [.int (nI n), .int (nI 0), .int (nI 100)]) rfl rfl (Nat.le_of_ble_eq_true rfl) (lv := [(4, .int (nI 1)), (0, .ref (eA E 70)), (1, .int (nI w)), (2, .int (nI 5)), (3, .int (nI n))]) hl ⟨Nat.le_refl 0, Nat.le_refl 0⟩ d_R_later_37 (fun H locs hW => ?_)
          refine lv_if_eq (tgt := 56) X.x X.b d_R_later_40 (by decide) (fun c40 => ?_) (fun c40 => ?_)
          · have c40 := b2i_e c40
            have c40 := mt (inR_i (by omega) (by decide)).mpr c40
            omega
          · have c40 := b2i_n c40
            have c40 := (inR_i (by omega) (by decide)).mp c40
            refine lv_aload_n X.x X.b d_R_later_43 rfl (lv_at hl 1 rfl) ?_
            refine lv_iload_n X.x X.b d_R_later_44 rfl (lv_at hl 2 rfl) ?_
            refine lv_iload_n X.x X.b d_R_later_45 rfl (lv_at hl 3 rfl) ?_
            refine q_csi X (c_R_walkerAt l E (qr (qr S 18 α) 16 ν) w 5) hW ok_R_walkerAt mw_802 ⟨by decide, by decide⟩ (As := [.int (nI w), .int (nI 5)]) rfl rfl (Nat.le_of_ble_eq_true rfl) (lv := [(4, .int (nI 1)), (0, .ref (eA E 70)), (1, .int (nI w)), (2, .int (nI 5)), (3, .int (nI n))]) hl ⟨Nat.le_refl 0, Nat.le_refl 0⟩ d_R_later_46 (fun H locs hW => ?_)
            refine lv_iload_n X.x X.b d_R_later_49 rfl (lv_at hl 4 rfl) ?_
            refine q_cvip X (c_R_behind l E (qr (qr S 18 α) 16 ν) ν (by rw [qr_at]) hwf α (by rw [qr_ne (by omega), qr_at]) (44 + 6 * w + 5) n (by omega) (by omega)) hW (q_recv X hW ds_R rfl) ok_R_behind mw_955 ⟨by decide, by decide⟩ (As := [.int (nI (44 + 6 * w + 5)), .int (nI n)]) rfl rfl (Nat.le_of_ble_eq_true rfl) (lv := [(4, .int (nI 1)), (0, .ref (eA E 70)), (1, .int (nI w)), (2, .int (nI 5)), (3, .int (nI n))]) hl ⟨Nat.le_refl 0, Nat.le_refl 0⟩ d_R_later_50 (fun H locs Sq50 hP50 hW => ?_)
            obtain ⟨τ50, α50, hτ50, rfl⟩ := hP50
            have hW : qWH E (qr (qr S 18 α50) 16 τ50) s H locs := (by have h := hW; rw [qr_in (by omega), qr_in (by omega)] at h; exact h)
            refine lv_goto (tgt := 62) X.x X.b d_R_later_53 (by decide) ?_
            exact q_pzret X rfl hW ⟨rfl, ⟨_, _, hτ50, rfl⟩⟩ d_R_later_62
set_option maxHeartbeats 1000000 in
set_option maxRecDepth 20000 in
theorem c_R_later_b (l : Launch) (E : QE) (S : QM) (ν : Nat → Int32) (hν : S 16 = ν) (hwf : WF ν) (ψ : Nat → Int32) (hψ : S 19 = ψ) (x y z : Int32) (h : ¬ (isW ν x ∧ (y = 0 ∨ inR 3 5 y) ∧ inR 0 100 z)) : qCI E l y_R_later prog_7_method_59_code 5 .int 4 [.ref (eA E 70), .int x, .int y, .int z] S (-1000001) (qr S 19 (fnR ψ 0)) := by
  refine qCI_of (by decide) (Nat.le_of_ble_eq_true rfl) (fun p e s m below meth c ls X hW hl => ?_)
  have hl : lv_has ls 5 [(0, .ref (eA E 70)), (1, .int x), (2, .int y), (3, .int z)] := hl
  have htl := hwf.tl
  have hwl := hwf.wl
  have hdl := hwf.dl
  refine lv_iload_n X.x X.b d_R_later_0 rfl (lv_at hl 2 rfl) ?_
  refine lv_if_eq (tgt := 13) X.x X.b d_R_later_1 (by decide) (fun c1 => ?_) (fun c1 => ?_)
  · refine lv_iconst (v := nI 1) X.x X.b d_R_later_13 (by decide) ?_
    refine lv_goto (tgt := 18) X.x X.b d_R_later_14 (by decide) ?_
    refine lv_istore (lv' := [(4, .int (nI 1)), (0, .ref (eA E 70)), (1, .int x), (2, .int y), (3, .int z)]) X.x X.b d_R_later_18 hl (by decide) rfl (fun ls hl => ?_)
    refine lv_aload_n X.x X.b d_R_later_20 rfl (lv_at hl 1 rfl) ?_
    refine lv_iload_n X.x X.b d_R_later_21 rfl (lv_at hl 2 rfl) ?_
    refine q_cvi X (c_R_isWalker l E S ν (by rw [hν]) hwf x) hW (q_recv X hW ds_R rfl) ok_R_isWalker mw_841 ⟨by decide, by decide⟩ (As := [.int x]) rfl rfl (Nat.le_of_ble_eq_true rfl) (lv := [(4, .int (nI 1)), (0, .ref (eA E 70)), (1, .int x), (2, .int y), (3, .int z)]) hl ⟨Nat.le_refl 0, Nat.le_refl 0⟩ d_R_later_22 (fun H locs hW => ?_)
    refine lv_if_eq (tgt := 56) X.x X.b d_R_later_25 (by decide) (fun c25 => ?_) (fun c25 => ?_)
    · have c25 := b2i_e c25
      refine lv_aload_n X.x X.b d_R_later_56 rfl (lv_at hl 1 rfl) ?_
      refine lv_ldc (v := (-1000001)) X.x X.b X.ow (X.ts _ mw_767) d_R_later_57 ?_
      refine q_cvi X (c_R_finding_0 l E S ψ (by rw [hψ])) hW (q_recv X hW ds_R rfl) ok_R_finding mw_768 ⟨by decide, by decide⟩ (As := [.int (-1000001)]) rfl rfl (Nat.le_of_ble_eq_true rfl) (lv := [(4, .int (nI 1)), (0, .ref (eA E 70)), (1, .int x), (2, .int y), (3, .int z)]) hl ⟨Nat.le_refl 0, Nat.le_refl 0⟩ d_R_later_59 (fun H locs hW => ?_)
      have hW : qWH E (qr S 19 (fnR ψ 0)) s H locs := hW
      exact q_zret X rfl hW ⟨rfl, rfl⟩ d_R_later_62
    · have c25 := b2i_n c25
      refine lv_iload X.x X.b d_R_later_28 (lv_at hl 0 rfl) ?_
      refine lv_if_eq (tgt := 56) X.x X.b d_R_later_30 (by decide) (fun c30 => ?_) (fun c30 => ?_)
      · exact absurd c30 (by decide)
      · have c30 : ¬ 1 = 0 := fun z => c30 ((nI_eq (a := 1) (b := 0) (by omega) (by omega)).mpr z)
        refine lv_iload_n X.x X.b d_R_later_33 rfl (lv_at hl 4 rfl) ?_
        refine lv_iconst (v := nI 0) X.x X.b d_R_later_34 (by decide) ?_
        refine lv_bipush (v := nI 100) X.x X.b d_R_later_35 (by decide) ?_
        refine q_csi X (c_R_within l E S z (nI 0) (nI 100)) hW ok_R_within mw_757 ⟨by decide, by decide⟩ (As := [.int z, .int (nI 0), .int (nI 100)]) rfl rfl (Nat.le_of_ble_eq_true rfl) (lv := [(4, .int (nI 1)), (0, .ref (eA E 70)), (1, .int x), (2, .int y), (3, .int z)]) hl ⟨Nat.le_refl 0, Nat.le_refl 0⟩ d_R_later_37 (fun H locs hW => ?_)
        refine lv_if_eq (tgt := 56) X.x X.b d_R_later_40 (by decide) (fun c40 => ?_) (fun c40 => ?_)
        · have c40 := b2i_e c40
          refine lv_aload_n X.x X.b d_R_later_56 rfl (lv_at hl 1 rfl) ?_
          refine lv_ldc (v := (-1000001)) X.x X.b X.ow (X.ts _ mw_767) d_R_later_57 ?_
          refine q_cvi X (c_R_finding_0 l E S ψ (by rw [hψ])) hW (q_recv X hW ds_R rfl) ok_R_finding mw_768 ⟨by decide, by decide⟩ (As := [.int (-1000001)]) rfl rfl (Nat.le_of_ble_eq_true rfl) (lv := [(4, .int (nI 1)), (0, .ref (eA E 70)), (1, .int x), (2, .int y), (3, .int z)]) hl ⟨Nat.le_refl 0, Nat.le_refl 0⟩ d_R_later_59 (fun H locs hW => ?_)
          have hW : qWH E (qr S 19 (fnR ψ 0)) s H locs := hW
          exact q_zret X rfl hW ⟨rfl, rfl⟩ d_R_later_62
        · have c40 := b2i_n c40
          exact absurd ⟨c25, by first | exact Or.inl c1 | exact Or.inr c10, c40⟩ h
  · refine lv_iload_n X.x X.b d_R_later_4 rfl (lv_at hl 2 rfl) ?_
    refine lv_iconst (v := nI 3) X.x X.b d_R_later_5 (by decide) ?_
    refine lv_iconst (v := nI 5) X.x X.b d_R_later_6 (by decide) ?_
    refine q_csi X (c_R_within l E S y (nI 3) (nI 5)) hW ok_R_within mw_757 ⟨by decide, by decide⟩ (As := [.int y, .int (nI 3), .int (nI 5)]) rfl rfl (Nat.le_of_ble_eq_true rfl) (lv := [(0, .ref (eA E 70)), (1, .int x), (2, .int y), (3, .int z)]) hl ⟨Nat.le_refl 0, Nat.le_refl 0⟩ d_R_later_7 (fun H locs hW => ?_)
    refine lv_if_eq (tgt := 17) X.x X.b d_R_later_10 (by decide) (fun c10 => ?_) (fun c10 => ?_)
    · have c10 := b2i_e c10
      refine lv_iconst (v := nI 0) X.x X.b d_R_later_17 (by decide) ?_
      refine lv_istore (lv' := [(4, .int (nI 0)), (0, .ref (eA E 70)), (1, .int x), (2, .int y), (3, .int z)]) X.x X.b d_R_later_18 hl (by decide) rfl (fun ls hl => ?_)
      refine lv_aload_n X.x X.b d_R_later_20 rfl (lv_at hl 1 rfl) ?_
      refine lv_iload_n X.x X.b d_R_later_21 rfl (lv_at hl 2 rfl) ?_
      refine q_cvi X (c_R_isWalker l E S ν (by rw [hν]) hwf x) hW (q_recv X hW ds_R rfl) ok_R_isWalker mw_841 ⟨by decide, by decide⟩ (As := [.int x]) rfl rfl (Nat.le_of_ble_eq_true rfl) (lv := [(4, .int (nI 0)), (0, .ref (eA E 70)), (1, .int x), (2, .int y), (3, .int z)]) hl ⟨Nat.le_refl 0, Nat.le_refl 0⟩ d_R_later_22 (fun H locs hW => ?_)
      refine lv_if_eq (tgt := 56) X.x X.b d_R_later_25 (by decide) (fun c25 => ?_) (fun c25 => ?_)
      · have c25 := b2i_e c25
        refine lv_aload_n X.x X.b d_R_later_56 rfl (lv_at hl 1 rfl) ?_
        refine lv_ldc (v := (-1000001)) X.x X.b X.ow (X.ts _ mw_767) d_R_later_57 ?_
        refine q_cvi X (c_R_finding_0 l E S ψ (by rw [hψ])) hW (q_recv X hW ds_R rfl) ok_R_finding mw_768 ⟨by decide, by decide⟩ (As := [.int (-1000001)]) rfl rfl (Nat.le_of_ble_eq_true rfl) (lv := [(4, .int (nI 0)), (0, .ref (eA E 70)), (1, .int x), (2, .int y), (3, .int z)]) hl ⟨Nat.le_refl 0, Nat.le_refl 0⟩ d_R_later_59 (fun H locs hW => ?_)
        have hW : qWH E (qr S 19 (fnR ψ 0)) s H locs := hW
        exact q_zret X rfl hW ⟨rfl, rfl⟩ d_R_later_62
      · have c25 := b2i_n c25
        refine lv_iload X.x X.b d_R_later_28 (lv_at hl 0 rfl) ?_
        refine lv_if_eq (tgt := 56) X.x X.b d_R_later_30 (by decide) (fun c30 => ?_) (fun c30 => ?_)
        · have c30 : 0 = 0 := (nI_eq (a := 0) (b := 0) (by omega) (by omega)).mp c30
          refine lv_aload_n X.x X.b d_R_later_56 rfl (lv_at hl 1 rfl) ?_
          refine lv_ldc (v := (-1000001)) X.x X.b X.ow (X.ts _ mw_767) d_R_later_57 ?_
          refine q_cvi X (c_R_finding_0 l E S ψ (by rw [hψ])) hW (q_recv X hW ds_R rfl) ok_R_finding mw_768 ⟨by decide, by decide⟩ (As := [.int (-1000001)]) rfl rfl (Nat.le_of_ble_eq_true rfl) (lv := [(4, .int (nI 0)), (0, .ref (eA E 70)), (1, .int x), (2, .int y), (3, .int z)]) hl ⟨Nat.le_refl 0, Nat.le_refl 0⟩ d_R_later_59 (fun H locs hW => ?_)
          have hW : qWH E (qr S 19 (fnR ψ 0)) s H locs := hW
          exact q_zret X rfl hW ⟨rfl, rfl⟩ d_R_later_62
        · exact absurd (by decide) c30
    · have c10 := b2i_n c10
      refine lv_iconst (v := nI 1) X.x X.b d_R_later_13 (by decide) ?_
      refine lv_goto (tgt := 18) X.x X.b d_R_later_14 (by decide) ?_
      refine lv_istore (lv' := [(4, .int (nI 1)), (0, .ref (eA E 70)), (1, .int x), (2, .int y), (3, .int z)]) X.x X.b d_R_later_18 hl (by decide) rfl (fun ls hl => ?_)
      refine lv_aload_n X.x X.b d_R_later_20 rfl (lv_at hl 1 rfl) ?_
      refine lv_iload_n X.x X.b d_R_later_21 rfl (lv_at hl 2 rfl) ?_
      refine q_cvi X (c_R_isWalker l E S ν (by rw [hν]) hwf x) hW (q_recv X hW ds_R rfl) ok_R_isWalker mw_841 ⟨by decide, by decide⟩ (As := [.int x]) rfl rfl (Nat.le_of_ble_eq_true rfl) (lv := [(4, .int (nI 1)), (0, .ref (eA E 70)), (1, .int x), (2, .int y), (3, .int z)]) hl ⟨Nat.le_refl 0, Nat.le_refl 0⟩ d_R_later_22 (fun H locs hW => ?_)
      refine lv_if_eq (tgt := 56) X.x X.b d_R_later_25 (by decide) (fun c25 => ?_) (fun c25 => ?_)
      · have c25 := b2i_e c25
        refine lv_aload_n X.x X.b d_R_later_56 rfl (lv_at hl 1 rfl) ?_
        refine lv_ldc (v := (-1000001)) X.x X.b X.ow (X.ts _ mw_767) d_R_later_57 ?_
        refine q_cvi X (c_R_finding_0 l E S ψ (by rw [hψ])) hW (q_recv X hW ds_R rfl) ok_R_finding mw_768 ⟨by decide, by decide⟩ (As := [.int (-1000001)]) rfl rfl (Nat.le_of_ble_eq_true rfl) (lv := [(4, .int (nI 1)), (0, .ref (eA E 70)), (1, .int x), (2, .int y), (3, .int z)]) hl ⟨Nat.le_refl 0, Nat.le_refl 0⟩ d_R_later_59 (fun H locs hW => ?_)
        have hW : qWH E (qr S 19 (fnR ψ 0)) s H locs := hW
        exact q_zret X rfl hW ⟨rfl, rfl⟩ d_R_later_62
      · have c25 := b2i_n c25
        refine lv_iload X.x X.b d_R_later_28 (lv_at hl 0 rfl) ?_
        refine lv_if_eq (tgt := 56) X.x X.b d_R_later_30 (by decide) (fun c30 => ?_) (fun c30 => ?_)
        · exact absurd c30 (by decide)
        · have c30 : ¬ 1 = 0 := fun z => c30 ((nI_eq (a := 1) (b := 0) (by omega) (by omega)).mpr z)
          refine lv_iload_n X.x X.b d_R_later_33 rfl (lv_at hl 4 rfl) ?_
          refine lv_iconst (v := nI 0) X.x X.b d_R_later_34 (by decide) ?_
          refine lv_bipush (v := nI 100) X.x X.b d_R_later_35 (by decide) ?_
          refine q_csi X (c_R_within l E S z (nI 0) (nI 100)) hW ok_R_within mw_757 ⟨by decide, by decide⟩ (As := [.int z, .int (nI 0), .int (nI 100)]) rfl rfl (Nat.le_of_ble_eq_true rfl) (lv := [(4, .int (nI 1)), (0, .ref (eA E 70)), (1, .int x), (2, .int y), (3, .int z)]) hl ⟨Nat.le_refl 0, Nat.le_refl 0⟩ d_R_later_37 (fun H locs hW => ?_)
          refine lv_if_eq (tgt := 56) X.x X.b d_R_later_40 (by decide) (fun c40 => ?_) (fun c40 => ?_)
          · have c40 := b2i_e c40
            refine lv_aload_n X.x X.b d_R_later_56 rfl (lv_at hl 1 rfl) ?_
            refine lv_ldc (v := (-1000001)) X.x X.b X.ow (X.ts _ mw_767) d_R_later_57 ?_
            refine q_cvi X (c_R_finding_0 l E S ψ (by rw [hψ])) hW (q_recv X hW ds_R rfl) ok_R_finding mw_768 ⟨by decide, by decide⟩ (As := [.int (-1000001)]) rfl rfl (Nat.le_of_ble_eq_true rfl) (lv := [(4, .int (nI 1)), (0, .ref (eA E 70)), (1, .int x), (2, .int y), (3, .int z)]) hl ⟨Nat.le_refl 0, Nat.le_refl 0⟩ d_R_later_59 (fun H locs hW => ?_)
            have hW : qWH E (qr S 19 (fnR ψ 0)) s H locs := hW
            exact q_zret X rfl hW ⟨rfl, rfl⟩ d_R_later_62
          · have c40 := b2i_n c40
            exact absurd ⟨c25, by first | exact Or.inl c1 | exact Or.inr c10, c40⟩ h
set_option maxHeartbeats 1000000 in
set_option maxRecDepth 20000 in
theorem c_R_areTogether (l : Launch) (E : QE) (S : QM) (ν : Nat → Int32) (hν : S 16 = ν) (w t : Nat) (hw : w < 6) (ht : t < 6) : qCI E l y_R_areTogether prog_7_method_62_code 3 .boolean 3 [.ref (eA E 70), .int (nI w), .int (nI t)] S (b2i (ν (44 + 6 * w) = ν (44 + 6 * t))) S := by
  refine qCI_of (by decide) (Nat.le_of_ble_eq_true rfl) (fun p e s m below meth c ls X hW hl => ?_)
  have hl : lv_has ls 3 [(0, .ref (eA E 70)), (1, .int (nI w)), (2, .int (nI t))] := hl
  refine lv_aload_n X.x X.b d_R_areTogether_0 rfl (lv_at hl 0 rfl) ?_
  refine lv_iload_n X.x X.b d_R_areTogether_1 rfl (lv_at hl 1 rfl) ?_
  refine lv_iconst (v := nI 0) X.x X.b d_R_areTogether_2 (by decide) ?_
  refine q_cvi X (c_R_walkerIs_z l E S ν (by rw [hν]) w (by omega)) hW (q_recv X hW ds_R rfl) ok_R_walkerIs mw_845 ⟨by decide, by decide⟩ (As := [.int (nI w), .int (nI 0)]) rfl rfl (Nat.le_of_ble_eq_true rfl) (lv := [(0, .ref (eA E 70)), (1, .int (nI w)), (2, .int (nI t))]) hl ⟨Nat.le_refl 0, Nat.le_refl 0⟩ d_R_areTogether_3 (fun H locs hW => ?_)
  refine lv_aload_n X.x X.b d_R_areTogether_6 rfl (lv_at hl 0 rfl) ?_
  refine lv_iload_n X.x X.b d_R_areTogether_7 rfl (lv_at hl 2 rfl) ?_
  refine lv_iconst (v := nI 0) X.x X.b d_R_areTogether_8 (by decide) ?_
  refine q_cvi X (c_R_walkerIs_z l E S ν (by rw [hν]) t (by omega)) hW (q_recv X hW ds_R rfl) ok_R_walkerIs mw_845 ⟨by decide, by decide⟩ (As := [.int (nI t), .int (nI 0)]) rfl rfl (Nat.le_of_ble_eq_true rfl) (lv := [(0, .ref (eA E 70)), (1, .int (nI w)), (2, .int (nI t))]) hl ⟨Nat.le_refl 0, Nat.le_refl 0⟩ d_R_areTogether_9 (fun H locs hW => ?_)
  refine lv_icmp_ne (tgt := 19) X.x X.b d_R_areTogether_12 (by decide) (fun c12 => ?_) (fun c12 => ?_)
  · refine lv_iconst (v := nI 0) X.x X.b d_R_areTogether_19 (by decide) ?_
    exact q_zret X (by decide) hW ⟨(b2i_f c12).symm, rfl⟩ d_R_areTogether_20
  · refine lv_iconst (v := nI 1) X.x X.b d_R_areTogether_15 (by decide) ?_
    refine lv_goto (tgt := 20) X.x X.b d_R_areTogether_16 (by decide) ?_
    exact q_zret X (by decide) hW ⟨(b2i_t c12).symm, rfl⟩ d_R_areTogether_20
set_option maxHeartbeats 1000000 in
set_option maxRecDepth 20000 in
theorem c_R_arrives_g (l : Launch) (E : QE) (S : QM) (ν : Nat → Int32) (hν : S 16 = ν) (hwf : WF ν) (α : Nat → Int32) (hα : S 18 = α) (w v : Nat) (hw : w < nW ν) (hv : v ≤ 9999) (hF : (lst (fun d => nI v ≤ (daysS d ν) (44 + 6 * w + 4)) 201 0) < 201) : qCPi E l y_R_arrives prog_7_method_60_code 4 .int 9 [.ref (eA E 70), .int (nI w), .int (nI v)] S (nI (lst (fun d => nI v ≤ (daysS d ν) (44 + 6 * w + 4)) 201 0)) (bhG S ν) := by
  refine qCPi_of (by decide) (Nat.le_of_ble_eq_true rfl) (fun p e s m below meth c ls X hW hl => ?_)
  have hl : lv_has ls 4 [(0, .ref (eA E 70)), (1, .int (nI w)), (2, .int (nI v))] := hl
  have hW : qWH E (qr (qr S 18 α) 16 ν) s s.heap [] := by rw [show qr (qr S 18 α) 16 ν = S from by rw [← hα, qr_self, ← hν, qr_self]]; exact hW
  have htl := hwf.tl
  have hwl := hwf.wl
  have hdl := hwf.dl
  refine lv_aload_n X.x X.b d_R_arrives_0 rfl (lv_at hl 0 rfl) ?_
  refine lv_iload_n X.x X.b d_R_arrives_1 rfl (lv_at hl 1 rfl) ?_
  refine q_cvi X (c_R_isWalker l E (qr (qr S 18 α) 16 ν) ν (by rw [qr_at]) hwf (nI w)) hW (q_recv X hW ds_R rfl) ok_R_isWalker mw_841 ⟨by decide, by decide⟩ (As := [.int (nI w)]) rfl rfl (Nat.le_of_ble_eq_true rfl) (lv := [(0, .ref (eA E 70)), (1, .int (nI w)), (2, .int (nI v))]) hl ⟨Nat.le_refl 0, Nat.le_refl 0⟩ d_R_arrives_2 (fun H locs hW => ?_)
  refine lv_if_eq (tgt := 19) X.x X.b d_R_arrives_5 (by decide) (fun c5 => ?_) (fun c5 => ?_)
  · have c5 := b2i_e c5
    have c5 := mt (isW_i hwf (by omega)).mpr c5
    omega
  · have c5 := b2i_n c5
    have c5 := (isW_i hwf (by omega)).mp c5
    refine lv_iload_n X.x X.b d_R_arrives_8 rfl (lv_at hl 2 rfl) ?_
    refine lv_iconst (v := nI 0) X.x X.b d_R_arrives_9 (by decide) ?_
    refine lv_sipush (v := nI 9999) X.x X.b d_R_arrives_10 (by decide) ?_
    refine q_csi X (c_R_within l E (qr (qr S 18 α) 16 ν) (nI v) (nI 0) (nI 9999)) hW ok_R_within mw_757 ⟨by decide, by decide⟩ (As := [.int (nI v), .int (nI 0), .int (nI 9999)]) rfl rfl (Nat.le_of_ble_eq_true rfl) (lv := [(0, .ref (eA E 70)), (1, .int (nI w)), (2, .int (nI v))]) hl ⟨Nat.le_refl 0, Nat.le_refl 0⟩ d_R_arrives_13 (fun H locs hW => ?_)
    refine lv_if_ne (tgt := 26) X.x X.b d_R_arrives_16 (by decide) (fun c16 => ?_) (fun c16 => ?_)
    · have c16 := b2i_n c16
      have c16 := (inR_i (by omega) (by decide)).mp c16
      refine lv_aload_n X.x X.b d_R_arrives_26 rfl (lv_at hl 0 rfl) ?_
      refine q_getr X hW qj4 rfl _ ds_R 0 (by decide) mw_686 rfl (c1 := 71) rfl d_R_arrives_27 ?_
      refine lv_aload_n X.x X.b d_R_arrives_30 rfl (lv_at hl 0 rfl) ?_
      refine q_getr X hW qj4 rfl _ ds_R 2 (by decide) mw_688 rfl (c1 := 73) rfl d_R_arrives_31 ?_
      refine q_csv X (c_R_copyRow_na l E (qr (qr S 18 α) 16 ν) ν α (by rw [qr_at]) (by rw [qr_ne (by omega), qr_at])) hW ok_R_copyRow mw_959 ⟨by decide, by decide⟩ (As := [.ref (eA E 71), .ref (eA E 73)]) rfl rfl (Nat.le_of_ble_eq_true rfl) (lv := [(0, .ref (eA E 70)), (1, .int (nI w)), (2, .int (nI v))]) hl ⟨Nat.le_refl 0, Nat.le_refl 0⟩ d_R_arrives_34 (fun H locs hW => ?_)
      have hW : qWH E (qr (qr S 18 (c80 ν α 80)) 16 ν) s H locs := (by have h := hW; rw [qr_in (by omega)] at h; exact h)
      refine lv_iconst (v := nI 0) X.x X.b d_R_arrives_37 (by decide) ?_
      refine lv_istore_n (lv' := [(3, .int (nI 0)), (0, .ref (eA E 70)), (1, .int (nI w)), (2, .int (nI v))]) X.x X.b d_R_arrives_38 rfl hl (by decide) rfl (fun ls hl => ?_)
      have loop39 : ∀ (fu39 : Nat) (j : Nat) (μ : Nat → Int32), j ≤ 200 → μ = daysS j ν → lst (fun d => nI v ≤ (daysS d ν) (44 + 6 * w + 4)) (201 - j) j = (lst (fun d => nI v ≤ (daysS d ν) (44 + 6 * w + 4)) 201 0) → 201 - j < fu39 → ∀ (H : Heap) (locs : List Loc) (ls : Array Slot), qWH E (qr (qr S 18 (c80 ν α 80)) 16 μ) s H locs → lv_has ls 4 [(3, .int (nI j)), (0, .ref (eA E 70)), (1, .int (nI w)), (2, .int (nI v))] → W p l e (qRm 9) s m ([.ref (eA E 70), .int (nI w), .int (nI v)] : List Value).toArray below meth c H locs 0 0 (MQ below (qQpi E (nI (lst (fun d => nI v ≤ (daysS d ν) (44 + 6 * w + 4)) 201 0)) (bhG S ν) s.heap.size) ([.ref (eA E 70), .int (nI w), .int (nI v)] : List Value).toArray s 0 0 (qAA E s.heap.size)) (F0 m 39 ls []) := by
        intro fu39
        induction fu39 with
        | zero =>
          intro j μ hj hm hL hfu
          exact absurd hfu (Nat.not_lt_zero _)
        | succ fu39 ih39 =>
          intro j μ hj hm hL hfu H locs ls hW hl
          have hμ : WF μ := hm ▸ dF hwf j
          have enW : nW μ = nW ν := by rw [hm]; exact (days_ok hwf j).2.2
          have enT : nT μ = nT ν := by rw [hm]; exact (days_ok hwf j).2.1
          refine lv_iload_n X.x X.b d_R_arrives_39 rfl (lv_at hl 0 rfl) ?_
          refine lv_sipush (v := nI 200) X.x X.b d_R_arrives_40 (by decide) ?_
          refine lv_icmp_ge (tgt := 66) X.x X.b d_R_arrives_43 (by decide) (fun c43 => ?_) (fun c43 => ?_)
          · have c43 : 200 ≤ j := (nI_leI (a := 200) (b := j) (by omega) (by omega)).mp c43
            refine lv_aload_n X.x X.b d_R_arrives_66 rfl (lv_at hl 1 rfl) ?_
            refine lv_aload_n X.x X.b d_R_arrives_67 rfl (lv_at hl 1 rfl) ?_
            refine lv_aload_n X.x X.b d_R_arrives_68 rfl (lv_at hl 1 rfl) ?_
            refine lv_iload_n X.x X.b d_R_arrives_69 rfl (lv_at hl 2 rfl) ?_
            refine lv_iconst (v := nI 4) X.x X.b d_R_arrives_70 (by decide) ?_
            refine q_cvi X (c_R_walkerIs l E (qr (qr S 18 (c80 ν α 80)) 16 μ) μ (by rw [qr_at]) w 4 (by omega) (by omega)) hW (q_recv X hW ds_R rfl) ok_R_walkerIs mw_845 ⟨by decide, by decide⟩ (As := [.int (nI w), .int (nI 4)]) rfl rfl (Nat.le_of_ble_eq_true rfl) (lv := [(3, .int (nI j)), (0, .ref (eA E 70)), (1, .int (nI w)), (2, .int (nI v))]) hl ⟨Nat.le_refl 0, Nat.le_refl 0⟩ d_R_arrives_71 (fun H locs hW => ?_)
            refine lv_iload_n X.x X.b d_R_arrives_74 rfl (lv_at hl 3 rfl) ?_
            refine lv_icmp_ge (tgt := 82) X.x X.b d_R_arrives_75 (by decide) (fun c75 => ?_) (fun c75 => ?_)
            · refine lv_iload_n X.x X.b d_R_arrives_82 rfl (lv_at hl 0 rfl) ?_
              refine q_cvi X (c_R_putBack l E (qr (qr S 18 (c80 ν α 80)) 16 μ) μ (c80 ν α 80) (by rw [qr_at]) (by rw [qr_ne (by omega), qr_at]) (nI j)) hW (q_recv X hW ds_R rfl) ok_R_putBack mw_962 ⟨by decide, by decide⟩ (As := [.int (nI j)]) rfl rfl (Nat.le_of_ble_eq_true rfl) (lv := [(3, .int (nI j)), (0, .ref (eA E 70)), (1, .int (nI w)), (2, .int (nI v))]) hl ⟨Nat.le_refl 0, Nat.le_refl 0⟩ d_R_arrives_83 (fun H locs hW => ?_)
              have hW : qWH E (qr (qr S 18 (c80 ν α 80)) 16 (c80 (c80 ν α 80) μ 80)) s H locs := (by have h := hW; rw [qr_qr] at h; exact h)
              refine q_cvi X (c_R_orNone_g l E (qr (qr S 18 (c80 ν α 80)) 16 (c80 (c80 ν α 80) μ 80)) j (by omega)) hW (q_recv X hW ds_R rfl) ok_R_orNone mw_974 ⟨by decide, by decide⟩ (As := [.int (nI j)]) rfl rfl (Nat.le_of_ble_eq_true rfl) (lv := [(3, .int (nI j)), (0, .ref (eA E 70)), (1, .int (nI w)), (2, .int (nI v))]) hl ⟨Nat.le_refl 0, Nat.le_refl 0⟩ d_R_arrives_86 (fun H locs hW => ?_)
              exact q_pzret X rfl hW ⟨congrArg nI (show (lst (fun d => nI v ≤ (daysS d ν) (44 + 6 * w + 4)) 201 0) = j by rw [← hL, show 201 - j = (200 - j) + 1 by omega, lst, if_pos (show nI v ≤ (daysS j ν) (44 + 6 * w + 4) by rw [← hm]; exact c75)]).symm, ⟨_, _, eq80_c.tr eq80_c, rfl⟩⟩ d_R_arrives_89
            · have hj2 : j = 200 := by first | omega | exact absurd c53 c75
              have hN : (lst (fun d => nI v ≤ (daysS d ν) (44 + 6 * w + 4)) 201 0) = 201 := by rw [← hL, show 201 - j = (200 - j) + 1 by omega, lst, if_neg (show ¬ nI v ≤ (daysS j ν) (44 + 6 * w + 4) by rw [← hm]; exact c75), show 200 - j = 0 by omega, lst]; omega
              omega
          · have c43 : ¬ 200 ≤ j := fun z => c43 ((nI_leI (a := 200) (b := j) (by omega) (by omega)).mpr z)
            refine lv_aload_n X.x X.b d_R_arrives_46 rfl (lv_at hl 1 rfl) ?_
            refine lv_iload_n X.x X.b d_R_arrives_47 rfl (lv_at hl 2 rfl) ?_
            refine lv_iconst (v := nI 4) X.x X.b d_R_arrives_48 (by decide) ?_
            refine q_cvi X (c_R_walkerIs l E (qr (qr S 18 (c80 ν α 80)) 16 μ) μ (by rw [qr_at]) w 4 (by omega) (by omega)) hW (q_recv X hW ds_R rfl) ok_R_walkerIs mw_845 ⟨by decide, by decide⟩ (As := [.int (nI w), .int (nI 4)]) rfl rfl (Nat.le_of_ble_eq_true rfl) (lv := [(3, .int (nI j)), (0, .ref (eA E 70)), (1, .int (nI w)), (2, .int (nI v))]) hl ⟨Nat.le_refl 0, Nat.le_refl 0⟩ d_R_arrives_49 (fun H locs hW => ?_)
            refine lv_iload_n X.x X.b d_R_arrives_52 rfl (lv_at hl 3 rfl) ?_
            refine lv_icmp_ge (tgt := 66) X.x X.b d_R_arrives_53 (by decide) (fun c53 => ?_) (fun c53 => ?_)
            · refine lv_aload_n X.x X.b d_R_arrives_66 rfl (lv_at hl 1 rfl) ?_
              refine lv_aload_n X.x X.b d_R_arrives_67 rfl (lv_at hl 1 rfl) ?_
              refine lv_aload_n X.x X.b d_R_arrives_68 rfl (lv_at hl 1 rfl) ?_
              refine lv_iload_n X.x X.b d_R_arrives_69 rfl (lv_at hl 2 rfl) ?_
              refine lv_iconst (v := nI 4) X.x X.b d_R_arrives_70 (by decide) ?_
              refine q_cvi X (c_R_walkerIs l E (qr (qr S 18 (c80 ν α 80)) 16 μ) μ (by rw [qr_at]) w 4 (by omega) (by omega)) hW (q_recv X hW ds_R rfl) ok_R_walkerIs mw_845 ⟨by decide, by decide⟩ (As := [.int (nI w), .int (nI 4)]) rfl rfl (Nat.le_of_ble_eq_true rfl) (lv := [(3, .int (nI j)), (0, .ref (eA E 70)), (1, .int (nI w)), (2, .int (nI v))]) hl ⟨Nat.le_refl 0, Nat.le_refl 0⟩ d_R_arrives_71 (fun H locs hW => ?_)
              refine lv_iload_n X.x X.b d_R_arrives_74 rfl (lv_at hl 3 rfl) ?_
              refine lv_icmp_ge (tgt := 82) X.x X.b d_R_arrives_75 (by decide) (fun c75 => ?_) (fun c75 => ?_)
              · refine lv_iload_n X.x X.b d_R_arrives_82 rfl (lv_at hl 0 rfl) ?_
                refine q_cvi X (c_R_putBack l E (qr (qr S 18 (c80 ν α 80)) 16 μ) μ (c80 ν α 80) (by rw [qr_at]) (by rw [qr_ne (by omega), qr_at]) (nI j)) hW (q_recv X hW ds_R rfl) ok_R_putBack mw_962 ⟨by decide, by decide⟩ (As := [.int (nI j)]) rfl rfl (Nat.le_of_ble_eq_true rfl) (lv := [(3, .int (nI j)), (0, .ref (eA E 70)), (1, .int (nI w)), (2, .int (nI v))]) hl ⟨Nat.le_refl 0, Nat.le_refl 0⟩ d_R_arrives_83 (fun H locs hW => ?_)
                have hW : qWH E (qr (qr S 18 (c80 ν α 80)) 16 (c80 (c80 ν α 80) μ 80)) s H locs := (by have h := hW; rw [qr_qr] at h; exact h)
                refine q_cvi X (c_R_orNone_g l E (qr (qr S 18 (c80 ν α 80)) 16 (c80 (c80 ν α 80) μ 80)) j (by omega)) hW (q_recv X hW ds_R rfl) ok_R_orNone mw_974 ⟨by decide, by decide⟩ (As := [.int (nI j)]) rfl rfl (Nat.le_of_ble_eq_true rfl) (lv := [(3, .int (nI j)), (0, .ref (eA E 70)), (1, .int (nI w)), (2, .int (nI v))]) hl ⟨Nat.le_refl 0, Nat.le_refl 0⟩ d_R_arrives_86 (fun H locs hW => ?_)
                exact q_pzret X rfl hW ⟨congrArg nI (show (lst (fun d => nI v ≤ (daysS d ν) (44 + 6 * w + 4)) 201 0) = j by rw [← hL, show 201 - j = (200 - j) + 1 by omega, lst, if_pos (show nI v ≤ (daysS j ν) (44 + 6 * w + 4) by rw [← hm]; exact c75)]).symm, ⟨_, _, eq80_c.tr eq80_c, rfl⟩⟩ d_R_arrives_89
              · have hj2 : j = 200 := by first | omega | exact absurd c53 c75
                have hN : (lst (fun d => nI v ≤ (daysS d ν) (44 + 6 * w + 4)) 201 0) = 201 := by rw [← hL, show 201 - j = (200 - j) + 1 by omega, lst, if_neg (show ¬ nI v ≤ (daysS j ν) (44 + 6 * w + 4) by rw [← hm]; exact c75), show 200 - j = 0 by omega, lst]; omega
                omega
            · refine lv_aload_n X.x X.b d_R_arrives_56 rfl (lv_at hl 1 rfl) ?_
              refine q_cvv X (c_R_day l E (qr (qr S 18 (c80 ν α 80)) 16 μ) μ (by rw [qr_at]) hμ) hW (q_recv X hW ds_R rfl) ok_R_day mw_893 ⟨by decide, by decide⟩ (As := []) rfl rfl (Nat.le_of_ble_eq_true rfl) (lv := [(3, .int (nI j)), (0, .ref (eA E 70)), (1, .int (nI w)), (2, .int (nI v))]) hl ⟨Nat.le_refl 0, Nat.le_refl 0⟩ d_R_arrives_57 (fun H locs hW => ?_)
              have hW : qWH E (qr (qr S 18 (c80 ν α 80)) 16 (dayS μ)) s H locs := (by have h := hW; rw [qr_qr] at h; exact h)
              refine lv_iinc (v := nI (j + 1)) (lv' := [(3, .int (nI (j + 1))), (0, .ref (eA E 70)), (1, .int (nI w)), (2, .int (nI v))]) X.x X.b d_R_arrives_60 hl (k := 0) rfl (by rw [show Int32.ofInt 1 = nI 1 from by decide, nI_add]) (by decide) rfl (fun ls hl => ?_)
              refine lv_goto (tgt := 39) X.x X.b d_R_arrives_63 (by decide) ?_
              exact ih39 (j + 1) (dayS μ) (by omega) (by rw [hm]; rfl) (by rw [← hL, show 201 - j = (201 - (j + 1)) + 1 by omega, lst, if_neg (by rw [← hm]; exact c53)]) (by omega) _ _ _ hW (lv_sub hl [0, 1, 2, 3] rfl)
      exact loop39 (201 - 0 + 1) 0 ν (by omega) rfl rfl (Nat.lt_succ_self _) _ _ _ hW (lv_sub hl [0, 1, 2, 3] rfl)
    · have c16 := b2i_e c16
      have c16 := mt (inR_i (by omega) (by decide)).mpr c16
      omega
set_option maxHeartbeats 1000000 in
set_option maxRecDepth 20000 in
theorem c_R_arrives_n (l : Launch) (E : QE) (S : QM) (ν : Nat → Int32) (hν : S 16 = ν) (hwf : WF ν) (α : Nat → Int32) (hα : S 18 = α) (ψ : Nat → Int32) (hψ : S 19 = ψ) (w v : Nat) (hw : w < nW ν) (hv : v ≤ 9999) (hF : ¬ (lst (fun d => nI v ≤ (daysS d ν) (44 + 6 * w + 4)) 201 0) < 201) : qCPi E l y_R_arrives prog_7_method_60_code 4 .int 9 [.ref (eA E 70), .int (nI w), .int (nI v)] S (-1000004) (bhG (qr S 19 (fnR ψ 3)) ν) := by
  refine qCPi_of (by decide) (Nat.le_of_ble_eq_true rfl) (fun p e s m below meth c ls X hW hl => ?_)
  have hl : lv_has ls 4 [(0, .ref (eA E 70)), (1, .int (nI w)), (2, .int (nI v))] := hl
  have hW : qWH E (qr (qr S 18 α) 16 ν) s s.heap [] := by rw [show qr (qr S 18 α) 16 ν = S from by rw [← hα, qr_self, ← hν, qr_self]]; exact hW
  have htl := hwf.tl
  have hwl := hwf.wl
  have hdl := hwf.dl
  refine lv_aload_n X.x X.b d_R_arrives_0 rfl (lv_at hl 0 rfl) ?_
  refine lv_iload_n X.x X.b d_R_arrives_1 rfl (lv_at hl 1 rfl) ?_
  refine q_cvi X (c_R_isWalker l E (qr (qr S 18 α) 16 ν) ν (by rw [qr_at]) hwf (nI w)) hW (q_recv X hW ds_R rfl) ok_R_isWalker mw_841 ⟨by decide, by decide⟩ (As := [.int (nI w)]) rfl rfl (Nat.le_of_ble_eq_true rfl) (lv := [(0, .ref (eA E 70)), (1, .int (nI w)), (2, .int (nI v))]) hl ⟨Nat.le_refl 0, Nat.le_refl 0⟩ d_R_arrives_2 (fun H locs hW => ?_)
  refine lv_if_eq (tgt := 19) X.x X.b d_R_arrives_5 (by decide) (fun c5 => ?_) (fun c5 => ?_)
  · have c5 := b2i_e c5
    have c5 := mt (isW_i hwf (by omega)).mpr c5
    omega
  · have c5 := b2i_n c5
    have c5 := (isW_i hwf (by omega)).mp c5
    refine lv_iload_n X.x X.b d_R_arrives_8 rfl (lv_at hl 2 rfl) ?_
    refine lv_iconst (v := nI 0) X.x X.b d_R_arrives_9 (by decide) ?_
    refine lv_sipush (v := nI 9999) X.x X.b d_R_arrives_10 (by decide) ?_
    refine q_csi X (c_R_within l E (qr (qr S 18 α) 16 ν) (nI v) (nI 0) (nI 9999)) hW ok_R_within mw_757 ⟨by decide, by decide⟩ (As := [.int (nI v), .int (nI 0), .int (nI 9999)]) rfl rfl (Nat.le_of_ble_eq_true rfl) (lv := [(0, .ref (eA E 70)), (1, .int (nI w)), (2, .int (nI v))]) hl ⟨Nat.le_refl 0, Nat.le_refl 0⟩ d_R_arrives_13 (fun H locs hW => ?_)
    refine lv_if_ne (tgt := 26) X.x X.b d_R_arrives_16 (by decide) (fun c16 => ?_) (fun c16 => ?_)
    · have c16 := b2i_n c16
      have c16 := (inR_i (by omega) (by decide)).mp c16
      refine lv_aload_n X.x X.b d_R_arrives_26 rfl (lv_at hl 0 rfl) ?_
      refine q_getr X hW qj4 rfl _ ds_R 0 (by decide) mw_686 rfl (c1 := 71) rfl d_R_arrives_27 ?_
      refine lv_aload_n X.x X.b d_R_arrives_30 rfl (lv_at hl 0 rfl) ?_
      refine q_getr X hW qj4 rfl _ ds_R 2 (by decide) mw_688 rfl (c1 := 73) rfl d_R_arrives_31 ?_
      refine q_csv X (c_R_copyRow_na l E (qr (qr S 18 α) 16 ν) ν α (by rw [qr_at]) (by rw [qr_ne (by omega), qr_at])) hW ok_R_copyRow mw_959 ⟨by decide, by decide⟩ (As := [.ref (eA E 71), .ref (eA E 73)]) rfl rfl (Nat.le_of_ble_eq_true rfl) (lv := [(0, .ref (eA E 70)), (1, .int (nI w)), (2, .int (nI v))]) hl ⟨Nat.le_refl 0, Nat.le_refl 0⟩ d_R_arrives_34 (fun H locs hW => ?_)
      have hW : qWH E (qr (qr S 18 (c80 ν α 80)) 16 ν) s H locs := (by have h := hW; rw [qr_in (by omega)] at h; exact h)
      refine lv_iconst (v := nI 0) X.x X.b d_R_arrives_37 (by decide) ?_
      refine lv_istore_n (lv' := [(3, .int (nI 0)), (0, .ref (eA E 70)), (1, .int (nI w)), (2, .int (nI v))]) X.x X.b d_R_arrives_38 rfl hl (by decide) rfl (fun ls hl => ?_)
      have loop39 : ∀ (fu39 : Nat) (j : Nat) (μ : Nat → Int32), j ≤ 200 → μ = daysS j ν → lst (fun d => nI v ≤ (daysS d ν) (44 + 6 * w + 4)) (201 - j) j = (lst (fun d => nI v ≤ (daysS d ν) (44 + 6 * w + 4)) 201 0) → 201 - j < fu39 → ∀ (H : Heap) (locs : List Loc) (ls : Array Slot), qWH E (qr (qr S 18 (c80 ν α 80)) 16 μ) s H locs → lv_has ls 4 [(3, .int (nI j)), (0, .ref (eA E 70)), (1, .int (nI w)), (2, .int (nI v))] → W p l e (qRm 9) s m ([.ref (eA E 70), .int (nI w), .int (nI v)] : List Value).toArray below meth c H locs 0 0 (MQ below (qQpi E (-1000004) (bhG (qr S 19 (fnR ψ 3)) ν) s.heap.size) ([.ref (eA E 70), .int (nI w), .int (nI v)] : List Value).toArray s 0 0 (qAA E s.heap.size)) (F0 m 39 ls []) := by
        intro fu39
        induction fu39 with
        | zero =>
          intro j μ hj hm hL hfu
          exact absurd hfu (Nat.not_lt_zero _)
        | succ fu39 ih39 =>
          intro j μ hj hm hL hfu H locs ls hW hl
          have hμ : WF μ := hm ▸ dF hwf j
          have enW : nW μ = nW ν := by rw [hm]; exact (days_ok hwf j).2.2
          have enT : nT μ = nT ν := by rw [hm]; exact (days_ok hwf j).2.1
          refine lv_iload_n X.x X.b d_R_arrives_39 rfl (lv_at hl 0 rfl) ?_
          refine lv_sipush (v := nI 200) X.x X.b d_R_arrives_40 (by decide) ?_
          refine lv_icmp_ge (tgt := 66) X.x X.b d_R_arrives_43 (by decide) (fun c43 => ?_) (fun c43 => ?_)
          · have c43 : 200 ≤ j := (nI_leI (a := 200) (b := j) (by omega) (by omega)).mp c43
            refine lv_aload_n X.x X.b d_R_arrives_66 rfl (lv_at hl 1 rfl) ?_
            refine lv_aload_n X.x X.b d_R_arrives_67 rfl (lv_at hl 1 rfl) ?_
            refine lv_aload_n X.x X.b d_R_arrives_68 rfl (lv_at hl 1 rfl) ?_
            refine lv_iload_n X.x X.b d_R_arrives_69 rfl (lv_at hl 2 rfl) ?_
            refine lv_iconst (v := nI 4) X.x X.b d_R_arrives_70 (by decide) ?_
            refine q_cvi X (c_R_walkerIs l E (qr (qr S 18 (c80 ν α 80)) 16 μ) μ (by rw [qr_at]) w 4 (by omega) (by omega)) hW (q_recv X hW ds_R rfl) ok_R_walkerIs mw_845 ⟨by decide, by decide⟩ (As := [.int (nI w), .int (nI 4)]) rfl rfl (Nat.le_of_ble_eq_true rfl) (lv := [(3, .int (nI j)), (0, .ref (eA E 70)), (1, .int (nI w)), (2, .int (nI v))]) hl ⟨Nat.le_refl 0, Nat.le_refl 0⟩ d_R_arrives_71 (fun H locs hW => ?_)
            refine lv_iload_n X.x X.b d_R_arrives_74 rfl (lv_at hl 3 rfl) ?_
            refine lv_icmp_ge (tgt := 82) X.x X.b d_R_arrives_75 (by decide) (fun c75 => ?_) (fun c75 => ?_)
            · have hY := (show (lst (fun d => nI v ≤ (daysS d ν) (44 + 6 * w + 4)) 201 0) = j by rw [← hL, show 201 - j = (200 - j) + 1 by omega, lst, if_pos (show nI v ≤ (daysS j ν) (44 + 6 * w + 4) by rw [← hm]; exact c75)])
              omega
            · refine lv_iconst (v := (-1)) X.x X.b d_R_arrives_78 (by decide) ?_
              refine lv_goto (tgt := 83) X.x X.b d_R_arrives_79 (by decide) ?_
              refine q_cvi X (c_R_putBack l E (qr (qr S 18 (c80 ν α 80)) 16 μ) μ (c80 ν α 80) (by rw [qr_at]) (by rw [qr_ne (by omega), qr_at]) (-1)) hW (q_recv X hW ds_R rfl) ok_R_putBack mw_962 ⟨by decide, by decide⟩ (As := [.int (-1)]) rfl rfl (Nat.le_of_ble_eq_true rfl) (lv := [(3, .int (nI j)), (0, .ref (eA E 70)), (1, .int (nI w)), (2, .int (nI v))]) hl ⟨Nat.le_refl 0, Nat.le_refl 0⟩ d_R_arrives_83 (fun H locs hW => ?_)
              have hW : qWH E (qr (qr S 18 (c80 ν α 80)) 16 (c80 (c80 ν α 80) μ 80)) s H locs := (by have h := hW; rw [qr_qr] at h; exact h)
              refine q_cvi X (c_R_orNone_n l E (qr (qr S 18 (c80 ν α 80)) 16 (c80 (c80 ν α 80) μ 80)) ψ (by rw [qr_ne (by omega), qr_ne (by omega), hψ])) hW (q_recv X hW ds_R rfl) ok_R_orNone mw_974 ⟨by decide, by decide⟩ (As := [.int (-1)]) rfl rfl (Nat.le_of_ble_eq_true rfl) (lv := [(3, .int (nI j)), (0, .ref (eA E 70)), (1, .int (nI w)), (2, .int (nI v))]) hl ⟨Nat.le_refl 0, Nat.le_refl 0⟩ d_R_arrives_86 (fun H locs hW => ?_)
              have hW : qWH E (qr (qr (qr S 18 (c80 ν α 80)) 16 (c80 (c80 ν α 80) μ 80)) 19 (fnR ψ 3)) s H locs := hW
              exact q_pzret X rfl hW ⟨rfl, ⟨_, _, eq80_c.tr eq80_c, qr_3⟩⟩ d_R_arrives_89
          · have c43 : ¬ 200 ≤ j := fun z => c43 ((nI_leI (a := 200) (b := j) (by omega) (by omega)).mpr z)
            refine lv_aload_n X.x X.b d_R_arrives_46 rfl (lv_at hl 1 rfl) ?_
            refine lv_iload_n X.x X.b d_R_arrives_47 rfl (lv_at hl 2 rfl) ?_
            refine lv_iconst (v := nI 4) X.x X.b d_R_arrives_48 (by decide) ?_
            refine q_cvi X (c_R_walkerIs l E (qr (qr S 18 (c80 ν α 80)) 16 μ) μ (by rw [qr_at]) w 4 (by omega) (by omega)) hW (q_recv X hW ds_R rfl) ok_R_walkerIs mw_845 ⟨by decide, by decide⟩ (As := [.int (nI w), .int (nI 4)]) rfl rfl (Nat.le_of_ble_eq_true rfl) (lv := [(3, .int (nI j)), (0, .ref (eA E 70)), (1, .int (nI w)), (2, .int (nI v))]) hl ⟨Nat.le_refl 0, Nat.le_refl 0⟩ d_R_arrives_49 (fun H locs hW => ?_)
            refine lv_iload_n X.x X.b d_R_arrives_52 rfl (lv_at hl 3 rfl) ?_
            refine lv_icmp_ge (tgt := 66) X.x X.b d_R_arrives_53 (by decide) (fun c53 => ?_) (fun c53 => ?_)
            · refine lv_aload_n X.x X.b d_R_arrives_66 rfl (lv_at hl 1 rfl) ?_
              refine lv_aload_n X.x X.b d_R_arrives_67 rfl (lv_at hl 1 rfl) ?_
              refine lv_aload_n X.x X.b d_R_arrives_68 rfl (lv_at hl 1 rfl) ?_
              refine lv_iload_n X.x X.b d_R_arrives_69 rfl (lv_at hl 2 rfl) ?_
              refine lv_iconst (v := nI 4) X.x X.b d_R_arrives_70 (by decide) ?_
              refine q_cvi X (c_R_walkerIs l E (qr (qr S 18 (c80 ν α 80)) 16 μ) μ (by rw [qr_at]) w 4 (by omega) (by omega)) hW (q_recv X hW ds_R rfl) ok_R_walkerIs mw_845 ⟨by decide, by decide⟩ (As := [.int (nI w), .int (nI 4)]) rfl rfl (Nat.le_of_ble_eq_true rfl) (lv := [(3, .int (nI j)), (0, .ref (eA E 70)), (1, .int (nI w)), (2, .int (nI v))]) hl ⟨Nat.le_refl 0, Nat.le_refl 0⟩ d_R_arrives_71 (fun H locs hW => ?_)
              refine lv_iload_n X.x X.b d_R_arrives_74 rfl (lv_at hl 3 rfl) ?_
              refine lv_icmp_ge (tgt := 82) X.x X.b d_R_arrives_75 (by decide) (fun c75 => ?_) (fun c75 => ?_)
              · have hY := (show (lst (fun d => nI v ≤ (daysS d ν) (44 + 6 * w + 4)) 201 0) = j by rw [← hL, show 201 - j = (200 - j) + 1 by omega, lst, if_pos (show nI v ≤ (daysS j ν) (44 + 6 * w + 4) by rw [← hm]; exact c75)])
                omega
              · refine lv_iconst (v := (-1)) X.x X.b d_R_arrives_78 (by decide) ?_
                refine lv_goto (tgt := 83) X.x X.b d_R_arrives_79 (by decide) ?_
                refine q_cvi X (c_R_putBack l E (qr (qr S 18 (c80 ν α 80)) 16 μ) μ (c80 ν α 80) (by rw [qr_at]) (by rw [qr_ne (by omega), qr_at]) (-1)) hW (q_recv X hW ds_R rfl) ok_R_putBack mw_962 ⟨by decide, by decide⟩ (As := [.int (-1)]) rfl rfl (Nat.le_of_ble_eq_true rfl) (lv := [(3, .int (nI j)), (0, .ref (eA E 70)), (1, .int (nI w)), (2, .int (nI v))]) hl ⟨Nat.le_refl 0, Nat.le_refl 0⟩ d_R_arrives_83 (fun H locs hW => ?_)
                have hW : qWH E (qr (qr S 18 (c80 ν α 80)) 16 (c80 (c80 ν α 80) μ 80)) s H locs := (by have h := hW; rw [qr_qr] at h; exact h)
                refine q_cvi X (c_R_orNone_n l E (qr (qr S 18 (c80 ν α 80)) 16 (c80 (c80 ν α 80) μ 80)) ψ (by rw [qr_ne (by omega), qr_ne (by omega), hψ])) hW (q_recv X hW ds_R rfl) ok_R_orNone mw_974 ⟨by decide, by decide⟩ (As := [.int (-1)]) rfl rfl (Nat.le_of_ble_eq_true rfl) (lv := [(3, .int (nI j)), (0, .ref (eA E 70)), (1, .int (nI w)), (2, .int (nI v))]) hl ⟨Nat.le_refl 0, Nat.le_refl 0⟩ d_R_arrives_86 (fun H locs hW => ?_)
                have hW : qWH E (qr (qr (qr S 18 (c80 ν α 80)) 16 (c80 (c80 ν α 80) μ 80)) 19 (fnR ψ 3)) s H locs := hW
                exact q_pzret X rfl hW ⟨rfl, ⟨_, _, eq80_c.tr eq80_c, qr_3⟩⟩ d_R_arrives_89
            · refine lv_aload_n X.x X.b d_R_arrives_56 rfl (lv_at hl 1 rfl) ?_
              refine q_cvv X (c_R_day l E (qr (qr S 18 (c80 ν α 80)) 16 μ) μ (by rw [qr_at]) hμ) hW (q_recv X hW ds_R rfl) ok_R_day mw_893 ⟨by decide, by decide⟩ (As := []) rfl rfl (Nat.le_of_ble_eq_true rfl) (lv := [(3, .int (nI j)), (0, .ref (eA E 70)), (1, .int (nI w)), (2, .int (nI v))]) hl ⟨Nat.le_refl 0, Nat.le_refl 0⟩ d_R_arrives_57 (fun H locs hW => ?_)
              have hW : qWH E (qr (qr S 18 (c80 ν α 80)) 16 (dayS μ)) s H locs := (by have h := hW; rw [qr_qr] at h; exact h)
              refine lv_iinc (v := nI (j + 1)) (lv' := [(3, .int (nI (j + 1))), (0, .ref (eA E 70)), (1, .int (nI w)), (2, .int (nI v))]) X.x X.b d_R_arrives_60 hl (k := 0) rfl (by rw [show Int32.ofInt 1 = nI 1 from by decide, nI_add]) (by decide) rfl (fun ls hl => ?_)
              refine lv_goto (tgt := 39) X.x X.b d_R_arrives_63 (by decide) ?_
              exact ih39 (j + 1) (dayS μ) (by omega) (by rw [hm]; rfl) (by rw [← hL, show 201 - j = (201 - (j + 1)) + 1 by omega, lst, if_neg (by rw [← hm]; exact c53)]) (by omega) _ _ _ hW (lv_sub hl [0, 1, 2, 3] rfl)
      exact loop39 (201 - 0 + 1) 0 ν (by omega) rfl rfl (Nat.lt_succ_self _) _ _ _ hW (lv_sub hl [0, 1, 2, 3] rfl)
    · have c16 := b2i_e c16
      have c16 := mt (inR_i (by omega) (by decide)).mpr c16
      omega
set_option maxHeartbeats 1000000 in
set_option maxRecDepth 20000 in
theorem c_R_arrives_b (l : Launch) (E : QE) (S : QM) (ν : Nat → Int32) (hν : S 16 = ν) (hwf : WF ν) (ψ : Nat → Int32) (hψ : S 19 = ψ) (x y : Int32) (h : ¬ (isW ν x ∧ inR 0 9999 y)) : qCI E l y_R_arrives prog_7_method_60_code 4 .int 3 [.ref (eA E 70), .int x, .int y] S (-1000001) (qr S 19 (fnR ψ 0)) := by
  refine qCI_of (by decide) (Nat.le_of_ble_eq_true rfl) (fun p e s m below meth c ls X hW hl => ?_)
  have hl : lv_has ls 4 [(0, .ref (eA E 70)), (1, .int x), (2, .int y)] := hl
  have htl := hwf.tl
  have hwl := hwf.wl
  have hdl := hwf.dl
  refine lv_aload_n X.x X.b d_R_arrives_0 rfl (lv_at hl 0 rfl) ?_
  refine lv_iload_n X.x X.b d_R_arrives_1 rfl (lv_at hl 1 rfl) ?_
  refine q_cvi X (c_R_isWalker l E S ν (by rw [hν]) hwf x) hW (q_recv X hW ds_R rfl) ok_R_isWalker mw_841 ⟨by decide, by decide⟩ (As := [.int x]) rfl rfl (Nat.le_of_ble_eq_true rfl) (lv := [(0, .ref (eA E 70)), (1, .int x), (2, .int y)]) hl ⟨Nat.le_refl 0, Nat.le_refl 0⟩ d_R_arrives_2 (fun H locs hW => ?_)
  refine lv_if_eq (tgt := 19) X.x X.b d_R_arrives_5 (by decide) (fun c5 => ?_) (fun c5 => ?_)
  · have c5 := b2i_e c5
    refine lv_aload_n X.x X.b d_R_arrives_19 rfl (lv_at hl 0 rfl) ?_
    refine lv_ldc (v := (-1000001)) X.x X.b X.ow (X.ts _ mw_767) d_R_arrives_20 ?_
    refine q_cvi X (c_R_finding_0 l E S ψ (by rw [hψ])) hW (q_recv X hW ds_R rfl) ok_R_finding mw_768 ⟨by decide, by decide⟩ (As := [.int (-1000001)]) rfl rfl (Nat.le_of_ble_eq_true rfl) (lv := [(0, .ref (eA E 70)), (1, .int x), (2, .int y)]) hl ⟨Nat.le_refl 0, Nat.le_refl 0⟩ d_R_arrives_22 (fun H locs hW => ?_)
    have hW : qWH E (qr S 19 (fnR ψ 0)) s H locs := hW
    exact q_zret X rfl hW ⟨rfl, rfl⟩ d_R_arrives_25
  · have c5 := b2i_n c5
    refine lv_iload_n X.x X.b d_R_arrives_8 rfl (lv_at hl 2 rfl) ?_
    refine lv_iconst (v := nI 0) X.x X.b d_R_arrives_9 (by decide) ?_
    refine lv_sipush (v := nI 9999) X.x X.b d_R_arrives_10 (by decide) ?_
    refine q_csi X (c_R_within l E S y (nI 0) (nI 9999)) hW ok_R_within mw_757 ⟨by decide, by decide⟩ (As := [.int y, .int (nI 0), .int (nI 9999)]) rfl rfl (Nat.le_of_ble_eq_true rfl) (lv := [(0, .ref (eA E 70)), (1, .int x), (2, .int y)]) hl ⟨Nat.le_refl 0, Nat.le_refl 0⟩ d_R_arrives_13 (fun H locs hW => ?_)
    refine lv_if_ne (tgt := 26) X.x X.b d_R_arrives_16 (by decide) (fun c16 => ?_) (fun c16 => ?_)
    · have c16 := b2i_n c16
      exact absurd ⟨c5, c16⟩ h
    · have c16 := b2i_e c16
      refine lv_aload_n X.x X.b d_R_arrives_19 rfl (lv_at hl 0 rfl) ?_
      refine lv_ldc (v := (-1000001)) X.x X.b X.ow (X.ts _ mw_767) d_R_arrives_20 ?_
      refine q_cvi X (c_R_finding_0 l E S ψ (by rw [hψ])) hW (q_recv X hW ds_R rfl) ok_R_finding mw_768 ⟨by decide, by decide⟩ (As := [.int (-1000001)]) rfl rfl (Nat.le_of_ble_eq_true rfl) (lv := [(0, .ref (eA E 70)), (1, .int x), (2, .int y)]) hl ⟨Nat.le_refl 0, Nat.le_refl 0⟩ d_R_arrives_22 (fun H locs hW => ?_)
      have hW : qWH E (qr S 19 (fnR ψ 0)) s H locs := hW
      exact q_zret X rfl hW ⟨rfl, rfl⟩ d_R_arrives_25
set_option maxHeartbeats 1000000 in
set_option maxRecDepth 20000 in
theorem c_R_spies_g (l : Launch) (E : QE) (S : QM) (ν : Nat → Int32) (hν : S 16 = ν) (hwf : WF ν) (α : Nat → Int32) (hα : S 18 = α) (w t : Nat) (hw : w < nW ν) (ht : t < nT ν) (hF : (lst (fun d => see (daysS d ν) w t) 201 0) < 201) : qCPi E l y_R_spies prog_7_method_61_code 4 .int 9 [.ref (eA E 70), .int (nI w), .int (nI t)] S (nI (lst (fun d => see (daysS d ν) w t) 201 0)) (bhG S ν) := by
  refine qCPi_of (by decide) (Nat.le_of_ble_eq_true rfl) (fun p e s m below meth c ls X hW hl => ?_)
  have hl : lv_has ls 4 [(0, .ref (eA E 70)), (1, .int (nI w)), (2, .int (nI t))] := hl
  have hW : qWH E (qr (qr S 18 α) 16 ν) s s.heap [] := by rw [show qr (qr S 18 α) 16 ν = S from by rw [← hα, qr_self, ← hν, qr_self]]; exact hW
  have htl := hwf.tl
  have hwl := hwf.wl
  have hdl := hwf.dl
  refine lv_aload_n X.x X.b d_R_spies_0 rfl (lv_at hl 0 rfl) ?_
  refine lv_iload_n X.x X.b d_R_spies_1 rfl (lv_at hl 1 rfl) ?_
  refine q_cvi X (c_R_isWalker l E (qr (qr S 18 α) 16 ν) ν (by rw [qr_at]) hwf (nI w)) hW (q_recv X hW ds_R rfl) ok_R_isWalker mw_841 ⟨by decide, by decide⟩ (As := [.int (nI w)]) rfl rfl (Nat.le_of_ble_eq_true rfl) (lv := [(0, .ref (eA E 70)), (1, .int (nI w)), (2, .int (nI t))]) hl ⟨Nat.le_refl 0, Nat.le_refl 0⟩ d_R_spies_2 (fun H locs hW => ?_)
  refine lv_if_eq (tgt := 16) X.x X.b d_R_spies_5 (by decide) (fun c5 => ?_) (fun c5 => ?_)
  · have c5 := b2i_e c5
    have c5 := mt (isW_i hwf (by omega)).mpr c5
    omega
  · have c5 := b2i_n c5
    have c5 := (isW_i hwf (by omega)).mp c5
    refine lv_aload_n X.x X.b d_R_spies_8 rfl (lv_at hl 0 rfl) ?_
    refine lv_iload_n X.x X.b d_R_spies_9 rfl (lv_at hl 2 rfl) ?_
    refine q_cvi X (c_R_isThing l E (qr (qr S 18 α) 16 ν) ν (by rw [qr_at]) hwf (nI t)) hW (q_recv X hW ds_R rfl) ok_R_isThing mw_809 ⟨by decide, by decide⟩ (As := [.int (nI t)]) rfl rfl (Nat.le_of_ble_eq_true rfl) (lv := [(0, .ref (eA E 70)), (1, .int (nI w)), (2, .int (nI t))]) hl ⟨Nat.le_refl 0, Nat.le_refl 0⟩ d_R_spies_10 (fun H locs hW => ?_)
    refine lv_if_ne (tgt := 23) X.x X.b d_R_spies_13 (by decide) (fun c13 => ?_) (fun c13 => ?_)
    · have c13 := b2i_n c13
      have c13 := (isT_i hwf (by omega)).mp c13
      refine lv_aload_n X.x X.b d_R_spies_23 rfl (lv_at hl 0 rfl) ?_
      refine q_getr X hW qj4 rfl _ ds_R 0 (by decide) mw_686 rfl (c1 := 71) rfl d_R_spies_24 ?_
      refine lv_aload_n X.x X.b d_R_spies_27 rfl (lv_at hl 0 rfl) ?_
      refine q_getr X hW qj4 rfl _ ds_R 2 (by decide) mw_688 rfl (c1 := 73) rfl d_R_spies_28 ?_
      refine q_csv X (c_R_copyRow_na l E (qr (qr S 18 α) 16 ν) ν α (by rw [qr_at]) (by rw [qr_ne (by omega), qr_at])) hW ok_R_copyRow mw_959 ⟨by decide, by decide⟩ (As := [.ref (eA E 71), .ref (eA E 73)]) rfl rfl (Nat.le_of_ble_eq_true rfl) (lv := [(0, .ref (eA E 70)), (1, .int (nI w)), (2, .int (nI t))]) hl ⟨Nat.le_refl 0, Nat.le_refl 0⟩ d_R_spies_31 (fun H locs hW => ?_)
      have hW : qWH E (qr (qr S 18 (c80 ν α 80)) 16 ν) s H locs := (by have h := hW; rw [qr_in (by omega)] at h; exact h)
      refine lv_iconst (v := nI 0) X.x X.b d_R_spies_34 (by decide) ?_
      refine lv_istore_n (lv' := [(3, .int (nI 0)), (0, .ref (eA E 70)), (1, .int (nI w)), (2, .int (nI t))]) X.x X.b d_R_spies_35 rfl hl (by decide) rfl (fun ls hl => ?_)
      have loop36 : ∀ (fu36 : Nat) (j : Nat) (μ : Nat → Int32), j ≤ 200 → μ = daysS j ν → lst (fun d => see (daysS d ν) w t) (201 - j) j = (lst (fun d => see (daysS d ν) w t) 201 0) → 201 - j < fu36 → ∀ (H : Heap) (locs : List Loc) (ls : Array Slot), qWH E (qr (qr S 18 (c80 ν α 80)) 16 μ) s H locs → lv_has ls 4 [(3, .int (nI j)), (0, .ref (eA E 70)), (1, .int (nI w)), (2, .int (nI t))] → W p l e (qRm 9) s m ([.ref (eA E 70), .int (nI w), .int (nI t)] : List Value).toArray below meth c H locs 0 0 (MQ below (qQpi E (nI (lst (fun d => see (daysS d ν) w t) 201 0)) (bhG S ν) s.heap.size) ([.ref (eA E 70), .int (nI w), .int (nI t)] : List Value).toArray s 0 0 (qAA E s.heap.size)) (F0 m 36 ls []) := by
        intro fu36
        induction fu36 with
        | zero =>
          intro j μ hj hm hL hfu
          exact absurd hfu (Nat.not_lt_zero _)
        | succ fu36 ih36 =>
          intro j μ hj hm hL hfu H locs ls hW hl
          have hμ : WF μ := hm ▸ dF hwf j
          have enW : nW μ = nW ν := by rw [hm]; exact (days_ok hwf j).2.2
          have enT : nT μ = nT ν := by rw [hm]; exact (days_ok hwf j).2.1
          refine lv_iload_n X.x X.b d_R_spies_36 rfl (lv_at hl 0 rfl) ?_
          refine lv_sipush (v := nI 200) X.x X.b d_R_spies_37 (by decide) ?_
          refine lv_icmp_ge (tgt := 62) X.x X.b d_R_spies_40 (by decide) (fun c40 => ?_) (fun c40 => ?_)
          · have c40 : 200 ≤ j := (nI_leI (a := 200) (b := j) (by omega) (by omega)).mp c40
            refine lv_aload_n X.x X.b d_R_spies_62 rfl (lv_at hl 1 rfl) ?_
            refine lv_aload_n X.x X.b d_R_spies_63 rfl (lv_at hl 1 rfl) ?_
            refine lv_aload_n X.x X.b d_R_spies_64 rfl (lv_at hl 1 rfl) ?_
            refine lv_iload_n X.x X.b d_R_spies_65 rfl (lv_at hl 2 rfl) ?_
            refine lv_iload_n X.x X.b d_R_spies_66 rfl (lv_at hl 3 rfl) ?_
            refine q_cvi X (c_R_doesSee l E (qr (qr S 18 (c80 ν α 80)) 16 μ) μ (by rw [qr_at]) w t (by omega) (by omega)) hW (q_recv X hW ds_R rfl) ok_R_doesSee mw_866 ⟨by decide, by decide⟩ (As := [.int (nI w), .int (nI t)]) rfl rfl (Nat.le_of_ble_eq_true rfl) (lv := [(3, .int (nI j)), (0, .ref (eA E 70)), (1, .int (nI w)), (2, .int (nI t))]) hl ⟨Nat.le_refl 0, Nat.le_refl 0⟩ d_R_spies_67 (fun H locs hW => ?_)
            refine lv_if_eq (tgt := 77) X.x X.b d_R_spies_70 (by decide) (fun c70 => ?_) (fun c70 => ?_)
            · have c70 := b2i_e c70
              have hj2 : j = 200 := by first | omega | exact absurd c49 c70
              have hN : (lst (fun d => see (daysS d ν) w t) 201 0) = 201 := by rw [← hL, show 201 - j = (200 - j) + 1 by omega, lst, if_neg (show ¬ see (daysS j ν) w t by rw [← hm]; exact c70), show 200 - j = 0 by omega, lst]; omega
              omega
            · have c70 := b2i_n c70
              refine lv_iload_n X.x X.b d_R_spies_73 rfl (lv_at hl 0 rfl) ?_
              refine lv_goto (tgt := 78) X.x X.b d_R_spies_74 (by decide) ?_
              refine q_cvi X (c_R_putBack l E (qr (qr S 18 (c80 ν α 80)) 16 μ) μ (c80 ν α 80) (by rw [qr_at]) (by rw [qr_ne (by omega), qr_at]) (nI j)) hW (q_recv X hW ds_R rfl) ok_R_putBack mw_962 ⟨by decide, by decide⟩ (As := [.int (nI j)]) rfl rfl (Nat.le_of_ble_eq_true rfl) (lv := [(3, .int (nI j)), (0, .ref (eA E 70)), (1, .int (nI w)), (2, .int (nI t))]) hl ⟨Nat.le_refl 0, Nat.le_refl 0⟩ d_R_spies_78 (fun H locs hW => ?_)
              have hW : qWH E (qr (qr S 18 (c80 ν α 80)) 16 (c80 (c80 ν α 80) μ 80)) s H locs := (by have h := hW; rw [qr_qr] at h; exact h)
              refine q_cvi X (c_R_orNone_g l E (qr (qr S 18 (c80 ν α 80)) 16 (c80 (c80 ν α 80) μ 80)) j (by omega)) hW (q_recv X hW ds_R rfl) ok_R_orNone mw_974 ⟨by decide, by decide⟩ (As := [.int (nI j)]) rfl rfl (Nat.le_of_ble_eq_true rfl) (lv := [(3, .int (nI j)), (0, .ref (eA E 70)), (1, .int (nI w)), (2, .int (nI t))]) hl ⟨Nat.le_refl 0, Nat.le_refl 0⟩ d_R_spies_81 (fun H locs hW => ?_)
              exact q_pzret X rfl hW ⟨congrArg nI (show (lst (fun d => see (daysS d ν) w t) 201 0) = j by rw [← hL, show 201 - j = (200 - j) + 1 by omega, lst, if_pos (show see (daysS j ν) w t by rw [← hm]; exact c70)]).symm, ⟨_, _, eq80_c.tr eq80_c, rfl⟩⟩ d_R_spies_84
          · have c40 : ¬ 200 ≤ j := fun z => c40 ((nI_leI (a := 200) (b := j) (by omega) (by omega)).mpr z)
            refine lv_aload_n X.x X.b d_R_spies_43 rfl (lv_at hl 1 rfl) ?_
            refine lv_iload_n X.x X.b d_R_spies_44 rfl (lv_at hl 2 rfl) ?_
            refine lv_iload_n X.x X.b d_R_spies_45 rfl (lv_at hl 3 rfl) ?_
            refine q_cvi X (c_R_doesSee l E (qr (qr S 18 (c80 ν α 80)) 16 μ) μ (by rw [qr_at]) w t (by omega) (by omega)) hW (q_recv X hW ds_R rfl) ok_R_doesSee mw_866 ⟨by decide, by decide⟩ (As := [.int (nI w), .int (nI t)]) rfl rfl (Nat.le_of_ble_eq_true rfl) (lv := [(3, .int (nI j)), (0, .ref (eA E 70)), (1, .int (nI w)), (2, .int (nI t))]) hl ⟨Nat.le_refl 0, Nat.le_refl 0⟩ d_R_spies_46 (fun H locs hW => ?_)
            refine lv_if_ne (tgt := 62) X.x X.b d_R_spies_49 (by decide) (fun c49 => ?_) (fun c49 => ?_)
            · have c49 := b2i_n c49
              refine lv_aload_n X.x X.b d_R_spies_62 rfl (lv_at hl 1 rfl) ?_
              refine lv_aload_n X.x X.b d_R_spies_63 rfl (lv_at hl 1 rfl) ?_
              refine lv_aload_n X.x X.b d_R_spies_64 rfl (lv_at hl 1 rfl) ?_
              refine lv_iload_n X.x X.b d_R_spies_65 rfl (lv_at hl 2 rfl) ?_
              refine lv_iload_n X.x X.b d_R_spies_66 rfl (lv_at hl 3 rfl) ?_
              refine q_cvi X (c_R_doesSee l E (qr (qr S 18 (c80 ν α 80)) 16 μ) μ (by rw [qr_at]) w t (by omega) (by omega)) hW (q_recv X hW ds_R rfl) ok_R_doesSee mw_866 ⟨by decide, by decide⟩ (As := [.int (nI w), .int (nI t)]) rfl rfl (Nat.le_of_ble_eq_true rfl) (lv := [(3, .int (nI j)), (0, .ref (eA E 70)), (1, .int (nI w)), (2, .int (nI t))]) hl ⟨Nat.le_refl 0, Nat.le_refl 0⟩ d_R_spies_67 (fun H locs hW => ?_)
              refine lv_if_eq (tgt := 77) X.x X.b d_R_spies_70 (by decide) (fun c70 => ?_) (fun c70 => ?_)
              · have c70 := b2i_e c70
                have hj2 : j = 200 := by first | omega | exact absurd c49 c70
                have hN : (lst (fun d => see (daysS d ν) w t) 201 0) = 201 := by rw [← hL, show 201 - j = (200 - j) + 1 by omega, lst, if_neg (show ¬ see (daysS j ν) w t by rw [← hm]; exact c70), show 200 - j = 0 by omega, lst]; omega
                omega
              · have c70 := b2i_n c70
                refine lv_iload_n X.x X.b d_R_spies_73 rfl (lv_at hl 0 rfl) ?_
                refine lv_goto (tgt := 78) X.x X.b d_R_spies_74 (by decide) ?_
                refine q_cvi X (c_R_putBack l E (qr (qr S 18 (c80 ν α 80)) 16 μ) μ (c80 ν α 80) (by rw [qr_at]) (by rw [qr_ne (by omega), qr_at]) (nI j)) hW (q_recv X hW ds_R rfl) ok_R_putBack mw_962 ⟨by decide, by decide⟩ (As := [.int (nI j)]) rfl rfl (Nat.le_of_ble_eq_true rfl) (lv := [(3, .int (nI j)), (0, .ref (eA E 70)), (1, .int (nI w)), (2, .int (nI t))]) hl ⟨Nat.le_refl 0, Nat.le_refl 0⟩ d_R_spies_78 (fun H locs hW => ?_)
                have hW : qWH E (qr (qr S 18 (c80 ν α 80)) 16 (c80 (c80 ν α 80) μ 80)) s H locs := (by have h := hW; rw [qr_qr] at h; exact h)
                refine q_cvi X (c_R_orNone_g l E (qr (qr S 18 (c80 ν α 80)) 16 (c80 (c80 ν α 80) μ 80)) j (by omega)) hW (q_recv X hW ds_R rfl) ok_R_orNone mw_974 ⟨by decide, by decide⟩ (As := [.int (nI j)]) rfl rfl (Nat.le_of_ble_eq_true rfl) (lv := [(3, .int (nI j)), (0, .ref (eA E 70)), (1, .int (nI w)), (2, .int (nI t))]) hl ⟨Nat.le_refl 0, Nat.le_refl 0⟩ d_R_spies_81 (fun H locs hW => ?_)
                exact q_pzret X rfl hW ⟨congrArg nI (show (lst (fun d => see (daysS d ν) w t) 201 0) = j by rw [← hL, show 201 - j = (200 - j) + 1 by omega, lst, if_pos (show see (daysS j ν) w t by rw [← hm]; exact c70)]).symm, ⟨_, _, eq80_c.tr eq80_c, rfl⟩⟩ d_R_spies_84
            · have c49 := b2i_e c49
              refine lv_aload_n X.x X.b d_R_spies_52 rfl (lv_at hl 1 rfl) ?_
              refine q_cvv X (c_R_day l E (qr (qr S 18 (c80 ν α 80)) 16 μ) μ (by rw [qr_at]) hμ) hW (q_recv X hW ds_R rfl) ok_R_day mw_893 ⟨by decide, by decide⟩ (As := []) rfl rfl (Nat.le_of_ble_eq_true rfl) (lv := [(3, .int (nI j)), (0, .ref (eA E 70)), (1, .int (nI w)), (2, .int (nI t))]) hl ⟨Nat.le_refl 0, Nat.le_refl 0⟩ d_R_spies_53 (fun H locs hW => ?_)
              have hW : qWH E (qr (qr S 18 (c80 ν α 80)) 16 (dayS μ)) s H locs := (by have h := hW; rw [qr_qr] at h; exact h)
              refine lv_iinc (v := nI (j + 1)) (lv' := [(3, .int (nI (j + 1))), (0, .ref (eA E 70)), (1, .int (nI w)), (2, .int (nI t))]) X.x X.b d_R_spies_56 hl (k := 0) rfl (by rw [show Int32.ofInt 1 = nI 1 from by decide, nI_add]) (by decide) rfl (fun ls hl => ?_)
              refine lv_goto (tgt := 36) X.x X.b d_R_spies_59 (by decide) ?_
              exact ih36 (j + 1) (dayS μ) (by omega) (by rw [hm]; rfl) (by rw [← hL, show 201 - j = (201 - (j + 1)) + 1 by omega, lst, if_neg (by rw [← hm]; exact c49)]) (by omega) _ _ _ hW (lv_sub hl [0, 1, 2, 3] rfl)
      exact loop36 (201 - 0 + 1) 0 ν (by omega) rfl rfl (Nat.lt_succ_self _) _ _ _ hW (lv_sub hl [0, 1, 2, 3] rfl)
    · have c13 := b2i_e c13
      have c13 := mt (isT_i hwf (by omega)).mpr c13
      omega
set_option maxHeartbeats 1000000 in
set_option maxRecDepth 20000 in
theorem c_R_spies_n (l : Launch) (E : QE) (S : QM) (ν : Nat → Int32) (hν : S 16 = ν) (hwf : WF ν) (α : Nat → Int32) (hα : S 18 = α) (ψ : Nat → Int32) (hψ : S 19 = ψ) (w t : Nat) (hw : w < nW ν) (ht : t < nT ν) (hF : ¬ (lst (fun d => see (daysS d ν) w t) 201 0) < 201) : qCPi E l y_R_spies prog_7_method_61_code 4 .int 9 [.ref (eA E 70), .int (nI w), .int (nI t)] S (-1000004) (bhG (qr S 19 (fnR ψ 3)) ν) := by
  refine qCPi_of (by decide) (Nat.le_of_ble_eq_true rfl) (fun p e s m below meth c ls X hW hl => ?_)
  have hl : lv_has ls 4 [(0, .ref (eA E 70)), (1, .int (nI w)), (2, .int (nI t))] := hl
  have hW : qWH E (qr (qr S 18 α) 16 ν) s s.heap [] := by rw [show qr (qr S 18 α) 16 ν = S from by rw [← hα, qr_self, ← hν, qr_self]]; exact hW
  have htl := hwf.tl
  have hwl := hwf.wl
  have hdl := hwf.dl
  refine lv_aload_n X.x X.b d_R_spies_0 rfl (lv_at hl 0 rfl) ?_
  refine lv_iload_n X.x X.b d_R_spies_1 rfl (lv_at hl 1 rfl) ?_
  refine q_cvi X (c_R_isWalker l E (qr (qr S 18 α) 16 ν) ν (by rw [qr_at]) hwf (nI w)) hW (q_recv X hW ds_R rfl) ok_R_isWalker mw_841 ⟨by decide, by decide⟩ (As := [.int (nI w)]) rfl rfl (Nat.le_of_ble_eq_true rfl) (lv := [(0, .ref (eA E 70)), (1, .int (nI w)), (2, .int (nI t))]) hl ⟨Nat.le_refl 0, Nat.le_refl 0⟩ d_R_spies_2 (fun H locs hW => ?_)
  refine lv_if_eq (tgt := 16) X.x X.b d_R_spies_5 (by decide) (fun c5 => ?_) (fun c5 => ?_)
  · have c5 := b2i_e c5
    have c5 := mt (isW_i hwf (by omega)).mpr c5
    omega
  · have c5 := b2i_n c5
    have c5 := (isW_i hwf (by omega)).mp c5
    refine lv_aload_n X.x X.b d_R_spies_8 rfl (lv_at hl 0 rfl) ?_
    refine lv_iload_n X.x X.b d_R_spies_9 rfl (lv_at hl 2 rfl) ?_
    refine q_cvi X (c_R_isThing l E (qr (qr S 18 α) 16 ν) ν (by rw [qr_at]) hwf (nI t)) hW (q_recv X hW ds_R rfl) ok_R_isThing mw_809 ⟨by decide, by decide⟩ (As := [.int (nI t)]) rfl rfl (Nat.le_of_ble_eq_true rfl) (lv := [(0, .ref (eA E 70)), (1, .int (nI w)), (2, .int (nI t))]) hl ⟨Nat.le_refl 0, Nat.le_refl 0⟩ d_R_spies_10 (fun H locs hW => ?_)
    refine lv_if_ne (tgt := 23) X.x X.b d_R_spies_13 (by decide) (fun c13 => ?_) (fun c13 => ?_)
    · have c13 := b2i_n c13
      have c13 := (isT_i hwf (by omega)).mp c13
      refine lv_aload_n X.x X.b d_R_spies_23 rfl (lv_at hl 0 rfl) ?_
      refine q_getr X hW qj4 rfl _ ds_R 0 (by decide) mw_686 rfl (c1 := 71) rfl d_R_spies_24 ?_
      refine lv_aload_n X.x X.b d_R_spies_27 rfl (lv_at hl 0 rfl) ?_
      refine q_getr X hW qj4 rfl _ ds_R 2 (by decide) mw_688 rfl (c1 := 73) rfl d_R_spies_28 ?_
      refine q_csv X (c_R_copyRow_na l E (qr (qr S 18 α) 16 ν) ν α (by rw [qr_at]) (by rw [qr_ne (by omega), qr_at])) hW ok_R_copyRow mw_959 ⟨by decide, by decide⟩ (As := [.ref (eA E 71), .ref (eA E 73)]) rfl rfl (Nat.le_of_ble_eq_true rfl) (lv := [(0, .ref (eA E 70)), (1, .int (nI w)), (2, .int (nI t))]) hl ⟨Nat.le_refl 0, Nat.le_refl 0⟩ d_R_spies_31 (fun H locs hW => ?_)
      have hW : qWH E (qr (qr S 18 (c80 ν α 80)) 16 ν) s H locs := (by have h := hW; rw [qr_in (by omega)] at h; exact h)
      refine lv_iconst (v := nI 0) X.x X.b d_R_spies_34 (by decide) ?_
      refine lv_istore_n (lv' := [(3, .int (nI 0)), (0, .ref (eA E 70)), (1, .int (nI w)), (2, .int (nI t))]) X.x X.b d_R_spies_35 rfl hl (by decide) rfl (fun ls hl => ?_)
      have loop36 : ∀ (fu36 : Nat) (j : Nat) (μ : Nat → Int32), j ≤ 200 → μ = daysS j ν → lst (fun d => see (daysS d ν) w t) (201 - j) j = (lst (fun d => see (daysS d ν) w t) 201 0) → 201 - j < fu36 → ∀ (H : Heap) (locs : List Loc) (ls : Array Slot), qWH E (qr (qr S 18 (c80 ν α 80)) 16 μ) s H locs → lv_has ls 4 [(3, .int (nI j)), (0, .ref (eA E 70)), (1, .int (nI w)), (2, .int (nI t))] → W p l e (qRm 9) s m ([.ref (eA E 70), .int (nI w), .int (nI t)] : List Value).toArray below meth c H locs 0 0 (MQ below (qQpi E (-1000004) (bhG (qr S 19 (fnR ψ 3)) ν) s.heap.size) ([.ref (eA E 70), .int (nI w), .int (nI t)] : List Value).toArray s 0 0 (qAA E s.heap.size)) (F0 m 36 ls []) := by
        intro fu36
        induction fu36 with
        | zero =>
          intro j μ hj hm hL hfu
          exact absurd hfu (Nat.not_lt_zero _)
        | succ fu36 ih36 =>
          intro j μ hj hm hL hfu H locs ls hW hl
          have hμ : WF μ := hm ▸ dF hwf j
          have enW : nW μ = nW ν := by rw [hm]; exact (days_ok hwf j).2.2
          have enT : nT μ = nT ν := by rw [hm]; exact (days_ok hwf j).2.1
          refine lv_iload_n X.x X.b d_R_spies_36 rfl (lv_at hl 0 rfl) ?_
          refine lv_sipush (v := nI 200) X.x X.b d_R_spies_37 (by decide) ?_
          refine lv_icmp_ge (tgt := 62) X.x X.b d_R_spies_40 (by decide) (fun c40 => ?_) (fun c40 => ?_)
          · have c40 : 200 ≤ j := (nI_leI (a := 200) (b := j) (by omega) (by omega)).mp c40
            refine lv_aload_n X.x X.b d_R_spies_62 rfl (lv_at hl 1 rfl) ?_
            refine lv_aload_n X.x X.b d_R_spies_63 rfl (lv_at hl 1 rfl) ?_
            refine lv_aload_n X.x X.b d_R_spies_64 rfl (lv_at hl 1 rfl) ?_
            refine lv_iload_n X.x X.b d_R_spies_65 rfl (lv_at hl 2 rfl) ?_
            refine lv_iload_n X.x X.b d_R_spies_66 rfl (lv_at hl 3 rfl) ?_
            refine q_cvi X (c_R_doesSee l E (qr (qr S 18 (c80 ν α 80)) 16 μ) μ (by rw [qr_at]) w t (by omega) (by omega)) hW (q_recv X hW ds_R rfl) ok_R_doesSee mw_866 ⟨by decide, by decide⟩ (As := [.int (nI w), .int (nI t)]) rfl rfl (Nat.le_of_ble_eq_true rfl) (lv := [(3, .int (nI j)), (0, .ref (eA E 70)), (1, .int (nI w)), (2, .int (nI t))]) hl ⟨Nat.le_refl 0, Nat.le_refl 0⟩ d_R_spies_67 (fun H locs hW => ?_)
            refine lv_if_eq (tgt := 77) X.x X.b d_R_spies_70 (by decide) (fun c70 => ?_) (fun c70 => ?_)
            · have c70 := b2i_e c70
              refine lv_iconst (v := (-1)) X.x X.b d_R_spies_77 (by decide) ?_
              refine q_cvi X (c_R_putBack l E (qr (qr S 18 (c80 ν α 80)) 16 μ) μ (c80 ν α 80) (by rw [qr_at]) (by rw [qr_ne (by omega), qr_at]) (-1)) hW (q_recv X hW ds_R rfl) ok_R_putBack mw_962 ⟨by decide, by decide⟩ (As := [.int (-1)]) rfl rfl (Nat.le_of_ble_eq_true rfl) (lv := [(3, .int (nI j)), (0, .ref (eA E 70)), (1, .int (nI w)), (2, .int (nI t))]) hl ⟨Nat.le_refl 0, Nat.le_refl 0⟩ d_R_spies_78 (fun H locs hW => ?_)
              have hW : qWH E (qr (qr S 18 (c80 ν α 80)) 16 (c80 (c80 ν α 80) μ 80)) s H locs := (by have h := hW; rw [qr_qr] at h; exact h)
              refine q_cvi X (c_R_orNone_n l E (qr (qr S 18 (c80 ν α 80)) 16 (c80 (c80 ν α 80) μ 80)) ψ (by rw [qr_ne (by omega), qr_ne (by omega), hψ])) hW (q_recv X hW ds_R rfl) ok_R_orNone mw_974 ⟨by decide, by decide⟩ (As := [.int (-1)]) rfl rfl (Nat.le_of_ble_eq_true rfl) (lv := [(3, .int (nI j)), (0, .ref (eA E 70)), (1, .int (nI w)), (2, .int (nI t))]) hl ⟨Nat.le_refl 0, Nat.le_refl 0⟩ d_R_spies_81 (fun H locs hW => ?_)
              have hW : qWH E (qr (qr (qr S 18 (c80 ν α 80)) 16 (c80 (c80 ν α 80) μ 80)) 19 (fnR ψ 3)) s H locs := hW
              exact q_pzret X rfl hW ⟨rfl, ⟨_, _, eq80_c.tr eq80_c, qr_3⟩⟩ d_R_spies_84
            · have c70 := b2i_n c70
              have hY := (show (lst (fun d => see (daysS d ν) w t) 201 0) = j by rw [← hL, show 201 - j = (200 - j) + 1 by omega, lst, if_pos (show see (daysS j ν) w t by rw [← hm]; exact c70)])
              omega
          · have c40 : ¬ 200 ≤ j := fun z => c40 ((nI_leI (a := 200) (b := j) (by omega) (by omega)).mpr z)
            refine lv_aload_n X.x X.b d_R_spies_43 rfl (lv_at hl 1 rfl) ?_
            refine lv_iload_n X.x X.b d_R_spies_44 rfl (lv_at hl 2 rfl) ?_
            refine lv_iload_n X.x X.b d_R_spies_45 rfl (lv_at hl 3 rfl) ?_
            refine q_cvi X (c_R_doesSee l E (qr (qr S 18 (c80 ν α 80)) 16 μ) μ (by rw [qr_at]) w t (by omega) (by omega)) hW (q_recv X hW ds_R rfl) ok_R_doesSee mw_866 ⟨by decide, by decide⟩ (As := [.int (nI w), .int (nI t)]) rfl rfl (Nat.le_of_ble_eq_true rfl) (lv := [(3, .int (nI j)), (0, .ref (eA E 70)), (1, .int (nI w)), (2, .int (nI t))]) hl ⟨Nat.le_refl 0, Nat.le_refl 0⟩ d_R_spies_46 (fun H locs hW => ?_)
            refine lv_if_ne (tgt := 62) X.x X.b d_R_spies_49 (by decide) (fun c49 => ?_) (fun c49 => ?_)
            · have c49 := b2i_n c49
              refine lv_aload_n X.x X.b d_R_spies_62 rfl (lv_at hl 1 rfl) ?_
              refine lv_aload_n X.x X.b d_R_spies_63 rfl (lv_at hl 1 rfl) ?_
              refine lv_aload_n X.x X.b d_R_spies_64 rfl (lv_at hl 1 rfl) ?_
              refine lv_iload_n X.x X.b d_R_spies_65 rfl (lv_at hl 2 rfl) ?_
              refine lv_iload_n X.x X.b d_R_spies_66 rfl (lv_at hl 3 rfl) ?_
              refine q_cvi X (c_R_doesSee l E (qr (qr S 18 (c80 ν α 80)) 16 μ) μ (by rw [qr_at]) w t (by omega) (by omega)) hW (q_recv X hW ds_R rfl) ok_R_doesSee mw_866 ⟨by decide, by decide⟩ (As := [.int (nI w), .int (nI t)]) rfl rfl (Nat.le_of_ble_eq_true rfl) (lv := [(3, .int (nI j)), (0, .ref (eA E 70)), (1, .int (nI w)), (2, .int (nI t))]) hl ⟨Nat.le_refl 0, Nat.le_refl 0⟩ d_R_spies_67 (fun H locs hW => ?_)
              refine lv_if_eq (tgt := 77) X.x X.b d_R_spies_70 (by decide) (fun c70 => ?_) (fun c70 => ?_)
              · have c70 := b2i_e c70
                refine lv_iconst (v := (-1)) X.x X.b d_R_spies_77 (by decide) ?_
                refine q_cvi X (c_R_putBack l E (qr (qr S 18 (c80 ν α 80)) 16 μ) μ (c80 ν α 80) (by rw [qr_at]) (by rw [qr_ne (by omega), qr_at]) (-1)) hW (q_recv X hW ds_R rfl) ok_R_putBack mw_962 ⟨by decide, by decide⟩ (As := [.int (-1)]) rfl rfl (Nat.le_of_ble_eq_true rfl) (lv := [(3, .int (nI j)), (0, .ref (eA E 70)), (1, .int (nI w)), (2, .int (nI t))]) hl ⟨Nat.le_refl 0, Nat.le_refl 0⟩ d_R_spies_78 (fun H locs hW => ?_)
                have hW : qWH E (qr (qr S 18 (c80 ν α 80)) 16 (c80 (c80 ν α 80) μ 80)) s H locs := (by have h := hW; rw [qr_qr] at h; exact h)
                refine q_cvi X (c_R_orNone_n l E (qr (qr S 18 (c80 ν α 80)) 16 (c80 (c80 ν α 80) μ 80)) ψ (by rw [qr_ne (by omega), qr_ne (by omega), hψ])) hW (q_recv X hW ds_R rfl) ok_R_orNone mw_974 ⟨by decide, by decide⟩ (As := [.int (-1)]) rfl rfl (Nat.le_of_ble_eq_true rfl) (lv := [(3, .int (nI j)), (0, .ref (eA E 70)), (1, .int (nI w)), (2, .int (nI t))]) hl ⟨Nat.le_refl 0, Nat.le_refl 0⟩ d_R_spies_81 (fun H locs hW => ?_)
                have hW : qWH E (qr (qr (qr S 18 (c80 ν α 80)) 16 (c80 (c80 ν α 80) μ 80)) 19 (fnR ψ 3)) s H locs := hW
                exact q_pzret X rfl hW ⟨rfl, ⟨_, _, eq80_c.tr eq80_c, qr_3⟩⟩ d_R_spies_84
              · have c70 := b2i_n c70
                have hY := (show (lst (fun d => see (daysS d ν) w t) 201 0) = j by rw [← hL, show 201 - j = (200 - j) + 1 by omega, lst, if_pos (show see (daysS j ν) w t by rw [← hm]; exact c70)])
                omega
            · have c49 := b2i_e c49
              refine lv_aload_n X.x X.b d_R_spies_52 rfl (lv_at hl 1 rfl) ?_
              refine q_cvv X (c_R_day l E (qr (qr S 18 (c80 ν α 80)) 16 μ) μ (by rw [qr_at]) hμ) hW (q_recv X hW ds_R rfl) ok_R_day mw_893 ⟨by decide, by decide⟩ (As := []) rfl rfl (Nat.le_of_ble_eq_true rfl) (lv := [(3, .int (nI j)), (0, .ref (eA E 70)), (1, .int (nI w)), (2, .int (nI t))]) hl ⟨Nat.le_refl 0, Nat.le_refl 0⟩ d_R_spies_53 (fun H locs hW => ?_)
              have hW : qWH E (qr (qr S 18 (c80 ν α 80)) 16 (dayS μ)) s H locs := (by have h := hW; rw [qr_qr] at h; exact h)
              refine lv_iinc (v := nI (j + 1)) (lv' := [(3, .int (nI (j + 1))), (0, .ref (eA E 70)), (1, .int (nI w)), (2, .int (nI t))]) X.x X.b d_R_spies_56 hl (k := 0) rfl (by rw [show Int32.ofInt 1 = nI 1 from by decide, nI_add]) (by decide) rfl (fun ls hl => ?_)
              refine lv_goto (tgt := 36) X.x X.b d_R_spies_59 (by decide) ?_
              exact ih36 (j + 1) (dayS μ) (by omega) (by rw [hm]; rfl) (by rw [← hL, show 201 - j = (201 - (j + 1)) + 1 by omega, lst, if_neg (by rw [← hm]; exact c49)]) (by omega) _ _ _ hW (lv_sub hl [0, 1, 2, 3] rfl)
      exact loop36 (201 - 0 + 1) 0 ν (by omega) rfl rfl (Nat.lt_succ_self _) _ _ _ hW (lv_sub hl [0, 1, 2, 3] rfl)
    · have c13 := b2i_e c13
      have c13 := mt (isT_i hwf (by omega)).mpr c13
      omega
set_option maxHeartbeats 1000000 in
set_option maxRecDepth 20000 in
theorem c_R_spies_b (l : Launch) (E : QE) (S : QM) (ν : Nat → Int32) (hν : S 16 = ν) (hwf : WF ν) (ψ : Nat → Int32) (hψ : S 19 = ψ) (x y : Int32) (h : ¬ (isW ν x ∧ isT ν y)) : qCI E l y_R_spies prog_7_method_61_code 4 .int 3 [.ref (eA E 70), .int x, .int y] S (-1000001) (qr S 19 (fnR ψ 0)) := by
  refine qCI_of (by decide) (Nat.le_of_ble_eq_true rfl) (fun p e s m below meth c ls X hW hl => ?_)
  have hl : lv_has ls 4 [(0, .ref (eA E 70)), (1, .int x), (2, .int y)] := hl
  have htl := hwf.tl
  have hwl := hwf.wl
  have hdl := hwf.dl
  refine lv_aload_n X.x X.b d_R_spies_0 rfl (lv_at hl 0 rfl) ?_
  refine lv_iload_n X.x X.b d_R_spies_1 rfl (lv_at hl 1 rfl) ?_
  refine q_cvi X (c_R_isWalker l E S ν (by rw [hν]) hwf x) hW (q_recv X hW ds_R rfl) ok_R_isWalker mw_841 ⟨by decide, by decide⟩ (As := [.int x]) rfl rfl (Nat.le_of_ble_eq_true rfl) (lv := [(0, .ref (eA E 70)), (1, .int x), (2, .int y)]) hl ⟨Nat.le_refl 0, Nat.le_refl 0⟩ d_R_spies_2 (fun H locs hW => ?_)
  refine lv_if_eq (tgt := 16) X.x X.b d_R_spies_5 (by decide) (fun c5 => ?_) (fun c5 => ?_)
  · have c5 := b2i_e c5
    refine lv_aload_n X.x X.b d_R_spies_16 rfl (lv_at hl 0 rfl) ?_
    refine lv_ldc (v := (-1000001)) X.x X.b X.ow (X.ts _ mw_767) d_R_spies_17 ?_
    refine q_cvi X (c_R_finding_0 l E S ψ (by rw [hψ])) hW (q_recv X hW ds_R rfl) ok_R_finding mw_768 ⟨by decide, by decide⟩ (As := [.int (-1000001)]) rfl rfl (Nat.le_of_ble_eq_true rfl) (lv := [(0, .ref (eA E 70)), (1, .int x), (2, .int y)]) hl ⟨Nat.le_refl 0, Nat.le_refl 0⟩ d_R_spies_19 (fun H locs hW => ?_)
    have hW : qWH E (qr S 19 (fnR ψ 0)) s H locs := hW
    exact q_zret X rfl hW ⟨rfl, rfl⟩ d_R_spies_22
  · have c5 := b2i_n c5
    refine lv_aload_n X.x X.b d_R_spies_8 rfl (lv_at hl 0 rfl) ?_
    refine lv_iload_n X.x X.b d_R_spies_9 rfl (lv_at hl 2 rfl) ?_
    refine q_cvi X (c_R_isThing l E S ν (by rw [hν]) hwf y) hW (q_recv X hW ds_R rfl) ok_R_isThing mw_809 ⟨by decide, by decide⟩ (As := [.int y]) rfl rfl (Nat.le_of_ble_eq_true rfl) (lv := [(0, .ref (eA E 70)), (1, .int x), (2, .int y)]) hl ⟨Nat.le_refl 0, Nat.le_refl 0⟩ d_R_spies_10 (fun H locs hW => ?_)
    refine lv_if_ne (tgt := 23) X.x X.b d_R_spies_13 (by decide) (fun c13 => ?_) (fun c13 => ?_)
    · have c13 := b2i_n c13
      exact absurd ⟨c5, c13⟩ h
    · have c13 := b2i_e c13
      refine lv_aload_n X.x X.b d_R_spies_16 rfl (lv_at hl 0 rfl) ?_
      refine lv_ldc (v := (-1000001)) X.x X.b X.ow (X.ts _ mw_767) d_R_spies_17 ?_
      refine q_cvi X (c_R_finding_0 l E S ψ (by rw [hψ])) hW (q_recv X hW ds_R rfl) ok_R_finding mw_768 ⟨by decide, by decide⟩ (As := [.int (-1000001)]) rfl rfl (Nat.le_of_ble_eq_true rfl) (lv := [(0, .ref (eA E 70)), (1, .int x), (2, .int y)]) hl ⟨Nat.le_refl 0, Nat.le_refl 0⟩ d_R_spies_19 (fun H locs hW => ?_)
      have hW : qWH E (qr S 19 (fnR ψ 0)) s H locs := hW
      exact q_zret X rfl hW ⟨rfl, rfl⟩ d_R_spies_22
set_option maxHeartbeats 1000000 in
set_option maxRecDepth 20000 in
theorem c_R_meet_g (l : Launch) (E : QE) (S : QM) (ν : Nat → Int32) (hν : S 16 = ν) (hwf : WF ν) (α : Nat → Int32) (hα : S 18 = α) (w t : Nat) (hw : w < nW ν) (ht : t < nW ν) (hne : ¬ w = t) (hF : (lst (fun d => (daysS d ν) (44 + 6 * w) = (daysS d ν) (44 + 6 * t)) 201 0) < 201) : qCPi E l y_R_meet prog_7_method_63_code 4 .int 9 [.ref (eA E 70), .int (nI w), .int (nI t)] S (nI (lst (fun d => (daysS d ν) (44 + 6 * w) = (daysS d ν) (44 + 6 * t)) 201 0)) (bhG S ν) := by
  refine qCPi_of (by decide) (Nat.le_of_ble_eq_true rfl) (fun p e s m below meth c ls X hW hl => ?_)
  have hl : lv_has ls 4 [(0, .ref (eA E 70)), (1, .int (nI w)), (2, .int (nI t))] := hl
  have hW : qWH E (qr (qr S 18 α) 16 ν) s s.heap [] := by rw [show qr (qr S 18 α) 16 ν = S from by rw [← hα, qr_self, ← hν, qr_self]]; exact hW
  have htl := hwf.tl
  have hwl := hwf.wl
  have hdl := hwf.dl
  refine lv_aload_n X.x X.b d_R_meet_0 rfl (lv_at hl 0 rfl) ?_
  refine lv_iload_n X.x X.b d_R_meet_1 rfl (lv_at hl 1 rfl) ?_
  refine q_cvi X (c_R_isWalker l E (qr (qr S 18 α) 16 ν) ν (by rw [qr_at]) hwf (nI w)) hW (q_recv X hW ds_R rfl) ok_R_isWalker mw_841 ⟨by decide, by decide⟩ (As := [.int (nI w)]) rfl rfl (Nat.le_of_ble_eq_true rfl) (lv := [(0, .ref (eA E 70)), (1, .int (nI w)), (2, .int (nI t))]) hl ⟨Nat.le_refl 0, Nat.le_refl 0⟩ d_R_meet_2 (fun H locs hW => ?_)
  refine lv_if_eq (tgt := 21) X.x X.b d_R_meet_5 (by decide) (fun c5 => ?_) (fun c5 => ?_)
  · have c5 := b2i_e c5
    have c5 := mt (isW_i hwf (by omega)).mpr c5
    omega
  · have c5 := b2i_n c5
    have c5 := (isW_i hwf (by omega)).mp c5
    refine lv_aload_n X.x X.b d_R_meet_8 rfl (lv_at hl 0 rfl) ?_
    refine lv_iload_n X.x X.b d_R_meet_9 rfl (lv_at hl 2 rfl) ?_
    refine q_cvi X (c_R_isWalker l E (qr (qr S 18 α) 16 ν) ν (by rw [qr_at]) hwf (nI t)) hW (q_recv X hW ds_R rfl) ok_R_isWalker mw_841 ⟨by decide, by decide⟩ (As := [.int (nI t)]) rfl rfl (Nat.le_of_ble_eq_true rfl) (lv := [(0, .ref (eA E 70)), (1, .int (nI w)), (2, .int (nI t))]) hl ⟨Nat.le_refl 0, Nat.le_refl 0⟩ d_R_meet_10 (fun H locs hW => ?_)
    refine lv_if_eq (tgt := 21) X.x X.b d_R_meet_13 (by decide) (fun c13 => ?_) (fun c13 => ?_)
    · have c13 := b2i_e c13
      have c13 := mt (isW_i hwf (by omega)).mpr c13
      omega
    · have c13 := b2i_n c13
      have c13 := (isW_i hwf (by omega)).mp c13
      refine lv_iload_n X.x X.b d_R_meet_16 rfl (lv_at hl 1 rfl) ?_
      refine lv_iload_n X.x X.b d_R_meet_17 rfl (lv_at hl 2 rfl) ?_
      refine lv_icmp_ne (tgt := 28) X.x X.b d_R_meet_18 (by decide) (fun c18 => ?_) (fun c18 => ?_)
      · have c18 : ¬ w = t := fun z => c18 ((nI_eq (a := w) (b := t) (by omega) (by omega)).mpr z)
        refine lv_aload_n X.x X.b d_R_meet_28 rfl (lv_at hl 0 rfl) ?_
        refine q_getr X hW qj4 rfl _ ds_R 0 (by decide) mw_686 rfl (c1 := 71) rfl d_R_meet_29 ?_
        refine lv_aload_n X.x X.b d_R_meet_32 rfl (lv_at hl 0 rfl) ?_
        refine q_getr X hW qj4 rfl _ ds_R 2 (by decide) mw_688 rfl (c1 := 73) rfl d_R_meet_33 ?_
        refine q_csv X (c_R_copyRow_na l E (qr (qr S 18 α) 16 ν) ν α (by rw [qr_at]) (by rw [qr_ne (by omega), qr_at])) hW ok_R_copyRow mw_959 ⟨by decide, by decide⟩ (As := [.ref (eA E 71), .ref (eA E 73)]) rfl rfl (Nat.le_of_ble_eq_true rfl) (lv := [(0, .ref (eA E 70)), (1, .int (nI w)), (2, .int (nI t))]) hl ⟨Nat.le_refl 0, Nat.le_refl 0⟩ d_R_meet_36 (fun H locs hW => ?_)
        have hW : qWH E (qr (qr S 18 (c80 ν α 80)) 16 ν) s H locs := (by have h := hW; rw [qr_in (by omega)] at h; exact h)
        refine lv_iconst (v := nI 0) X.x X.b d_R_meet_39 (by decide) ?_
        refine lv_istore_n (lv' := [(3, .int (nI 0)), (0, .ref (eA E 70)), (1, .int (nI w)), (2, .int (nI t))]) X.x X.b d_R_meet_40 rfl hl (by decide) rfl (fun ls hl => ?_)
        have loop41 : ∀ (fu41 : Nat) (j : Nat) (μ : Nat → Int32), j ≤ 200 → μ = daysS j ν → lst (fun d => (daysS d ν) (44 + 6 * w) = (daysS d ν) (44 + 6 * t)) (201 - j) j = (lst (fun d => (daysS d ν) (44 + 6 * w) = (daysS d ν) (44 + 6 * t)) 201 0) → 201 - j < fu41 → ∀ (H : Heap) (locs : List Loc) (ls : Array Slot), qWH E (qr (qr S 18 (c80 ν α 80)) 16 μ) s H locs → lv_has ls 4 [(3, .int (nI j)), (0, .ref (eA E 70)), (1, .int (nI w)), (2, .int (nI t))] → W p l e (qRm 9) s m ([.ref (eA E 70), .int (nI w), .int (nI t)] : List Value).toArray below meth c H locs 0 0 (MQ below (qQpi E (nI (lst (fun d => (daysS d ν) (44 + 6 * w) = (daysS d ν) (44 + 6 * t)) 201 0)) (bhG S ν) s.heap.size) ([.ref (eA E 70), .int (nI w), .int (nI t)] : List Value).toArray s 0 0 (qAA E s.heap.size)) (F0 m 41 ls []) := by
          intro fu41
          induction fu41 with
          | zero =>
            intro j μ hj hm hL hfu
            exact absurd hfu (Nat.not_lt_zero _)
          | succ fu41 ih41 =>
            intro j μ hj hm hL hfu H locs ls hW hl
            have hμ : WF μ := hm ▸ dF hwf j
            have enW : nW μ = nW ν := by rw [hm]; exact (days_ok hwf j).2.2
            have enT : nT μ = nT ν := by rw [hm]; exact (days_ok hwf j).2.1
            refine lv_iload_n X.x X.b d_R_meet_41 rfl (lv_at hl 0 rfl) ?_
            refine lv_sipush (v := nI 200) X.x X.b d_R_meet_42 (by decide) ?_
            refine lv_icmp_ge (tgt := 67) X.x X.b d_R_meet_45 (by decide) (fun c45 => ?_) (fun c45 => ?_)
            · have c45 : 200 ≤ j := (nI_leI (a := 200) (b := j) (by omega) (by omega)).mp c45
              refine lv_aload_n X.x X.b d_R_meet_67 rfl (lv_at hl 1 rfl) ?_
              refine lv_aload_n X.x X.b d_R_meet_68 rfl (lv_at hl 1 rfl) ?_
              refine lv_aload_n X.x X.b d_R_meet_69 rfl (lv_at hl 1 rfl) ?_
              refine lv_iload_n X.x X.b d_R_meet_70 rfl (lv_at hl 2 rfl) ?_
              refine lv_iload_n X.x X.b d_R_meet_71 rfl (lv_at hl 3 rfl) ?_
              refine q_cvi X (c_R_areTogether l E (qr (qr S 18 (c80 ν α 80)) 16 μ) μ (by rw [qr_at]) w t (by omega) (by omega)) hW (q_recv X hW ds_R rfl) ok_R_areTogether mw_987 ⟨by decide, by decide⟩ (As := [.int (nI w), .int (nI t)]) rfl rfl (Nat.le_of_ble_eq_true rfl) (lv := [(3, .int (nI j)), (0, .ref (eA E 70)), (1, .int (nI w)), (2, .int (nI t))]) hl ⟨Nat.le_refl 0, Nat.le_refl 0⟩ d_R_meet_72 (fun H locs hW => ?_)
              refine lv_if_eq (tgt := 82) X.x X.b d_R_meet_75 (by decide) (fun c75 => ?_) (fun c75 => ?_)
              · have c75 := b2i_e c75
                have hj2 : j = 200 := by first | omega | exact absurd c54 c75
                have hN : (lst (fun d => (daysS d ν) (44 + 6 * w) = (daysS d ν) (44 + 6 * t)) 201 0) = 201 := by rw [← hL, show 201 - j = (200 - j) + 1 by omega, lst, if_neg (show ¬ (daysS j ν) (44 + 6 * w) = (daysS j ν) (44 + 6 * t) by rw [← hm]; exact c75), show 200 - j = 0 by omega, lst]; omega
                omega
              · have c75 := b2i_n c75
                refine lv_iload_n X.x X.b d_R_meet_78 rfl (lv_at hl 0 rfl) ?_
                refine lv_goto (tgt := 83) X.x X.b d_R_meet_79 (by decide) ?_
                refine q_cvi X (c_R_putBack l E (qr (qr S 18 (c80 ν α 80)) 16 μ) μ (c80 ν α 80) (by rw [qr_at]) (by rw [qr_ne (by omega), qr_at]) (nI j)) hW (q_recv X hW ds_R rfl) ok_R_putBack mw_962 ⟨by decide, by decide⟩ (As := [.int (nI j)]) rfl rfl (Nat.le_of_ble_eq_true rfl) (lv := [(3, .int (nI j)), (0, .ref (eA E 70)), (1, .int (nI w)), (2, .int (nI t))]) hl ⟨Nat.le_refl 0, Nat.le_refl 0⟩ d_R_meet_83 (fun H locs hW => ?_)
                have hW : qWH E (qr (qr S 18 (c80 ν α 80)) 16 (c80 (c80 ν α 80) μ 80)) s H locs := (by have h := hW; rw [qr_qr] at h; exact h)
                refine q_cvi X (c_R_orNone_g l E (qr (qr S 18 (c80 ν α 80)) 16 (c80 (c80 ν α 80) μ 80)) j (by omega)) hW (q_recv X hW ds_R rfl) ok_R_orNone mw_974 ⟨by decide, by decide⟩ (As := [.int (nI j)]) rfl rfl (Nat.le_of_ble_eq_true rfl) (lv := [(3, .int (nI j)), (0, .ref (eA E 70)), (1, .int (nI w)), (2, .int (nI t))]) hl ⟨Nat.le_refl 0, Nat.le_refl 0⟩ d_R_meet_86 (fun H locs hW => ?_)
                exact q_pzret X rfl hW ⟨congrArg nI (show (lst (fun d => (daysS d ν) (44 + 6 * w) = (daysS d ν) (44 + 6 * t)) 201 0) = j by rw [← hL, show 201 - j = (200 - j) + 1 by omega, lst, if_pos (show (daysS j ν) (44 + 6 * w) = (daysS j ν) (44 + 6 * t) by rw [← hm]; exact c75)]).symm, ⟨_, _, eq80_c.tr eq80_c, rfl⟩⟩ d_R_meet_89
            · have c45 : ¬ 200 ≤ j := fun z => c45 ((nI_leI (a := 200) (b := j) (by omega) (by omega)).mpr z)
              refine lv_aload_n X.x X.b d_R_meet_48 rfl (lv_at hl 1 rfl) ?_
              refine lv_iload_n X.x X.b d_R_meet_49 rfl (lv_at hl 2 rfl) ?_
              refine lv_iload_n X.x X.b d_R_meet_50 rfl (lv_at hl 3 rfl) ?_
              refine q_cvi X (c_R_areTogether l E (qr (qr S 18 (c80 ν α 80)) 16 μ) μ (by rw [qr_at]) w t (by omega) (by omega)) hW (q_recv X hW ds_R rfl) ok_R_areTogether mw_987 ⟨by decide, by decide⟩ (As := [.int (nI w), .int (nI t)]) rfl rfl (Nat.le_of_ble_eq_true rfl) (lv := [(3, .int (nI j)), (0, .ref (eA E 70)), (1, .int (nI w)), (2, .int (nI t))]) hl ⟨Nat.le_refl 0, Nat.le_refl 0⟩ d_R_meet_51 (fun H locs hW => ?_)
              refine lv_if_ne (tgt := 67) X.x X.b d_R_meet_54 (by decide) (fun c54 => ?_) (fun c54 => ?_)
              · have c54 := b2i_n c54
                refine lv_aload_n X.x X.b d_R_meet_67 rfl (lv_at hl 1 rfl) ?_
                refine lv_aload_n X.x X.b d_R_meet_68 rfl (lv_at hl 1 rfl) ?_
                refine lv_aload_n X.x X.b d_R_meet_69 rfl (lv_at hl 1 rfl) ?_
                refine lv_iload_n X.x X.b d_R_meet_70 rfl (lv_at hl 2 rfl) ?_
                refine lv_iload_n X.x X.b d_R_meet_71 rfl (lv_at hl 3 rfl) ?_
                refine q_cvi X (c_R_areTogether l E (qr (qr S 18 (c80 ν α 80)) 16 μ) μ (by rw [qr_at]) w t (by omega) (by omega)) hW (q_recv X hW ds_R rfl) ok_R_areTogether mw_987 ⟨by decide, by decide⟩ (As := [.int (nI w), .int (nI t)]) rfl rfl (Nat.le_of_ble_eq_true rfl) (lv := [(3, .int (nI j)), (0, .ref (eA E 70)), (1, .int (nI w)), (2, .int (nI t))]) hl ⟨Nat.le_refl 0, Nat.le_refl 0⟩ d_R_meet_72 (fun H locs hW => ?_)
                refine lv_if_eq (tgt := 82) X.x X.b d_R_meet_75 (by decide) (fun c75 => ?_) (fun c75 => ?_)
                · have c75 := b2i_e c75
                  have hj2 : j = 200 := by first | omega | exact absurd c54 c75
                  have hN : (lst (fun d => (daysS d ν) (44 + 6 * w) = (daysS d ν) (44 + 6 * t)) 201 0) = 201 := by rw [← hL, show 201 - j = (200 - j) + 1 by omega, lst, if_neg (show ¬ (daysS j ν) (44 + 6 * w) = (daysS j ν) (44 + 6 * t) by rw [← hm]; exact c75), show 200 - j = 0 by omega, lst]; omega
                  omega
                · have c75 := b2i_n c75
                  refine lv_iload_n X.x X.b d_R_meet_78 rfl (lv_at hl 0 rfl) ?_
                  refine lv_goto (tgt := 83) X.x X.b d_R_meet_79 (by decide) ?_
                  refine q_cvi X (c_R_putBack l E (qr (qr S 18 (c80 ν α 80)) 16 μ) μ (c80 ν α 80) (by rw [qr_at]) (by rw [qr_ne (by omega), qr_at]) (nI j)) hW (q_recv X hW ds_R rfl) ok_R_putBack mw_962 ⟨by decide, by decide⟩ (As := [.int (nI j)]) rfl rfl (Nat.le_of_ble_eq_true rfl) (lv := [(3, .int (nI j)), (0, .ref (eA E 70)), (1, .int (nI w)), (2, .int (nI t))]) hl ⟨Nat.le_refl 0, Nat.le_refl 0⟩ d_R_meet_83 (fun H locs hW => ?_)
                  have hW : qWH E (qr (qr S 18 (c80 ν α 80)) 16 (c80 (c80 ν α 80) μ 80)) s H locs := (by have h := hW; rw [qr_qr] at h; exact h)
                  refine q_cvi X (c_R_orNone_g l E (qr (qr S 18 (c80 ν α 80)) 16 (c80 (c80 ν α 80) μ 80)) j (by omega)) hW (q_recv X hW ds_R rfl) ok_R_orNone mw_974 ⟨by decide, by decide⟩ (As := [.int (nI j)]) rfl rfl (Nat.le_of_ble_eq_true rfl) (lv := [(3, .int (nI j)), (0, .ref (eA E 70)), (1, .int (nI w)), (2, .int (nI t))]) hl ⟨Nat.le_refl 0, Nat.le_refl 0⟩ d_R_meet_86 (fun H locs hW => ?_)
                  exact q_pzret X rfl hW ⟨congrArg nI (show (lst (fun d => (daysS d ν) (44 + 6 * w) = (daysS d ν) (44 + 6 * t)) 201 0) = j by rw [← hL, show 201 - j = (200 - j) + 1 by omega, lst, if_pos (show (daysS j ν) (44 + 6 * w) = (daysS j ν) (44 + 6 * t) by rw [← hm]; exact c75)]).symm, ⟨_, _, eq80_c.tr eq80_c, rfl⟩⟩ d_R_meet_89
              · have c54 := b2i_e c54
                refine lv_aload_n X.x X.b d_R_meet_57 rfl (lv_at hl 1 rfl) ?_
                refine q_cvv X (c_R_day l E (qr (qr S 18 (c80 ν α 80)) 16 μ) μ (by rw [qr_at]) hμ) hW (q_recv X hW ds_R rfl) ok_R_day mw_893 ⟨by decide, by decide⟩ (As := []) rfl rfl (Nat.le_of_ble_eq_true rfl) (lv := [(3, .int (nI j)), (0, .ref (eA E 70)), (1, .int (nI w)), (2, .int (nI t))]) hl ⟨Nat.le_refl 0, Nat.le_refl 0⟩ d_R_meet_58 (fun H locs hW => ?_)
                have hW : qWH E (qr (qr S 18 (c80 ν α 80)) 16 (dayS μ)) s H locs := (by have h := hW; rw [qr_qr] at h; exact h)
                refine lv_iinc (v := nI (j + 1)) (lv' := [(3, .int (nI (j + 1))), (0, .ref (eA E 70)), (1, .int (nI w)), (2, .int (nI t))]) X.x X.b d_R_meet_61 hl (k := 0) rfl (by rw [show Int32.ofInt 1 = nI 1 from by decide, nI_add]) (by decide) rfl (fun ls hl => ?_)
                refine lv_goto (tgt := 41) X.x X.b d_R_meet_64 (by decide) ?_
                exact ih41 (j + 1) (dayS μ) (by omega) (by rw [hm]; rfl) (by rw [← hL, show 201 - j = (201 - (j + 1)) + 1 by omega, lst, if_neg (by rw [← hm]; exact c54)]) (by omega) _ _ _ hW (lv_sub hl [0, 1, 2, 3] rfl)
        exact loop41 (201 - 0 + 1) 0 ν (by omega) rfl rfl (Nat.lt_succ_self _) _ _ _ hW (lv_sub hl [0, 1, 2, 3] rfl)
      · have c18 : w = t := (nI_eq (a := w) (b := t) (by omega) (by omega)).mp c18
        omega
set_option maxHeartbeats 1000000 in
set_option maxRecDepth 20000 in
theorem c_R_meet_n (l : Launch) (E : QE) (S : QM) (ν : Nat → Int32) (hν : S 16 = ν) (hwf : WF ν) (α : Nat → Int32) (hα : S 18 = α) (ψ : Nat → Int32) (hψ : S 19 = ψ) (w t : Nat) (hw : w < nW ν) (ht : t < nW ν) (hne : ¬ w = t) (hF : ¬ (lst (fun d => (daysS d ν) (44 + 6 * w) = (daysS d ν) (44 + 6 * t)) 201 0) < 201) : qCPi E l y_R_meet prog_7_method_63_code 4 .int 9 [.ref (eA E 70), .int (nI w), .int (nI t)] S (-1000004) (bhG (qr S 19 (fnR ψ 3)) ν) := by
  refine qCPi_of (by decide) (Nat.le_of_ble_eq_true rfl) (fun p e s m below meth c ls X hW hl => ?_)
  have hl : lv_has ls 4 [(0, .ref (eA E 70)), (1, .int (nI w)), (2, .int (nI t))] := hl
  have hW : qWH E (qr (qr S 18 α) 16 ν) s s.heap [] := by rw [show qr (qr S 18 α) 16 ν = S from by rw [← hα, qr_self, ← hν, qr_self]]; exact hW
  have htl := hwf.tl
  have hwl := hwf.wl
  have hdl := hwf.dl
  refine lv_aload_n X.x X.b d_R_meet_0 rfl (lv_at hl 0 rfl) ?_
  refine lv_iload_n X.x X.b d_R_meet_1 rfl (lv_at hl 1 rfl) ?_
  refine q_cvi X (c_R_isWalker l E (qr (qr S 18 α) 16 ν) ν (by rw [qr_at]) hwf (nI w)) hW (q_recv X hW ds_R rfl) ok_R_isWalker mw_841 ⟨by decide, by decide⟩ (As := [.int (nI w)]) rfl rfl (Nat.le_of_ble_eq_true rfl) (lv := [(0, .ref (eA E 70)), (1, .int (nI w)), (2, .int (nI t))]) hl ⟨Nat.le_refl 0, Nat.le_refl 0⟩ d_R_meet_2 (fun H locs hW => ?_)
  refine lv_if_eq (tgt := 21) X.x X.b d_R_meet_5 (by decide) (fun c5 => ?_) (fun c5 => ?_)
  · have c5 := b2i_e c5
    have c5 := mt (isW_i hwf (by omega)).mpr c5
    omega
  · have c5 := b2i_n c5
    have c5 := (isW_i hwf (by omega)).mp c5
    refine lv_aload_n X.x X.b d_R_meet_8 rfl (lv_at hl 0 rfl) ?_
    refine lv_iload_n X.x X.b d_R_meet_9 rfl (lv_at hl 2 rfl) ?_
    refine q_cvi X (c_R_isWalker l E (qr (qr S 18 α) 16 ν) ν (by rw [qr_at]) hwf (nI t)) hW (q_recv X hW ds_R rfl) ok_R_isWalker mw_841 ⟨by decide, by decide⟩ (As := [.int (nI t)]) rfl rfl (Nat.le_of_ble_eq_true rfl) (lv := [(0, .ref (eA E 70)), (1, .int (nI w)), (2, .int (nI t))]) hl ⟨Nat.le_refl 0, Nat.le_refl 0⟩ d_R_meet_10 (fun H locs hW => ?_)
    refine lv_if_eq (tgt := 21) X.x X.b d_R_meet_13 (by decide) (fun c13 => ?_) (fun c13 => ?_)
    · have c13 := b2i_e c13
      have c13 := mt (isW_i hwf (by omega)).mpr c13
      omega
    · have c13 := b2i_n c13
      have c13 := (isW_i hwf (by omega)).mp c13
      refine lv_iload_n X.x X.b d_R_meet_16 rfl (lv_at hl 1 rfl) ?_
      refine lv_iload_n X.x X.b d_R_meet_17 rfl (lv_at hl 2 rfl) ?_
      refine lv_icmp_ne (tgt := 28) X.x X.b d_R_meet_18 (by decide) (fun c18 => ?_) (fun c18 => ?_)
      · have c18 : ¬ w = t := fun z => c18 ((nI_eq (a := w) (b := t) (by omega) (by omega)).mpr z)
        refine lv_aload_n X.x X.b d_R_meet_28 rfl (lv_at hl 0 rfl) ?_
        refine q_getr X hW qj4 rfl _ ds_R 0 (by decide) mw_686 rfl (c1 := 71) rfl d_R_meet_29 ?_
        refine lv_aload_n X.x X.b d_R_meet_32 rfl (lv_at hl 0 rfl) ?_
        refine q_getr X hW qj4 rfl _ ds_R 2 (by decide) mw_688 rfl (c1 := 73) rfl d_R_meet_33 ?_
        refine q_csv X (c_R_copyRow_na l E (qr (qr S 18 α) 16 ν) ν α (by rw [qr_at]) (by rw [qr_ne (by omega), qr_at])) hW ok_R_copyRow mw_959 ⟨by decide, by decide⟩ (As := [.ref (eA E 71), .ref (eA E 73)]) rfl rfl (Nat.le_of_ble_eq_true rfl) (lv := [(0, .ref (eA E 70)), (1, .int (nI w)), (2, .int (nI t))]) hl ⟨Nat.le_refl 0, Nat.le_refl 0⟩ d_R_meet_36 (fun H locs hW => ?_)
        have hW : qWH E (qr (qr S 18 (c80 ν α 80)) 16 ν) s H locs := (by have h := hW; rw [qr_in (by omega)] at h; exact h)
        refine lv_iconst (v := nI 0) X.x X.b d_R_meet_39 (by decide) ?_
        refine lv_istore_n (lv' := [(3, .int (nI 0)), (0, .ref (eA E 70)), (1, .int (nI w)), (2, .int (nI t))]) X.x X.b d_R_meet_40 rfl hl (by decide) rfl (fun ls hl => ?_)
        have loop41 : ∀ (fu41 : Nat) (j : Nat) (μ : Nat → Int32), j ≤ 200 → μ = daysS j ν → lst (fun d => (daysS d ν) (44 + 6 * w) = (daysS d ν) (44 + 6 * t)) (201 - j) j = (lst (fun d => (daysS d ν) (44 + 6 * w) = (daysS d ν) (44 + 6 * t)) 201 0) → 201 - j < fu41 → ∀ (H : Heap) (locs : List Loc) (ls : Array Slot), qWH E (qr (qr S 18 (c80 ν α 80)) 16 μ) s H locs → lv_has ls 4 [(3, .int (nI j)), (0, .ref (eA E 70)), (1, .int (nI w)), (2, .int (nI t))] → W p l e (qRm 9) s m ([.ref (eA E 70), .int (nI w), .int (nI t)] : List Value).toArray below meth c H locs 0 0 (MQ below (qQpi E (-1000004) (bhG (qr S 19 (fnR ψ 3)) ν) s.heap.size) ([.ref (eA E 70), .int (nI w), .int (nI t)] : List Value).toArray s 0 0 (qAA E s.heap.size)) (F0 m 41 ls []) := by
          intro fu41
          induction fu41 with
          | zero =>
            intro j μ hj hm hL hfu
            exact absurd hfu (Nat.not_lt_zero _)
          | succ fu41 ih41 =>
            intro j μ hj hm hL hfu H locs ls hW hl
            have hμ : WF μ := hm ▸ dF hwf j
            have enW : nW μ = nW ν := by rw [hm]; exact (days_ok hwf j).2.2
            have enT : nT μ = nT ν := by rw [hm]; exact (days_ok hwf j).2.1
            refine lv_iload_n X.x X.b d_R_meet_41 rfl (lv_at hl 0 rfl) ?_
            refine lv_sipush (v := nI 200) X.x X.b d_R_meet_42 (by decide) ?_
            refine lv_icmp_ge (tgt := 67) X.x X.b d_R_meet_45 (by decide) (fun c45 => ?_) (fun c45 => ?_)
            · have c45 : 200 ≤ j := (nI_leI (a := 200) (b := j) (by omega) (by omega)).mp c45
              refine lv_aload_n X.x X.b d_R_meet_67 rfl (lv_at hl 1 rfl) ?_
              refine lv_aload_n X.x X.b d_R_meet_68 rfl (lv_at hl 1 rfl) ?_
              refine lv_aload_n X.x X.b d_R_meet_69 rfl (lv_at hl 1 rfl) ?_
              refine lv_iload_n X.x X.b d_R_meet_70 rfl (lv_at hl 2 rfl) ?_
              refine lv_iload_n X.x X.b d_R_meet_71 rfl (lv_at hl 3 rfl) ?_
              refine q_cvi X (c_R_areTogether l E (qr (qr S 18 (c80 ν α 80)) 16 μ) μ (by rw [qr_at]) w t (by omega) (by omega)) hW (q_recv X hW ds_R rfl) ok_R_areTogether mw_987 ⟨by decide, by decide⟩ (As := [.int (nI w), .int (nI t)]) rfl rfl (Nat.le_of_ble_eq_true rfl) (lv := [(3, .int (nI j)), (0, .ref (eA E 70)), (1, .int (nI w)), (2, .int (nI t))]) hl ⟨Nat.le_refl 0, Nat.le_refl 0⟩ d_R_meet_72 (fun H locs hW => ?_)
              refine lv_if_eq (tgt := 82) X.x X.b d_R_meet_75 (by decide) (fun c75 => ?_) (fun c75 => ?_)
              · have c75 := b2i_e c75
                refine lv_iconst (v := (-1)) X.x X.b d_R_meet_82 (by decide) ?_
                refine q_cvi X (c_R_putBack l E (qr (qr S 18 (c80 ν α 80)) 16 μ) μ (c80 ν α 80) (by rw [qr_at]) (by rw [qr_ne (by omega), qr_at]) (-1)) hW (q_recv X hW ds_R rfl) ok_R_putBack mw_962 ⟨by decide, by decide⟩ (As := [.int (-1)]) rfl rfl (Nat.le_of_ble_eq_true rfl) (lv := [(3, .int (nI j)), (0, .ref (eA E 70)), (1, .int (nI w)), (2, .int (nI t))]) hl ⟨Nat.le_refl 0, Nat.le_refl 0⟩ d_R_meet_83 (fun H locs hW => ?_)
                have hW : qWH E (qr (qr S 18 (c80 ν α 80)) 16 (c80 (c80 ν α 80) μ 80)) s H locs := (by have h := hW; rw [qr_qr] at h; exact h)
                refine q_cvi X (c_R_orNone_n l E (qr (qr S 18 (c80 ν α 80)) 16 (c80 (c80 ν α 80) μ 80)) ψ (by rw [qr_ne (by omega), qr_ne (by omega), hψ])) hW (q_recv X hW ds_R rfl) ok_R_orNone mw_974 ⟨by decide, by decide⟩ (As := [.int (-1)]) rfl rfl (Nat.le_of_ble_eq_true rfl) (lv := [(3, .int (nI j)), (0, .ref (eA E 70)), (1, .int (nI w)), (2, .int (nI t))]) hl ⟨Nat.le_refl 0, Nat.le_refl 0⟩ d_R_meet_86 (fun H locs hW => ?_)
                have hW : qWH E (qr (qr (qr S 18 (c80 ν α 80)) 16 (c80 (c80 ν α 80) μ 80)) 19 (fnR ψ 3)) s H locs := hW
                exact q_pzret X rfl hW ⟨rfl, ⟨_, _, eq80_c.tr eq80_c, qr_3⟩⟩ d_R_meet_89
              · have c75 := b2i_n c75
                have hY := (show (lst (fun d => (daysS d ν) (44 + 6 * w) = (daysS d ν) (44 + 6 * t)) 201 0) = j by rw [← hL, show 201 - j = (200 - j) + 1 by omega, lst, if_pos (show (daysS j ν) (44 + 6 * w) = (daysS j ν) (44 + 6 * t) by rw [← hm]; exact c75)])
                omega
            · have c45 : ¬ 200 ≤ j := fun z => c45 ((nI_leI (a := 200) (b := j) (by omega) (by omega)).mpr z)
              refine lv_aload_n X.x X.b d_R_meet_48 rfl (lv_at hl 1 rfl) ?_
              refine lv_iload_n X.x X.b d_R_meet_49 rfl (lv_at hl 2 rfl) ?_
              refine lv_iload_n X.x X.b d_R_meet_50 rfl (lv_at hl 3 rfl) ?_
              refine q_cvi X (c_R_areTogether l E (qr (qr S 18 (c80 ν α 80)) 16 μ) μ (by rw [qr_at]) w t (by omega) (by omega)) hW (q_recv X hW ds_R rfl) ok_R_areTogether mw_987 ⟨by decide, by decide⟩ (As := [.int (nI w), .int (nI t)]) rfl rfl (Nat.le_of_ble_eq_true rfl) (lv := [(3, .int (nI j)), (0, .ref (eA E 70)), (1, .int (nI w)), (2, .int (nI t))]) hl ⟨Nat.le_refl 0, Nat.le_refl 0⟩ d_R_meet_51 (fun H locs hW => ?_)
              refine lv_if_ne (tgt := 67) X.x X.b d_R_meet_54 (by decide) (fun c54 => ?_) (fun c54 => ?_)
              · have c54 := b2i_n c54
                refine lv_aload_n X.x X.b d_R_meet_67 rfl (lv_at hl 1 rfl) ?_
                refine lv_aload_n X.x X.b d_R_meet_68 rfl (lv_at hl 1 rfl) ?_
                refine lv_aload_n X.x X.b d_R_meet_69 rfl (lv_at hl 1 rfl) ?_
                refine lv_iload_n X.x X.b d_R_meet_70 rfl (lv_at hl 2 rfl) ?_
                refine lv_iload_n X.x X.b d_R_meet_71 rfl (lv_at hl 3 rfl) ?_
                refine q_cvi X (c_R_areTogether l E (qr (qr S 18 (c80 ν α 80)) 16 μ) μ (by rw [qr_at]) w t (by omega) (by omega)) hW (q_recv X hW ds_R rfl) ok_R_areTogether mw_987 ⟨by decide, by decide⟩ (As := [.int (nI w), .int (nI t)]) rfl rfl (Nat.le_of_ble_eq_true rfl) (lv := [(3, .int (nI j)), (0, .ref (eA E 70)), (1, .int (nI w)), (2, .int (nI t))]) hl ⟨Nat.le_refl 0, Nat.le_refl 0⟩ d_R_meet_72 (fun H locs hW => ?_)
                refine lv_if_eq (tgt := 82) X.x X.b d_R_meet_75 (by decide) (fun c75 => ?_) (fun c75 => ?_)
                · have c75 := b2i_e c75
                  refine lv_iconst (v := (-1)) X.x X.b d_R_meet_82 (by decide) ?_
                  refine q_cvi X (c_R_putBack l E (qr (qr S 18 (c80 ν α 80)) 16 μ) μ (c80 ν α 80) (by rw [qr_at]) (by rw [qr_ne (by omega), qr_at]) (-1)) hW (q_recv X hW ds_R rfl) ok_R_putBack mw_962 ⟨by decide, by decide⟩ (As := [.int (-1)]) rfl rfl (Nat.le_of_ble_eq_true rfl) (lv := [(3, .int (nI j)), (0, .ref (eA E 70)), (1, .int (nI w)), (2, .int (nI t))]) hl ⟨Nat.le_refl 0, Nat.le_refl 0⟩ d_R_meet_83 (fun H locs hW => ?_)
                  have hW : qWH E (qr (qr S 18 (c80 ν α 80)) 16 (c80 (c80 ν α 80) μ 80)) s H locs := (by have h := hW; rw [qr_qr] at h; exact h)
                  refine q_cvi X (c_R_orNone_n l E (qr (qr S 18 (c80 ν α 80)) 16 (c80 (c80 ν α 80) μ 80)) ψ (by rw [qr_ne (by omega), qr_ne (by omega), hψ])) hW (q_recv X hW ds_R rfl) ok_R_orNone mw_974 ⟨by decide, by decide⟩ (As := [.int (-1)]) rfl rfl (Nat.le_of_ble_eq_true rfl) (lv := [(3, .int (nI j)), (0, .ref (eA E 70)), (1, .int (nI w)), (2, .int (nI t))]) hl ⟨Nat.le_refl 0, Nat.le_refl 0⟩ d_R_meet_86 (fun H locs hW => ?_)
                  have hW : qWH E (qr (qr (qr S 18 (c80 ν α 80)) 16 (c80 (c80 ν α 80) μ 80)) 19 (fnR ψ 3)) s H locs := hW
                  exact q_pzret X rfl hW ⟨rfl, ⟨_, _, eq80_c.tr eq80_c, qr_3⟩⟩ d_R_meet_89
                · have c75 := b2i_n c75
                  have hY := (show (lst (fun d => (daysS d ν) (44 + 6 * w) = (daysS d ν) (44 + 6 * t)) 201 0) = j by rw [← hL, show 201 - j = (200 - j) + 1 by omega, lst, if_pos (show (daysS j ν) (44 + 6 * w) = (daysS j ν) (44 + 6 * t) by rw [← hm]; exact c75)])
                  omega
              · have c54 := b2i_e c54
                refine lv_aload_n X.x X.b d_R_meet_57 rfl (lv_at hl 1 rfl) ?_
                refine q_cvv X (c_R_day l E (qr (qr S 18 (c80 ν α 80)) 16 μ) μ (by rw [qr_at]) hμ) hW (q_recv X hW ds_R rfl) ok_R_day mw_893 ⟨by decide, by decide⟩ (As := []) rfl rfl (Nat.le_of_ble_eq_true rfl) (lv := [(3, .int (nI j)), (0, .ref (eA E 70)), (1, .int (nI w)), (2, .int (nI t))]) hl ⟨Nat.le_refl 0, Nat.le_refl 0⟩ d_R_meet_58 (fun H locs hW => ?_)
                have hW : qWH E (qr (qr S 18 (c80 ν α 80)) 16 (dayS μ)) s H locs := (by have h := hW; rw [qr_qr] at h; exact h)
                refine lv_iinc (v := nI (j + 1)) (lv' := [(3, .int (nI (j + 1))), (0, .ref (eA E 70)), (1, .int (nI w)), (2, .int (nI t))]) X.x X.b d_R_meet_61 hl (k := 0) rfl (by rw [show Int32.ofInt 1 = nI 1 from by decide, nI_add]) (by decide) rfl (fun ls hl => ?_)
                refine lv_goto (tgt := 41) X.x X.b d_R_meet_64 (by decide) ?_
                exact ih41 (j + 1) (dayS μ) (by omega) (by rw [hm]; rfl) (by rw [← hL, show 201 - j = (201 - (j + 1)) + 1 by omega, lst, if_neg (by rw [← hm]; exact c54)]) (by omega) _ _ _ hW (lv_sub hl [0, 1, 2, 3] rfl)
        exact loop41 (201 - 0 + 1) 0 ν (by omega) rfl rfl (Nat.lt_succ_self _) _ _ _ hW (lv_sub hl [0, 1, 2, 3] rfl)
      · have c18 : w = t := (nI_eq (a := w) (b := t) (by omega) (by omega)).mp c18
        omega
set_option maxHeartbeats 1000000 in
set_option maxRecDepth 20000 in
theorem c_R_meet_b (l : Launch) (E : QE) (S : QM) (ν : Nat → Int32) (hν : S 16 = ν) (hwf : WF ν) (ψ : Nat → Int32) (hψ : S 19 = ψ) (x y : Int32) (h : ¬ (isW ν x ∧ isW ν y ∧ ¬ x = y)) : qCI E l y_R_meet prog_7_method_63_code 4 .int 3 [.ref (eA E 70), .int x, .int y] S (-1000001) (qr S 19 (fnR ψ 0)) := by
  refine qCI_of (by decide) (Nat.le_of_ble_eq_true rfl) (fun p e s m below meth c ls X hW hl => ?_)
  have hl : lv_has ls 4 [(0, .ref (eA E 70)), (1, .int x), (2, .int y)] := hl
  have htl := hwf.tl
  have hwl := hwf.wl
  have hdl := hwf.dl
  refine lv_aload_n X.x X.b d_R_meet_0 rfl (lv_at hl 0 rfl) ?_
  refine lv_iload_n X.x X.b d_R_meet_1 rfl (lv_at hl 1 rfl) ?_
  refine q_cvi X (c_R_isWalker l E S ν (by rw [hν]) hwf x) hW (q_recv X hW ds_R rfl) ok_R_isWalker mw_841 ⟨by decide, by decide⟩ (As := [.int x]) rfl rfl (Nat.le_of_ble_eq_true rfl) (lv := [(0, .ref (eA E 70)), (1, .int x), (2, .int y)]) hl ⟨Nat.le_refl 0, Nat.le_refl 0⟩ d_R_meet_2 (fun H locs hW => ?_)
  refine lv_if_eq (tgt := 21) X.x X.b d_R_meet_5 (by decide) (fun c5 => ?_) (fun c5 => ?_)
  · have c5 := b2i_e c5
    refine lv_aload_n X.x X.b d_R_meet_21 rfl (lv_at hl 0 rfl) ?_
    refine lv_ldc (v := (-1000001)) X.x X.b X.ow (X.ts _ mw_767) d_R_meet_22 ?_
    refine q_cvi X (c_R_finding_0 l E S ψ (by rw [hψ])) hW (q_recv X hW ds_R rfl) ok_R_finding mw_768 ⟨by decide, by decide⟩ (As := [.int (-1000001)]) rfl rfl (Nat.le_of_ble_eq_true rfl) (lv := [(0, .ref (eA E 70)), (1, .int x), (2, .int y)]) hl ⟨Nat.le_refl 0, Nat.le_refl 0⟩ d_R_meet_24 (fun H locs hW => ?_)
    have hW : qWH E (qr S 19 (fnR ψ 0)) s H locs := hW
    exact q_zret X rfl hW ⟨rfl, rfl⟩ d_R_meet_27
  · have c5 := b2i_n c5
    refine lv_aload_n X.x X.b d_R_meet_8 rfl (lv_at hl 0 rfl) ?_
    refine lv_iload_n X.x X.b d_R_meet_9 rfl (lv_at hl 2 rfl) ?_
    refine q_cvi X (c_R_isWalker l E S ν (by rw [hν]) hwf y) hW (q_recv X hW ds_R rfl) ok_R_isWalker mw_841 ⟨by decide, by decide⟩ (As := [.int y]) rfl rfl (Nat.le_of_ble_eq_true rfl) (lv := [(0, .ref (eA E 70)), (1, .int x), (2, .int y)]) hl ⟨Nat.le_refl 0, Nat.le_refl 0⟩ d_R_meet_10 (fun H locs hW => ?_)
    refine lv_if_eq (tgt := 21) X.x X.b d_R_meet_13 (by decide) (fun c13 => ?_) (fun c13 => ?_)
    · have c13 := b2i_e c13
      refine lv_aload_n X.x X.b d_R_meet_21 rfl (lv_at hl 0 rfl) ?_
      refine lv_ldc (v := (-1000001)) X.x X.b X.ow (X.ts _ mw_767) d_R_meet_22 ?_
      refine q_cvi X (c_R_finding_0 l E S ψ (by rw [hψ])) hW (q_recv X hW ds_R rfl) ok_R_finding mw_768 ⟨by decide, by decide⟩ (As := [.int (-1000001)]) rfl rfl (Nat.le_of_ble_eq_true rfl) (lv := [(0, .ref (eA E 70)), (1, .int x), (2, .int y)]) hl ⟨Nat.le_refl 0, Nat.le_refl 0⟩ d_R_meet_24 (fun H locs hW => ?_)
      have hW : qWH E (qr S 19 (fnR ψ 0)) s H locs := hW
      exact q_zret X rfl hW ⟨rfl, rfl⟩ d_R_meet_27
    · have c13 := b2i_n c13
      refine lv_iload_n X.x X.b d_R_meet_16 rfl (lv_at hl 1 rfl) ?_
      refine lv_iload_n X.x X.b d_R_meet_17 rfl (lv_at hl 2 rfl) ?_
      refine lv_icmp_ne (tgt := 28) X.x X.b d_R_meet_18 (by decide) (fun c18 => ?_) (fun c18 => ?_)
      · exact absurd ⟨c5, c13, c18⟩ h
      · refine lv_aload_n X.x X.b d_R_meet_21 rfl (lv_at hl 0 rfl) ?_
        refine lv_ldc (v := (-1000001)) X.x X.b X.ow (X.ts _ mw_767) d_R_meet_22 ?_
        refine q_cvi X (c_R_finding_0 l E S ψ (by rw [hψ])) hW (q_recv X hW ds_R rfl) ok_R_finding mw_768 ⟨by decide, by decide⟩ (As := [.int (-1000001)]) rfl rfl (Nat.le_of_ble_eq_true rfl) (lv := [(0, .ref (eA E 70)), (1, .int x), (2, .int y)]) hl ⟨Nat.le_refl 0, Nat.le_refl 0⟩ d_R_meet_24 (fun H locs hW => ?_)
        have hW : qWH E (qr S 19 (fnR ψ 0)) s H locs := hW
        exact q_zret X rfl hW ⟨rfl, rfl⟩ d_R_meet_27
set_option maxHeartbeats 1000000 in
set_option maxRecDepth 20000 in
theorem c_R_mostFor (l : Launch) (E : QE) (S : QM) (ν : Nat → Int32) (hν : S 16 = ν) (hwf : WF ν) (α : Nat → Int32) (hα : S 18 = α) (a0 many pl n : Nat) (G : Nat → Int32) (ha0 : a0 < 80) (hpl : pl < 80) (hmn : many ≤ 100) (hn : n ≤ 100) (hWf : ∀ v, v < many → WF (upd ν a0 (nI v))) (hG : ∀ v, v < many → ∀ μ, eq80 μ (upd ν a0 (nI v)) → daysS n μ pl = G v) : qCPi E l y_R_mostFor prog_7_method_65_code 10 .int 10 [.ref (eA E 70), .int (nI a0), .int (nI many), .int (nI pl), .int (nI n)] S (nI (bst G many).1) (bhG S ν) := by
  refine qCPi_of (by decide) (Nat.le_of_ble_eq_true rfl) (fun p e s m below meth c ls X hW hl => ?_)
  have hl : lv_has ls 10 [(0, .ref (eA E 70)), (1, .int (nI a0)), (2, .int (nI many)), (3, .int (nI pl)), (4, .int (nI n))] := hl
  have hW : qWH E (qr (qr S 18 α) 16 ν) s s.heap [] := by rw [show qr (qr S 18 α) 16 ν = S from by rw [← hα, qr_self, ← hν, qr_self]]; exact hW
  have htl := hwf.tl
  have hwl := hwf.wl
  have hdl := hwf.dl
  refine lv_aload_n X.x X.b d_R_mostFor_0 rfl (lv_at hl 0 rfl) ?_
  refine q_getr X hW qj4 rfl _ ds_R 0 (by decide) mw_686 rfl (c1 := 71) rfl d_R_mostFor_1 ?_
  refine lv_iload_n X.x X.b d_R_mostFor_4 rfl (lv_at hl 1 rfl) ?_
  refine g_ald X hW ds_71 (q_in (by omega) (by decide)) (p0 := a0) (q_tn (by omega) (by omega)) (v := ν a0) (by rw [qr_at]) d_R_mostFor_5 ?_
  refine lv_istore (lv' := [(5, .int (ν a0)), (0, .ref (eA E 70)), (1, .int (nI a0)), (2, .int (nI many)), (3, .int (nI pl)), (4, .int (nI n))]) X.x X.b d_R_mostFor_6 hl (by decide) rfl (fun ls hl => ?_)
  refine lv_iconst (v := nI 0) X.x X.b d_R_mostFor_8 (by decide) ?_
  refine lv_istore (lv' := [(6, .int (nI 0)), (5, .int (ν a0)), (0, .ref (eA E 70)), (1, .int (nI a0)), (2, .int (nI many)), (3, .int (nI pl)), (4, .int (nI n))]) X.x X.b d_R_mostFor_9 hl (by decide) rfl (fun ls hl => ?_)
  refine lv_iconst (v := (-1)) X.x X.b d_R_mostFor_11 (by decide) ?_
  refine lv_istore (lv' := [(7, .int (-1)), (6, .int (nI 0)), (5, .int (ν a0)), (0, .ref (eA E 70)), (1, .int (nI a0)), (2, .int (nI many)), (3, .int (nI pl)), (4, .int (nI n))]) X.x X.b d_R_mostFor_12 hl (by decide) rfl (fun ls hl => ?_)
  refine lv_iconst (v := nI 0) X.x X.b d_R_mostFor_14 (by decide) ?_
  refine lv_istore (lv' := [(8, .int (nI 0)), (7, .int (-1)), (6, .int (nI 0)), (5, .int (ν a0)), (0, .ref (eA E 70)), (1, .int (nI a0)), (2, .int (nI many)), (3, .int (nI pl)), (4, .int (nI n))]) X.x X.b d_R_mostFor_15 hl (by decide) rfl (fun ls hl => ?_)
  have loop17 : ∀ (fu17 : Nat) (j : Nat) (b : Nat) (a : Int32) (μ : Nat → Int32) (κ : Nat → Int32), j ≤ many → (b, a) = bst G j → (∀ v, eq80 (upd μ a0 v) (upd ν a0 v)) → many - j < fu17 → ∀ (H : Heap) (locs : List Loc) (ls : Array Slot), qWH E (qr (qr S 18 κ) 16 μ) s H locs → lv_has ls 10 [(8, .int (nI j)), (7, .int a), (6, .int (nI b)), (5, .int (ν a0)), (0, .ref (eA E 70)), (1, .int (nI a0)), (2, .int (nI many)), (3, .int (nI pl)), (4, .int (nI n))] → W p l e (qRm 10) s m ([.ref (eA E 70), .int (nI a0), .int (nI many), .int (nI pl), .int (nI n)] : List Value).toArray below meth c H locs 0 0 (MQ below (qQpi E (nI (bst G many).1) (bhG S ν) s.heap.size) ([.ref (eA E 70), .int (nI a0), .int (nI many), .int (nI pl), .int (nI n)] : List Value).toArray s 0 0 (qAA E s.heap.size)) (F0 m 17 ls []) := by
    intro fu17
    induction fu17 with
    | zero =>
      intro j b a μ κ hj hb hμ hfu
      exact absurd hfu (Nat.not_lt_zero _)
    | succ fu17 ih17 =>
      intro j b a μ κ hj hb hμ hfu H locs ls hW hl
      refine lv_iload X.x X.b d_R_mostFor_17 (lv_at hl 0 rfl) ?_
      refine lv_iload_n X.x X.b d_R_mostFor_19 rfl (lv_at hl 6 rfl) ?_
      refine lv_icmp_ge (tgt := 61) X.x X.b d_R_mostFor_20 (by decide) (fun c20 => ?_) (fun c20 => ?_)
      · have c20 : many ≤ j := (nI_leI (a := many) (b := j) (by omega) (by omega)).mp c20
        refine lv_aload_n X.x X.b d_R_mostFor_61 rfl (lv_at hl 4 rfl) ?_
        refine q_getr X hW qj4 rfl _ ds_R 0 (by decide) mw_686 rfl (c1 := 71) rfl d_R_mostFor_62 ?_
        refine lv_iload_n X.x X.b d_R_mostFor_65 rfl (lv_at hl 5 rfl) ?_
        refine lv_iload X.x X.b d_R_mostFor_66 (lv_at hl 3 rfl) ?_
        refine g_ast X hW ds_71 (q_in (by omega) (by decide)) (p0 := a0) (q_tn (by omega) (by omega)) (ρ := μ) (by rw [qr_at]) d_R_mostFor_68 (fun H locs hW => ?_)
        obtain ⟨r68, er68⟩ : ∃ z, z = upd μ a0 (ν a0) := ⟨_, rfl⟩
        rw [← er68] at hW
        rw [qr_qr] at hW
        refine lv_iload X.x X.b d_R_mostFor_69 (lv_at hl 2 rfl) ?_
        exact q_pzret X rfl hW ⟨by rw [show bst G many = (b, a) by rw [hb, show j = many by omega]], ⟨_, _, by rw [er68]; have h := hμ (ν a0); rw [upd_self] at h; exact h, rfl⟩⟩ d_R_mostFor_71
      · have c20 : ¬ many ≤ j := fun z => c20 ((nI_leI (a := many) (b := j) (by omega) (by omega)).mpr z)
        refine lv_aload_n X.x X.b d_R_mostFor_23 rfl (lv_at hl 4 rfl) ?_
        refine q_getr X hW qj4 rfl _ ds_R 0 (by decide) mw_686 rfl (c1 := 71) rfl d_R_mostFor_24 ?_
        refine lv_iload_n X.x X.b d_R_mostFor_27 rfl (lv_at hl 5 rfl) ?_
        refine lv_iload X.x X.b d_R_mostFor_28 (lv_at hl 0 rfl) ?_
        refine g_ast X hW ds_71 (q_in (by omega) (by decide)) (p0 := a0) (q_tn (by omega) (by omega)) (ρ := μ) (by rw [qr_at]) d_R_mostFor_30 (fun H locs hW => ?_)
        obtain ⟨r30, er30⟩ : ∃ z, z = upd μ a0 (nI j) := ⟨_, rfl⟩
        rw [← er30] at hW
        rw [qr_qr] at hW
        have hw30 : WF r30 := by rw [er30]; exact (hμ (nI j)).wf (hWf j (by omega))
        refine lv_aload_n X.x X.b d_R_mostFor_31 rfl (lv_at hl 4 rfl) ?_
        refine lv_iload_n X.x X.b d_R_mostFor_32 rfl (lv_at hl 7 rfl) ?_
        refine lv_iload X.x X.b d_R_mostFor_33 (lv_at hl 8 rfl) ?_
        refine q_cvip X (c_R_behind l E (qr (qr S 18 κ) 16 r30) r30 (by rw [qr_at]) hw30 κ (by rw [qr_ne (by omega), qr_at]) pl n (by omega) (by omega)) hW (q_recv X hW ds_R rfl) ok_R_behind mw_955 ⟨by decide, by decide⟩ (As := [.int (nI pl), .int (nI n)]) rfl rfl (Nat.le_of_ble_eq_true rfl) (lv := [(8, .int (nI j)), (7, .int a), (6, .int (nI b)), (5, .int (ν a0)), (0, .ref (eA E 70)), (1, .int (nI a0)), (2, .int (nI many)), (3, .int (nI pl)), (4, .int (nI n))]) hl ⟨Nat.le_refl 0, Nat.le_refl 0⟩ d_R_mostFor_35 (fun H locs Sq35 hP35 hW => ?_)
        obtain ⟨τ35, α35, hτ35, rfl⟩ := hP35
        have hW : qWH E (qr (qr S 18 α35) 16 τ35) s H locs := (by have h := hW; rw [qr_in (by omega), qr_in (by omega)] at h; exact h)
        rw [hG j (by omega) r30 (by rw [er30]; exact hμ (nI j))]
        refine lv_istore (lv' := [(9, .int (G j)), (8, .int (nI j)), (7, .int a), (6, .int (nI b)), (5, .int (ν a0)), (0, .ref (eA E 70)), (1, .int (nI a0)), (2, .int (nI many)), (3, .int (nI pl)), (4, .int (nI n))]) X.x X.b d_R_mostFor_38 hl (by decide) rfl (fun ls hl => ?_)
        refine lv_iload X.x X.b d_R_mostFor_40 (lv_at hl 0 rfl) ?_
        refine lv_iload X.x X.b d_R_mostFor_42 (lv_at hl 2 rfl) ?_
        refine lv_icmp_le (tgt := 55) X.x X.b d_R_mostFor_44 (by decide) (fun c44 => ?_) (fun c44 => ?_)
        · refine lv_iinc (v := nI (j + 1)) (lv' := [(8, .int (nI (j + 1))), (9, .int (G j)), (7, .int a), (6, .int (nI b)), (5, .int (ν a0)), (0, .ref (eA E 70)), (1, .int (nI a0)), (2, .int (nI many)), (3, .int (nI pl)), (4, .int (nI n))]) X.x X.b d_R_mostFor_55 hl (k := 1) rfl (by rw [show Int32.ofInt 1 = nI 1 from by decide, nI_add]) (by decide) rfl (fun ls hl => ?_)
          refine lv_goto (tgt := 17) X.x X.b d_R_mostFor_58 (by decide) ?_
          exact ih17 (j + 1) b a τ35 α35 (by omega) (by unfold bst; rw [← hb]; first | exact (if_pos (Int32.not_le.mp c44)).symm | exact (if_neg (Int32.not_lt.mpr c44)).symm) (eq80_st (er30 ▸ hτ35) hμ) (by omega) _ _ _ hW (lv_sub hl [0, 2, 3, 4, 5, 6, 7, 8, 9] rfl)
        · refine lv_iload X.x X.b d_R_mostFor_47 (lv_at hl 1 rfl) ?_
          refine lv_istore (lv' := [(6, .int (nI j)), (9, .int (G j)), (8, .int (nI j)), (7, .int a), (5, .int (ν a0)), (0, .ref (eA E 70)), (1, .int (nI a0)), (2, .int (nI many)), (3, .int (nI pl)), (4, .int (nI n))]) X.x X.b d_R_mostFor_49 hl (by decide) rfl (fun ls hl => ?_)
          refine lv_iload X.x X.b d_R_mostFor_51 (lv_at hl 1 rfl) ?_
          refine lv_istore (lv' := [(7, .int (G j)), (6, .int (nI j)), (9, .int (G j)), (8, .int (nI j)), (5, .int (ν a0)), (0, .ref (eA E 70)), (1, .int (nI a0)), (2, .int (nI many)), (3, .int (nI pl)), (4, .int (nI n))]) X.x X.b d_R_mostFor_53 hl (by decide) rfl (fun ls hl => ?_)
          refine lv_iinc (v := nI (j + 1)) (lv' := [(8, .int (nI (j + 1))), (7, .int (G j)), (6, .int (nI j)), (9, .int (G j)), (5, .int (ν a0)), (0, .ref (eA E 70)), (1, .int (nI a0)), (2, .int (nI many)), (3, .int (nI pl)), (4, .int (nI n))]) X.x X.b d_R_mostFor_55 hl (k := 3) rfl (by rw [show Int32.ofInt 1 = nI 1 from by decide, nI_add]) (by decide) rfl (fun ls hl => ?_)
          refine lv_goto (tgt := 17) X.x X.b d_R_mostFor_58 (by decide) ?_
          exact ih17 (j + 1) j (G j) τ35 α35 (by omega) (by unfold bst; rw [← hb]; first | exact (if_pos (Int32.not_le.mp c44)).symm | exact (if_neg (Int32.not_lt.mpr c44)).symm) (eq80_st (er30 ▸ hτ35) hμ) (by omega) _ _ _ hW (lv_sub hl [0, 1, 2, 4, 5, 6, 7, 8, 9] rfl)
  exact loop17 (many - 0 + 1) 0 0 (-1) ν α (by omega) rfl (fun _ => eq80.rf) (Nat.lt_succ_self _) _ _ _ hW (lv_sub hl [0, 1, 2, 3, 4, 5, 6, 7, 8] rfl)
set_option maxHeartbeats 1000000 in
set_option maxRecDepth 20000 in
theorem c_R_startFor_g (l : Launch) (E : QE) (S : QM) (ν : Nat → Int32) (hν : S 16 = ν) (hwf : WF ν) (α : Nat → Int32) (hα : S 18 = α) (w n : Nat) (hw : w < nW ν) (hn : n ≤ 40) : qCPi E l y_R_startFor prog_7_method_66_code 3 .int 11 [.ref (eA E 70), .int (nI w), .int (nI n)] S (nI (bst (fun i => gotS ν w 0 (nI i) n) 16).1) (bhG S ν) := by
  refine qCPi_of (by decide) (Nat.le_of_ble_eq_true rfl) (fun p e s m below meth c ls X hW hl => ?_)
  have hl : lv_has ls 3 [(0, .ref (eA E 70)), (1, .int (nI w)), (2, .int (nI n))] := hl
  have hW : qWH E (qr (qr S 18 α) 16 ν) s s.heap [] := by rw [show qr (qr S 18 α) 16 ν = S from by rw [← hα, qr_self, ← hν, qr_self]]; exact hW
  have htl := hwf.tl
  have hwl := hwf.wl
  have hdl := hwf.dl
  refine lv_aload_n X.x X.b d_R_startFor_0 rfl (lv_at hl 0 rfl) ?_
  refine lv_iload_n X.x X.b d_R_startFor_1 rfl (lv_at hl 1 rfl) ?_
  refine q_cvi X (c_R_isWalker l E (qr (qr S 18 α) 16 ν) ν (by rw [qr_at]) hwf (nI w)) hW (q_recv X hW ds_R rfl) ok_R_isWalker mw_841 ⟨by decide, by decide⟩ (As := [.int (nI w)]) rfl rfl (Nat.le_of_ble_eq_true rfl) (lv := [(0, .ref (eA E 70)), (1, .int (nI w)), (2, .int (nI n))]) hl ⟨Nat.le_refl 0, Nat.le_refl 0⟩ d_R_startFor_2 (fun H locs hW => ?_)
  refine lv_if_eq (tgt := 35) X.x X.b d_R_startFor_5 (by decide) (fun c5 => ?_) (fun c5 => ?_)
  · have c5 := b2i_e c5
    have c5 := mt (isW_i hwf (by omega)).mpr c5
    omega
  · have c5 := b2i_n c5
    have c5 := (isW_i hwf (by omega)).mp c5
    refine lv_iload_n X.x X.b d_R_startFor_8 rfl (lv_at hl 2 rfl) ?_
    refine q_csi X (c_R_isThought l E (qr (qr S 18 α) 16 ν) (nI n)) hW ok_R_isThought mw_995 ⟨by decide, by decide⟩ (As := [.int (nI n)]) rfl rfl (Nat.le_of_ble_eq_true rfl) (lv := [(0, .ref (eA E 70)), (1, .int (nI w)), (2, .int (nI n))]) hl ⟨Nat.le_refl 0, Nat.le_refl 0⟩ d_R_startFor_9 (fun H locs hW => ?_)
    refine lv_if_eq (tgt := 35) X.x X.b d_R_startFor_12 (by decide) (fun c12 => ?_) (fun c12 => ?_)
    · have c12 := b2i_e c12
      have c12 := mt (inR_i (by omega) (by decide)).mpr c12
      omega
    · have c12 := b2i_n c12
      have c12 := (inR_i (by omega) (by decide)).mp c12
      refine lv_aload_n X.x X.b d_R_startFor_15 rfl (lv_at hl 0 rfl) ?_
      refine lv_iload_n X.x X.b d_R_startFor_16 rfl (lv_at hl 1 rfl) ?_
      refine lv_iconst (v := nI 0) X.x X.b d_R_startFor_17 (by decide) ?_
      refine q_csi X (c_R_walkerAt_z l E (qr (qr S 18 α) 16 ν) w) hW ok_R_walkerAt mw_802 ⟨by decide, by decide⟩ (As := [.int (nI w), .int (nI 0)]) rfl rfl (Nat.le_of_ble_eq_true rfl) (lv := [(0, .ref (eA E 70)), (1, .int (nI w)), (2, .int (nI n))]) hl ⟨Nat.le_refl 0, Nat.le_refl 0⟩ d_R_startFor_18 (fun H locs hW => ?_)
      refine lv_bipush (v := nI 16) X.x X.b d_R_startFor_21 (by decide) ?_
      refine lv_iload_n X.x X.b d_R_startFor_23 rfl (lv_at hl 1 rfl) ?_
      refine lv_iconst (v := nI 4) X.x X.b d_R_startFor_24 (by decide) ?_
      refine q_csi X (c_R_walkerAt l E (qr (qr S 18 α) 16 ν) w 4) hW ok_R_walkerAt mw_802 ⟨by decide, by decide⟩ (As := [.int (nI w), .int (nI 4)]) rfl rfl (Nat.le_of_ble_eq_true rfl) (lv := [(0, .ref (eA E 70)), (1, .int (nI w)), (2, .int (nI n))]) hl ⟨Nat.le_refl 0, Nat.le_refl 0⟩ d_R_startFor_25 (fun H locs hW => ?_)
      refine lv_iload_n X.x X.b d_R_startFor_28 rfl (lv_at hl 2 rfl) ?_
      refine q_cvip X (c_R_mostFor l E (qr (qr S 18 α) 16 ν) ν (by rw [qr_at]) hwf α (by rw [qr_ne (by omega), qr_at]) (44 + 6 * w) 16 (44 + 6 * w + 4) n (fun i => gotS ν w 0 (nI i) n) (by omega) (by omega) (by omega) (by omega) (fun v hv => WF_wc hwf (by omega) (by omega)) (fun v hv μ h => gotW (f := 0) ((fun v hv => WF_wc hwf (by omega) (by omega)) v hv) hw n h)) hW (q_recv X hW ds_R rfl) ok_R_mostFor mw_998 ⟨by decide, by decide⟩ (As := [.int (nI (44 + 6 * w)), .int (nI 16), .int (nI (44 + 6 * w + 4)), .int (nI n)]) rfl rfl (Nat.le_of_ble_eq_true rfl) (lv := [(0, .ref (eA E 70)), (1, .int (nI w)), (2, .int (nI n))]) hl ⟨Nat.le_refl 0, Nat.le_refl 0⟩ d_R_startFor_29 (fun H locs Sq29 hP29 hW => ?_)
      obtain ⟨τ29, α29, hτ29, rfl⟩ := hP29
      have hW : qWH E (qr (qr S 18 α29) 16 τ29) s H locs := (by have h := hW; rw [qr_in (by omega), qr_in (by omega)] at h; exact h)
      refine lv_goto (tgt := 41) X.x X.b d_R_startFor_32 (by decide) ?_
      exact q_pzret X rfl hW ⟨rfl, ⟨_, _, hτ29, rfl⟩⟩ d_R_startFor_41
set_option maxHeartbeats 1000000 in
set_option maxRecDepth 20000 in
theorem c_R_startFor_b (l : Launch) (E : QE) (S : QM) (ν : Nat → Int32) (hν : S 16 = ν) (hwf : WF ν) (ψ : Nat → Int32) (hψ : S 19 = ψ) (x y : Int32) (h : ¬ (isW ν x ∧ inR 0 40 y)) : qCI E l y_R_startFor prog_7_method_66_code 3 .int 4 [.ref (eA E 70), .int x, .int y] S (-1000001) (qr S 19 (fnR ψ 0)) := by
  refine qCI_of (by decide) (Nat.le_of_ble_eq_true rfl) (fun p e s m below meth c ls X hW hl => ?_)
  have hl : lv_has ls 3 [(0, .ref (eA E 70)), (1, .int x), (2, .int y)] := hl
  have htl := hwf.tl
  have hwl := hwf.wl
  have hdl := hwf.dl
  refine lv_aload_n X.x X.b d_R_startFor_0 rfl (lv_at hl 0 rfl) ?_
  refine lv_iload_n X.x X.b d_R_startFor_1 rfl (lv_at hl 1 rfl) ?_
  refine q_cvi X (c_R_isWalker l E S ν (by rw [hν]) hwf x) hW (q_recv X hW ds_R rfl) ok_R_isWalker mw_841 ⟨by decide, by decide⟩ (As := [.int x]) rfl rfl (Nat.le_of_ble_eq_true rfl) (lv := [(0, .ref (eA E 70)), (1, .int x), (2, .int y)]) hl ⟨Nat.le_refl 0, Nat.le_refl 0⟩ d_R_startFor_2 (fun H locs hW => ?_)
  refine lv_if_eq (tgt := 35) X.x X.b d_R_startFor_5 (by decide) (fun c5 => ?_) (fun c5 => ?_)
  · have c5 := b2i_e c5
    refine lv_aload_n X.x X.b d_R_startFor_35 rfl (lv_at hl 0 rfl) ?_
    refine lv_ldc (v := (-1000001)) X.x X.b X.ow (X.ts _ mw_767) d_R_startFor_36 ?_
    refine q_cvi X (c_R_finding_0 l E S ψ (by rw [hψ])) hW (q_recv X hW ds_R rfl) ok_R_finding mw_768 ⟨by decide, by decide⟩ (As := [.int (-1000001)]) rfl rfl (Nat.le_of_ble_eq_true rfl) (lv := [(0, .ref (eA E 70)), (1, .int x), (2, .int y)]) hl ⟨Nat.le_refl 0, Nat.le_refl 0⟩ d_R_startFor_38 (fun H locs hW => ?_)
    have hW : qWH E (qr S 19 (fnR ψ 0)) s H locs := hW
    exact q_zret X rfl hW ⟨rfl, rfl⟩ d_R_startFor_41
  · have c5 := b2i_n c5
    refine lv_iload_n X.x X.b d_R_startFor_8 rfl (lv_at hl 2 rfl) ?_
    refine q_csi X (c_R_isThought l E S y) hW ok_R_isThought mw_995 ⟨by decide, by decide⟩ (As := [.int y]) rfl rfl (Nat.le_of_ble_eq_true rfl) (lv := [(0, .ref (eA E 70)), (1, .int x), (2, .int y)]) hl ⟨Nat.le_refl 0, Nat.le_refl 0⟩ d_R_startFor_9 (fun H locs hW => ?_)
    refine lv_if_eq (tgt := 35) X.x X.b d_R_startFor_12 (by decide) (fun c12 => ?_) (fun c12 => ?_)
    · have c12 := b2i_e c12
      refine lv_aload_n X.x X.b d_R_startFor_35 rfl (lv_at hl 0 rfl) ?_
      refine lv_ldc (v := (-1000001)) X.x X.b X.ow (X.ts _ mw_767) d_R_startFor_36 ?_
      refine q_cvi X (c_R_finding_0 l E S ψ (by rw [hψ])) hW (q_recv X hW ds_R rfl) ok_R_finding mw_768 ⟨by decide, by decide⟩ (As := [.int (-1000001)]) rfl rfl (Nat.le_of_ble_eq_true rfl) (lv := [(0, .ref (eA E 70)), (1, .int x), (2, .int y)]) hl ⟨Nat.le_refl 0, Nat.le_refl 0⟩ d_R_startFor_38 (fun H locs hW => ?_)
      have hW : qWH E (qr S 19 (fnR ψ 0)) s H locs := hW
      exact q_zret X rfl hW ⟨rfl, rfl⟩ d_R_startFor_41
    · have c12 := b2i_n c12
      exact absurd ⟨c5, c12⟩ h
set_option maxHeartbeats 1000000 in
set_option maxRecDepth 20000 in
theorem c_R_aimFor_g (l : Launch) (E : QE) (S : QM) (ν : Nat → Int32) (hν : S 16 = ν) (hwf : WF ν) (α : Nat → Int32) (hα : S 18 = α) (w n : Nat) (hw : w < nW ν) (hn : n ≤ 40) : qCPi E l y_R_aimFor prog_7_method_67_code 3 .int 11 [.ref (eA E 70), .int (nI w), .int (nI n)] S (nI (bst (fun i => gotS ν w 1 (nI i) n) 8).1) (bhG S ν) := by
  refine qCPi_of (by decide) (Nat.le_of_ble_eq_true rfl) (fun p e s m below meth c ls X hW hl => ?_)
  have hl : lv_has ls 3 [(0, .ref (eA E 70)), (1, .int (nI w)), (2, .int (nI n))] := hl
  have hW : qWH E (qr (qr S 18 α) 16 ν) s s.heap [] := by rw [show qr (qr S 18 α) 16 ν = S from by rw [← hα, qr_self, ← hν, qr_self]]; exact hW
  have htl := hwf.tl
  have hwl := hwf.wl
  have hdl := hwf.dl
  refine lv_aload_n X.x X.b d_R_aimFor_0 rfl (lv_at hl 0 rfl) ?_
  refine lv_iload_n X.x X.b d_R_aimFor_1 rfl (lv_at hl 1 rfl) ?_
  refine q_cvi X (c_R_isWalker l E (qr (qr S 18 α) 16 ν) ν (by rw [qr_at]) hwf (nI w)) hW (q_recv X hW ds_R rfl) ok_R_isWalker mw_841 ⟨by decide, by decide⟩ (As := [.int (nI w)]) rfl rfl (Nat.le_of_ble_eq_true rfl) (lv := [(0, .ref (eA E 70)), (1, .int (nI w)), (2, .int (nI n))]) hl ⟨Nat.le_refl 0, Nat.le_refl 0⟩ d_R_aimFor_2 (fun H locs hW => ?_)
  refine lv_if_eq (tgt := 35) X.x X.b d_R_aimFor_5 (by decide) (fun c5 => ?_) (fun c5 => ?_)
  · have c5 := b2i_e c5
    have c5 := mt (isW_i hwf (by omega)).mpr c5
    omega
  · have c5 := b2i_n c5
    have c5 := (isW_i hwf (by omega)).mp c5
    refine lv_iload_n X.x X.b d_R_aimFor_8 rfl (lv_at hl 2 rfl) ?_
    refine q_csi X (c_R_isThought l E (qr (qr S 18 α) 16 ν) (nI n)) hW ok_R_isThought mw_995 ⟨by decide, by decide⟩ (As := [.int (nI n)]) rfl rfl (Nat.le_of_ble_eq_true rfl) (lv := [(0, .ref (eA E 70)), (1, .int (nI w)), (2, .int (nI n))]) hl ⟨Nat.le_refl 0, Nat.le_refl 0⟩ d_R_aimFor_9 (fun H locs hW => ?_)
    refine lv_if_eq (tgt := 35) X.x X.b d_R_aimFor_12 (by decide) (fun c12 => ?_) (fun c12 => ?_)
    · have c12 := b2i_e c12
      have c12 := mt (inR_i (by omega) (by decide)).mpr c12
      omega
    · have c12 := b2i_n c12
      have c12 := (inR_i (by omega) (by decide)).mp c12
      refine lv_aload_n X.x X.b d_R_aimFor_15 rfl (lv_at hl 0 rfl) ?_
      refine lv_iload_n X.x X.b d_R_aimFor_16 rfl (lv_at hl 1 rfl) ?_
      refine lv_iconst (v := nI 1) X.x X.b d_R_aimFor_17 (by decide) ?_
      refine q_csi X (c_R_walkerAt l E (qr (qr S 18 α) 16 ν) w 1) hW ok_R_walkerAt mw_802 ⟨by decide, by decide⟩ (As := [.int (nI w), .int (nI 1)]) rfl rfl (Nat.le_of_ble_eq_true rfl) (lv := [(0, .ref (eA E 70)), (1, .int (nI w)), (2, .int (nI n))]) hl ⟨Nat.le_refl 0, Nat.le_refl 0⟩ d_R_aimFor_18 (fun H locs hW => ?_)
      refine lv_bipush (v := nI 8) X.x X.b d_R_aimFor_21 (by decide) ?_
      refine lv_iload_n X.x X.b d_R_aimFor_23 rfl (lv_at hl 1 rfl) ?_
      refine lv_iconst (v := nI 4) X.x X.b d_R_aimFor_24 (by decide) ?_
      refine q_csi X (c_R_walkerAt l E (qr (qr S 18 α) 16 ν) w 4) hW ok_R_walkerAt mw_802 ⟨by decide, by decide⟩ (As := [.int (nI w), .int (nI 4)]) rfl rfl (Nat.le_of_ble_eq_true rfl) (lv := [(0, .ref (eA E 70)), (1, .int (nI w)), (2, .int (nI n))]) hl ⟨Nat.le_refl 0, Nat.le_refl 0⟩ d_R_aimFor_25 (fun H locs hW => ?_)
      refine lv_iload_n X.x X.b d_R_aimFor_28 rfl (lv_at hl 2 rfl) ?_
      refine q_cvip X (c_R_mostFor l E (qr (qr S 18 α) 16 ν) ν (by rw [qr_at]) hwf α (by rw [qr_ne (by omega), qr_at]) (44 + 6 * w + 1) 8 (44 + 6 * w + 4) n (fun i => gotS ν w 1 (nI i) n) (by omega) (by omega) (by omega) (by omega) (fun v hv => WF_free hwf (by omega)) (fun v hv μ h => gotW (f := 1) ((fun v hv => WF_free hwf (by omega)) v hv) hw n h)) hW (q_recv X hW ds_R rfl) ok_R_mostFor mw_998 ⟨by decide, by decide⟩ (As := [.int (nI (44 + 6 * w + 1)), .int (nI 8), .int (nI (44 + 6 * w + 4)), .int (nI n)]) rfl rfl (Nat.le_of_ble_eq_true rfl) (lv := [(0, .ref (eA E 70)), (1, .int (nI w)), (2, .int (nI n))]) hl ⟨Nat.le_refl 0, Nat.le_refl 0⟩ d_R_aimFor_29 (fun H locs Sq29 hP29 hW => ?_)
      obtain ⟨τ29, α29, hτ29, rfl⟩ := hP29
      have hW : qWH E (qr (qr S 18 α29) 16 τ29) s H locs := (by have h := hW; rw [qr_in (by omega), qr_in (by omega)] at h; exact h)
      refine lv_goto (tgt := 41) X.x X.b d_R_aimFor_32 (by decide) ?_
      exact q_pzret X rfl hW ⟨rfl, ⟨_, _, hτ29, rfl⟩⟩ d_R_aimFor_41
set_option maxHeartbeats 1000000 in
set_option maxRecDepth 20000 in
theorem c_R_aimFor_b (l : Launch) (E : QE) (S : QM) (ν : Nat → Int32) (hν : S 16 = ν) (hwf : WF ν) (ψ : Nat → Int32) (hψ : S 19 = ψ) (x y : Int32) (h : ¬ (isW ν x ∧ inR 0 40 y)) : qCI E l y_R_aimFor prog_7_method_67_code 3 .int 4 [.ref (eA E 70), .int x, .int y] S (-1000001) (qr S 19 (fnR ψ 0)) := by
  refine qCI_of (by decide) (Nat.le_of_ble_eq_true rfl) (fun p e s m below meth c ls X hW hl => ?_)
  have hl : lv_has ls 3 [(0, .ref (eA E 70)), (1, .int x), (2, .int y)] := hl
  have htl := hwf.tl
  have hwl := hwf.wl
  have hdl := hwf.dl
  refine lv_aload_n X.x X.b d_R_aimFor_0 rfl (lv_at hl 0 rfl) ?_
  refine lv_iload_n X.x X.b d_R_aimFor_1 rfl (lv_at hl 1 rfl) ?_
  refine q_cvi X (c_R_isWalker l E S ν (by rw [hν]) hwf x) hW (q_recv X hW ds_R rfl) ok_R_isWalker mw_841 ⟨by decide, by decide⟩ (As := [.int x]) rfl rfl (Nat.le_of_ble_eq_true rfl) (lv := [(0, .ref (eA E 70)), (1, .int x), (2, .int y)]) hl ⟨Nat.le_refl 0, Nat.le_refl 0⟩ d_R_aimFor_2 (fun H locs hW => ?_)
  refine lv_if_eq (tgt := 35) X.x X.b d_R_aimFor_5 (by decide) (fun c5 => ?_) (fun c5 => ?_)
  · have c5 := b2i_e c5
    refine lv_aload_n X.x X.b d_R_aimFor_35 rfl (lv_at hl 0 rfl) ?_
    refine lv_ldc (v := (-1000001)) X.x X.b X.ow (X.ts _ mw_767) d_R_aimFor_36 ?_
    refine q_cvi X (c_R_finding_0 l E S ψ (by rw [hψ])) hW (q_recv X hW ds_R rfl) ok_R_finding mw_768 ⟨by decide, by decide⟩ (As := [.int (-1000001)]) rfl rfl (Nat.le_of_ble_eq_true rfl) (lv := [(0, .ref (eA E 70)), (1, .int x), (2, .int y)]) hl ⟨Nat.le_refl 0, Nat.le_refl 0⟩ d_R_aimFor_38 (fun H locs hW => ?_)
    have hW : qWH E (qr S 19 (fnR ψ 0)) s H locs := hW
    exact q_zret X rfl hW ⟨rfl, rfl⟩ d_R_aimFor_41
  · have c5 := b2i_n c5
    refine lv_iload_n X.x X.b d_R_aimFor_8 rfl (lv_at hl 2 rfl) ?_
    refine q_csi X (c_R_isThought l E S y) hW ok_R_isThought mw_995 ⟨by decide, by decide⟩ (As := [.int y]) rfl rfl (Nat.le_of_ble_eq_true rfl) (lv := [(0, .ref (eA E 70)), (1, .int x), (2, .int y)]) hl ⟨Nat.le_refl 0, Nat.le_refl 0⟩ d_R_aimFor_9 (fun H locs hW => ?_)
    refine lv_if_eq (tgt := 35) X.x X.b d_R_aimFor_12 (by decide) (fun c12 => ?_) (fun c12 => ?_)
    · have c12 := b2i_e c12
      refine lv_aload_n X.x X.b d_R_aimFor_35 rfl (lv_at hl 0 rfl) ?_
      refine lv_ldc (v := (-1000001)) X.x X.b X.ow (X.ts _ mw_767) d_R_aimFor_36 ?_
      refine q_cvi X (c_R_finding_0 l E S ψ (by rw [hψ])) hW (q_recv X hW ds_R rfl) ok_R_finding mw_768 ⟨by decide, by decide⟩ (As := [.int (-1000001)]) rfl rfl (Nat.le_of_ble_eq_true rfl) (lv := [(0, .ref (eA E 70)), (1, .int x), (2, .int y)]) hl ⟨Nat.le_refl 0, Nat.le_refl 0⟩ d_R_aimFor_38 (fun H locs hW => ?_)
      have hW : qWH E (qr S 19 (fnR ψ 0)) s H locs := hW
      exact q_zret X rfl hW ⟨rfl, rfl⟩ d_R_aimFor_41
    · have c12 := b2i_n c12
      exact absurd ⟨c5, c12⟩ h
set_option maxHeartbeats 1000000 in
set_option maxRecDepth 20000 in
theorem c_R_kindFor_g (l : Launch) (E : QE) (S : QM) (ν : Nat → Int32) (hν : S 16 = ν) (hwf : WF ν) (α : Nat → Int32) (hα : S 18 = α) (t n : Nat) (ht : t < nT ν) (hn : n ≤ 40) : qCPi E l y_R_kindFor prog_7_method_68_code 3 .int 11 [.ref (eA E 70), .int (nI t), .int (nI n)] S (nI (bst (fun i => metS ν t (nI i) n) 7).1) (bhG S ν) := by
  refine qCPi_of (by decide) (Nat.le_of_ble_eq_true rfl) (fun p e s m below meth c ls X hW hl => ?_)
  have hl : lv_has ls 3 [(0, .ref (eA E 70)), (1, .int (nI t)), (2, .int (nI n))] := hl
  have hW : qWH E (qr (qr S 18 α) 16 ν) s s.heap [] := by rw [show qr (qr S 18 α) 16 ν = S from by rw [← hα, qr_self, ← hν, qr_self]]; exact hW
  have htl := hwf.tl
  have hwl := hwf.wl
  have hdl := hwf.dl
  refine lv_aload_n X.x X.b d_R_kindFor_0 rfl (lv_at hl 0 rfl) ?_
  refine lv_iload_n X.x X.b d_R_kindFor_1 rfl (lv_at hl 1 rfl) ?_
  refine q_cvi X (c_R_isThing l E (qr (qr S 18 α) 16 ν) ν (by rw [qr_at]) hwf (nI t)) hW (q_recv X hW ds_R rfl) ok_R_isThing mw_809 ⟨by decide, by decide⟩ (As := [.int (nI t)]) rfl rfl (Nat.le_of_ble_eq_true rfl) (lv := [(0, .ref (eA E 70)), (1, .int (nI t)), (2, .int (nI n))]) hl ⟨Nat.le_refl 0, Nat.le_refl 0⟩ d_R_kindFor_2 (fun H locs hW => ?_)
  refine lv_if_eq (tgt := 35) X.x X.b d_R_kindFor_5 (by decide) (fun c5 => ?_) (fun c5 => ?_)
  · have c5 := b2i_e c5
    have c5 := mt (isT_i hwf (by omega)).mpr c5
    omega
  · have c5 := b2i_n c5
    have c5 := (isT_i hwf (by omega)).mp c5
    refine lv_iload_n X.x X.b d_R_kindFor_8 rfl (lv_at hl 2 rfl) ?_
    refine q_csi X (c_R_isThought l E (qr (qr S 18 α) 16 ν) (nI n)) hW ok_R_isThought mw_995 ⟨by decide, by decide⟩ (As := [.int (nI n)]) rfl rfl (Nat.le_of_ble_eq_true rfl) (lv := [(0, .ref (eA E 70)), (1, .int (nI t)), (2, .int (nI n))]) hl ⟨Nat.le_refl 0, Nat.le_refl 0⟩ d_R_kindFor_9 (fun H locs hW => ?_)
    refine lv_if_eq (tgt := 35) X.x X.b d_R_kindFor_12 (by decide) (fun c12 => ?_) (fun c12 => ?_)
    · have c12 := b2i_e c12
      have c12 := mt (inR_i (by omega) (by decide)).mpr c12
      omega
    · have c12 := b2i_n c12
      have c12 := (inR_i (by omega) (by decide)).mp c12
      refine lv_aload_n X.x X.b d_R_kindFor_15 rfl (lv_at hl 0 rfl) ?_
      refine lv_iload_n X.x X.b d_R_kindFor_16 rfl (lv_at hl 1 rfl) ?_
      refine lv_iconst (v := nI 0) X.x X.b d_R_kindFor_17 (by decide) ?_
      refine q_csi X (c_R_thingAt_z l E (qr (qr S 18 α) 16 ν) t) hW ok_R_thingAt mw_791 ⟨by decide, by decide⟩ (As := [.int (nI t), .int (nI 0)]) rfl rfl (Nat.le_of_ble_eq_true rfl) (lv := [(0, .ref (eA E 70)), (1, .int (nI t)), (2, .int (nI n))]) hl ⟨Nat.le_refl 0, Nat.le_refl 0⟩ d_R_kindFor_18 (fun H locs hW => ?_)
      refine lv_bipush (v := nI 7) X.x X.b d_R_kindFor_21 (by decide) ?_
      refine lv_iload_n X.x X.b d_R_kindFor_23 rfl (lv_at hl 1 rfl) ?_
      refine lv_iconst (v := nI 2) X.x X.b d_R_kindFor_24 (by decide) ?_
      refine q_csi X (c_R_thingAt l E (qr (qr S 18 α) 16 ν) t 2) hW ok_R_thingAt mw_791 ⟨by decide, by decide⟩ (As := [.int (nI t), .int (nI 2)]) rfl rfl (Nat.le_of_ble_eq_true rfl) (lv := [(0, .ref (eA E 70)), (1, .int (nI t)), (2, .int (nI n))]) hl ⟨Nat.le_refl 0, Nat.le_refl 0⟩ d_R_kindFor_25 (fun H locs hW => ?_)
      refine lv_iload_n X.x X.b d_R_kindFor_28 rfl (lv_at hl 2 rfl) ?_
      refine q_cvip X (c_R_mostFor l E (qr (qr S 18 α) 16 ν) ν (by rw [qr_at]) hwf α (by rw [qr_ne (by omega), qr_at]) (20 + 3 * t) 7 (20 + 3 * t + 2) n (fun i => metS ν t (nI i) n) (by omega) (by omega) (by omega) (by omega) (fun v hv => WF_tk hwf (by omega) (by omega)) (fun v hv μ h => metT (WF_tk hwf (by omega) (by omega)) ht n h)) hW (q_recv X hW ds_R rfl) ok_R_mostFor mw_998 ⟨by decide, by decide⟩ (As := [.int (nI (20 + 3 * t)), .int (nI 7), .int (nI (20 + 3 * t + 2)), .int (nI n)]) rfl rfl (Nat.le_of_ble_eq_true rfl) (lv := [(0, .ref (eA E 70)), (1, .int (nI t)), (2, .int (nI n))]) hl ⟨Nat.le_refl 0, Nat.le_refl 0⟩ d_R_kindFor_29 (fun H locs Sq29 hP29 hW => ?_)
      obtain ⟨τ29, α29, hτ29, rfl⟩ := hP29
      have hW : qWH E (qr (qr S 18 α29) 16 τ29) s H locs := (by have h := hW; rw [qr_in (by omega), qr_in (by omega)] at h; exact h)
      refine lv_goto (tgt := 41) X.x X.b d_R_kindFor_32 (by decide) ?_
      exact q_pzret X rfl hW ⟨rfl, ⟨_, _, hτ29, rfl⟩⟩ d_R_kindFor_41
set_option maxHeartbeats 1000000 in
set_option maxRecDepth 20000 in
theorem c_R_kindFor_b (l : Launch) (E : QE) (S : QM) (ν : Nat → Int32) (hν : S 16 = ν) (hwf : WF ν) (ψ : Nat → Int32) (hψ : S 19 = ψ) (x y : Int32) (h : ¬ (isT ν x ∧ inR 0 40 y)) : qCI E l y_R_kindFor prog_7_method_68_code 3 .int 4 [.ref (eA E 70), .int x, .int y] S (-1000001) (qr S 19 (fnR ψ 0)) := by
  refine qCI_of (by decide) (Nat.le_of_ble_eq_true rfl) (fun p e s m below meth c ls X hW hl => ?_)
  have hl : lv_has ls 3 [(0, .ref (eA E 70)), (1, .int x), (2, .int y)] := hl
  have htl := hwf.tl
  have hwl := hwf.wl
  have hdl := hwf.dl
  refine lv_aload_n X.x X.b d_R_kindFor_0 rfl (lv_at hl 0 rfl) ?_
  refine lv_iload_n X.x X.b d_R_kindFor_1 rfl (lv_at hl 1 rfl) ?_
  refine q_cvi X (c_R_isThing l E S ν (by rw [hν]) hwf x) hW (q_recv X hW ds_R rfl) ok_R_isThing mw_809 ⟨by decide, by decide⟩ (As := [.int x]) rfl rfl (Nat.le_of_ble_eq_true rfl) (lv := [(0, .ref (eA E 70)), (1, .int x), (2, .int y)]) hl ⟨Nat.le_refl 0, Nat.le_refl 0⟩ d_R_kindFor_2 (fun H locs hW => ?_)
  refine lv_if_eq (tgt := 35) X.x X.b d_R_kindFor_5 (by decide) (fun c5 => ?_) (fun c5 => ?_)
  · have c5 := b2i_e c5
    refine lv_aload_n X.x X.b d_R_kindFor_35 rfl (lv_at hl 0 rfl) ?_
    refine lv_ldc (v := (-1000001)) X.x X.b X.ow (X.ts _ mw_767) d_R_kindFor_36 ?_
    refine q_cvi X (c_R_finding_0 l E S ψ (by rw [hψ])) hW (q_recv X hW ds_R rfl) ok_R_finding mw_768 ⟨by decide, by decide⟩ (As := [.int (-1000001)]) rfl rfl (Nat.le_of_ble_eq_true rfl) (lv := [(0, .ref (eA E 70)), (1, .int x), (2, .int y)]) hl ⟨Nat.le_refl 0, Nat.le_refl 0⟩ d_R_kindFor_38 (fun H locs hW => ?_)
    have hW : qWH E (qr S 19 (fnR ψ 0)) s H locs := hW
    exact q_zret X rfl hW ⟨rfl, rfl⟩ d_R_kindFor_41
  · have c5 := b2i_n c5
    refine lv_iload_n X.x X.b d_R_kindFor_8 rfl (lv_at hl 2 rfl) ?_
    refine q_csi X (c_R_isThought l E S y) hW ok_R_isThought mw_995 ⟨by decide, by decide⟩ (As := [.int y]) rfl rfl (Nat.le_of_ble_eq_true rfl) (lv := [(0, .ref (eA E 70)), (1, .int x), (2, .int y)]) hl ⟨Nat.le_refl 0, Nat.le_refl 0⟩ d_R_kindFor_9 (fun H locs hW => ?_)
    refine lv_if_eq (tgt := 35) X.x X.b d_R_kindFor_12 (by decide) (fun c12 => ?_) (fun c12 => ?_)
    · have c12 := b2i_e c12
      refine lv_aload_n X.x X.b d_R_kindFor_35 rfl (lv_at hl 0 rfl) ?_
      refine lv_ldc (v := (-1000001)) X.x X.b X.ow (X.ts _ mw_767) d_R_kindFor_36 ?_
      refine q_cvi X (c_R_finding_0 l E S ψ (by rw [hψ])) hW (q_recv X hW ds_R rfl) ok_R_finding mw_768 ⟨by decide, by decide⟩ (As := [.int (-1000001)]) rfl rfl (Nat.le_of_ble_eq_true rfl) (lv := [(0, .ref (eA E 70)), (1, .int x), (2, .int y)]) hl ⟨Nat.le_refl 0, Nat.le_refl 0⟩ d_R_kindFor_38 (fun H locs hW => ?_)
      have hW : qWH E (qr S 19 (fnR ψ 0)) s H locs := hW
      exact q_zret X rfl hW ⟨rfl, rfl⟩ d_R_kindFor_41
    · have c12 := b2i_n c12
      exact absurd ⟨c5, c12⟩ h
set_option maxHeartbeats 1000000 in
set_option maxRecDepth 20000 in
theorem c_R_getsThere (l : Launch) (E : QE) (S : QM) (ν : Nat → Int32) (hν : S 16 = ν) (hwf : WF ν) (α : Nat → Int32) (hα : S 18 = α) (w n : Nat) (hw : w < nW ν) (hn : n ≤ 100) : qCPi E l y_R_getsThere prog_7_method_69_code 3 .boolean 10 [.ref (eA E 70), .int (nI w), .int (nI n)] S (b2i (ν (44 + 6 * w + 4) < daysS n ν (44 + 6 * w + 4))) (bhG S ν) := by
  refine qCPi_of (by decide) (Nat.le_of_ble_eq_true rfl) (fun p e s m below meth c ls X hW hl => ?_)
  have hl : lv_has ls 3 [(0, .ref (eA E 70)), (1, .int (nI w)), (2, .int (nI n))] := hl
  have hW : qWH E (qr (qr S 18 α) 16 ν) s s.heap [] := by rw [show qr (qr S 18 α) 16 ν = S from by rw [← hα, qr_self, ← hν, qr_self]]; exact hW
  have htl := hwf.tl
  have hwl := hwf.wl
  have hdl := hwf.dl
  refine lv_aload_n X.x X.b d_R_getsThere_0 rfl (lv_at hl 0 rfl) ?_
  refine lv_iload_n X.x X.b d_R_getsThere_1 rfl (lv_at hl 1 rfl) ?_
  refine lv_iconst (v := nI 4) X.x X.b d_R_getsThere_2 (by decide) ?_
  refine q_csi X (c_R_walkerAt l E (qr (qr S 18 α) 16 ν) w 4) hW ok_R_walkerAt mw_802 ⟨by decide, by decide⟩ (As := [.int (nI w), .int (nI 4)]) rfl rfl (Nat.le_of_ble_eq_true rfl) (lv := [(0, .ref (eA E 70)), (1, .int (nI w)), (2, .int (nI n))]) hl ⟨Nat.le_refl 0, Nat.le_refl 0⟩ d_R_getsThere_3 (fun H locs hW => ?_)
  refine lv_iload_n X.x X.b d_R_getsThere_6 rfl (lv_at hl 2 rfl) ?_
  refine q_cvip X (c_R_behind l E (qr (qr S 18 α) 16 ν) ν (by rw [qr_at]) hwf α (by rw [qr_ne (by omega), qr_at]) (44 + 6 * w + 4) n (by omega) (by omega)) hW (q_recv X hW ds_R rfl) ok_R_behind mw_955 ⟨by decide, by decide⟩ (As := [.int (nI (44 + 6 * w + 4)), .int (nI n)]) rfl rfl (Nat.le_of_ble_eq_true rfl) (lv := [(0, .ref (eA E 70)), (1, .int (nI w)), (2, .int (nI n))]) hl ⟨Nat.le_refl 0, Nat.le_refl 0⟩ d_R_getsThere_7 (fun H locs Sq7 hP7 hW => ?_)
  obtain ⟨τ7, α7, hτ7, rfl⟩ := hP7
  have hW : qWH E (qr (qr S 18 α7) 16 τ7) s H locs := (by have h := hW; rw [qr_in (by omega), qr_in (by omega)] at h; exact h)
  refine lv_aload_n X.x X.b d_R_getsThere_10 rfl (lv_at hl 0 rfl) ?_
  refine lv_iload_n X.x X.b d_R_getsThere_11 rfl (lv_at hl 1 rfl) ?_
  refine lv_iconst (v := nI 4) X.x X.b d_R_getsThere_12 (by decide) ?_
  refine q_cvi X (c_R_walkerIs l E (qr (qr S 18 α7) 16 τ7) τ7 (by rw [qr_at]) w 4 (by omega) (by omega)) hW (q_recv X hW ds_R rfl) ok_R_walkerIs mw_845 ⟨by decide, by decide⟩ (As := [.int (nI w), .int (nI 4)]) rfl rfl (Nat.le_of_ble_eq_true rfl) (lv := [(0, .ref (eA E 70)), (1, .int (nI w)), (2, .int (nI n))]) hl ⟨Nat.le_refl 0, Nat.le_refl 0⟩ d_R_getsThere_13 (fun H locs hW => ?_)
  refine lv_icmp_le (tgt := 23) X.x X.b d_R_getsThere_16 (by decide) (fun c16 => ?_) (fun c16 => ?_)
  · refine lv_iconst (v := nI 0) X.x X.b d_R_getsThere_23 (by decide) ?_
    exact q_pzret X (by decide) hW ⟨(b2i_f (by rw [← hτ7 (44 + 6 * w + 4) (by omega)]; exact Int32.not_lt.mpr c16)).symm, ⟨_, _, hτ7, rfl⟩⟩ d_R_getsThere_24
  · refine lv_iconst (v := nI 1) X.x X.b d_R_getsThere_19 (by decide) ?_
    refine lv_goto (tgt := 24) X.x X.b d_R_getsThere_20 (by decide) ?_
    exact q_pzret X (by decide) hW ⟨(b2i_t (by rw [← hτ7 (44 + 6 * w + 4) (by omega)]; exact Int32.not_le.mp c16)).symm, ⟨_, _, hτ7, rfl⟩⟩ d_R_getsThere_24
set_option maxHeartbeats 1000000 in
set_option maxRecDepth 20000 in
theorem c_R_paceFor_g (l : Launch) (E : QE) (S : QM) (ν : Nat → Int32) (hν : S 16 = ν) (hwf : WF ν) (α : Nat → Int32) (hα : S 18 = α) (w n : Nat) (hw : w < nW ν) (hn : n ≤ 40) (hF : (lst (fun v => ν (44 + 6 * w + 4) < gotS ν w 2 (nI v) n) 5 1) < 6) : qCPi E l y_R_paceFor prog_7_method_70_code 7 .int 11 [.ref (eA E 70), .int (nI w), .int (nI n)] S (nI (lst (fun v => ν (44 + 6 * w + 4) < gotS ν w 2 (nI v) n) 5 1)) (bhG S ν) := by
  refine qCPi_of (by decide) (Nat.le_of_ble_eq_true rfl) (fun p e s m below meth c ls X hW hl => ?_)
  have hl : lv_has ls 7 [(0, .ref (eA E 70)), (1, .int (nI w)), (2, .int (nI n))] := hl
  have hW : qWH E (qr (qr S 18 α) 16 ν) s s.heap [] := by rw [show qr (qr S 18 α) 16 ν = S from by rw [← hα, qr_self, ← hν, qr_self]]; exact hW
  have htl := hwf.tl
  have hwl := hwf.wl
  have hdl := hwf.dl
  refine lv_aload_n X.x X.b d_R_paceFor_0 rfl (lv_at hl 0 rfl) ?_
  refine lv_iload_n X.x X.b d_R_paceFor_1 rfl (lv_at hl 1 rfl) ?_
  refine q_cvi X (c_R_isWalker l E (qr (qr S 18 α) 16 ν) ν (by rw [qr_at]) hwf (nI w)) hW (q_recv X hW ds_R rfl) ok_R_isWalker mw_841 ⟨by decide, by decide⟩ (As := [.int (nI w)]) rfl rfl (Nat.le_of_ble_eq_true rfl) (lv := [(0, .ref (eA E 70)), (1, .int (nI w)), (2, .int (nI n))]) hl ⟨Nat.le_refl 0, Nat.le_refl 0⟩ d_R_paceFor_2 (fun H locs hW => ?_)
  refine lv_if_eq (tgt := 15) X.x X.b d_R_paceFor_5 (by decide) (fun c5 => ?_) (fun c5 => ?_)
  · have c5 := b2i_e c5
    have c5 := mt (isW_i hwf (by omega)).mpr c5
    omega
  · have c5 := b2i_n c5
    have c5 := (isW_i hwf (by omega)).mp c5
    refine lv_iload_n X.x X.b d_R_paceFor_8 rfl (lv_at hl 2 rfl) ?_
    refine q_csi X (c_R_isThought l E (qr (qr S 18 α) 16 ν) (nI n)) hW ok_R_isThought mw_995 ⟨by decide, by decide⟩ (As := [.int (nI n)]) rfl rfl (Nat.le_of_ble_eq_true rfl) (lv := [(0, .ref (eA E 70)), (1, .int (nI w)), (2, .int (nI n))]) hl ⟨Nat.le_refl 0, Nat.le_refl 0⟩ d_R_paceFor_9 (fun H locs hW => ?_)
    refine lv_if_ne (tgt := 22) X.x X.b d_R_paceFor_12 (by decide) (fun c12 => ?_) (fun c12 => ?_)
    · have c12 := b2i_n c12
      have c12 := (inR_i (by omega) (by decide)).mp c12
      refine lv_iload_n X.x X.b d_R_paceFor_22 rfl (lv_at hl 1 rfl) ?_
      refine lv_iconst (v := nI 2) X.x X.b d_R_paceFor_23 (by decide) ?_
      refine q_csi X (c_R_walkerAt l E (qr (qr S 18 α) 16 ν) w 2) hW ok_R_walkerAt mw_802 ⟨by decide, by decide⟩ (As := [.int (nI w), .int (nI 2)]) rfl rfl (Nat.le_of_ble_eq_true rfl) (lv := [(0, .ref (eA E 70)), (1, .int (nI w)), (2, .int (nI n))]) hl ⟨Nat.le_refl 0, Nat.le_refl 0⟩ d_R_paceFor_24 (fun H locs hW => ?_)
      refine lv_istore_n (lv' := [(3, .int (nI (44 + 6 * w + 2))), (0, .ref (eA E 70)), (1, .int (nI w)), (2, .int (nI n))]) X.x X.b d_R_paceFor_27 rfl hl (by decide) rfl (fun ls hl => ?_)
      refine lv_aload_n X.x X.b d_R_paceFor_28 rfl (lv_at hl 1 rfl) ?_
      refine q_getr X hW qj4 rfl _ ds_R 0 (by decide) mw_686 rfl (c1 := 71) rfl d_R_paceFor_29 ?_
      refine lv_iload_n X.x X.b d_R_paceFor_32 rfl (lv_at hl 0 rfl) ?_
      refine g_ald X hW ds_71 (q_in (by omega) (by decide)) (p0 := 44 + 6 * w + 2) (q_tn (by omega) (by omega)) (v := ν (44 + 6 * w + 2)) (by rw [qr_at]) d_R_paceFor_33 ?_
      refine lv_istore (lv' := [(4, .int (ν (44 + 6 * w + 2))), (3, .int (nI (44 + 6 * w + 2))), (0, .ref (eA E 70)), (1, .int (nI w)), (2, .int (nI n))]) X.x X.b d_R_paceFor_34 hl (by decide) rfl (fun ls hl => ?_)
      refine lv_iconst (v := (-1)) X.x X.b d_R_paceFor_36 (by decide) ?_
      refine lv_istore (lv' := [(5, .int (-1)), (4, .int (ν (44 + 6 * w + 2))), (3, .int (nI (44 + 6 * w + 2))), (0, .ref (eA E 70)), (1, .int (nI w)), (2, .int (nI n))]) X.x X.b d_R_paceFor_37 hl (by decide) rfl (fun ls hl => ?_)
      refine lv_iconst (v := nI 5) X.x X.b d_R_paceFor_39 (by decide) ?_
      refine lv_istore (lv' := [(6, .int (nI 5)), (5, .int (-1)), (4, .int (ν (44 + 6 * w + 2))), (3, .int (nI (44 + 6 * w + 2))), (0, .ref (eA E 70)), (1, .int (nI w)), (2, .int (nI n))]) X.x X.b d_R_paceFor_40 hl (by decide) rfl (fun ls hl => ?_)
      have loop42 : ∀ (fu42 : Nat) (j : Nat) (b : Int32) (μ : Nat → Int32) (κ : Nat → Int32), j ≤ 5 → b = (if lst (fun v => ν (44 + 6 * w + 4) < gotS ν w 2 (nI v) n) (5 - j) (j + 1) < 6 then nI (lst (fun v => ν (44 + 6 * w + 4) < gotS ν w 2 (nI v) n) (5 - j) (j + 1)) else (-1)) → (∀ v, eq80 (upd μ (44 + 6 * w + 2) v) (upd ν (44 + 6 * w + 2) v)) → j < fu42 → ∀ (H : Heap) (locs : List Loc) (ls : Array Slot), qWH E (qr (qr S 18 κ) 16 μ) s H locs → lv_has ls 7 [(6, .int (nI j)), (5, .int b), (4, .int (ν (44 + 6 * w + 2))), (3, .int (nI (44 + 6 * w + 2))), (0, .ref (eA E 70)), (1, .int (nI w)), (2, .int (nI n))] → W p l e (qRm 11) s m ([.ref (eA E 70), .int (nI w), .int (nI n)] : List Value).toArray below meth c H locs 0 0 (MQ below (qQpi E (nI (lst (fun v => ν (44 + 6 * w + 4) < gotS ν w 2 (nI v) n) 5 1)) (bhG S ν) s.heap.size) ([.ref (eA E 70), .int (nI w), .int (nI n)] : List Value).toArray s 0 0 (qAA E s.heap.size)) (F0 m 42 ls []) := by
        intro fu42
        induction fu42 with
        | zero =>
          intro j b μ κ hj hb hμ hfu
          exact absurd hfu (Nat.not_lt_zero _)
        | succ fu42 ih42 =>
          intro j b μ κ hj hb hμ hfu H locs ls hW hl
          refine lv_iload X.x X.b d_R_paceFor_42 (lv_at hl 0 rfl) ?_
          refine lv_if_le (tgt := 79) X.x X.b d_R_paceFor_44 (by decide) (fun c44 => ?_) (fun c44 => ?_)
          · have c44 : j ≤ 0 := (nI_leI (a := j) (b := 0) (by omega) (by omega)).mp c44
            refine lv_aload_n X.x X.b d_R_paceFor_79 rfl (lv_at hl 4 rfl) ?_
            refine q_getr X hW qj4 rfl _ ds_R 0 (by decide) mw_686 rfl (c1 := 71) rfl d_R_paceFor_80 ?_
            refine lv_iload_n X.x X.b d_R_paceFor_83 rfl (lv_at hl 3 rfl) ?_
            refine lv_iload X.x X.b d_R_paceFor_84 (lv_at hl 2 rfl) ?_
            refine g_ast X hW ds_71 (q_in (by omega) (by decide)) (p0 := 44 + 6 * w + 2) (q_tn (by omega) (by omega)) (ρ := μ) (by rw [qr_at]) d_R_paceFor_86 (fun H locs hW => ?_)
            obtain ⟨r86, er86⟩ : ∃ z, z = upd μ (44 + 6 * w + 2) (ν (44 + 6 * w + 2)) := ⟨_, rfl⟩
            rw [← er86] at hW
            rw [qr_qr] at hW
            refine lv_aload_n X.x X.b d_R_paceFor_87 rfl (lv_at hl 4 rfl) ?_
            refine lv_iload X.x X.b d_R_paceFor_88 (lv_at hl 1 rfl) ?_
            have hb0 : b = nI (lst (fun v => ν (44 + 6 * w + 4) < gotS ν w 2 (nI v) n) 5 1) := by rw [hb, show j = 0 by omega]; exact if_pos hF
            rw [hb0]
            refine q_cvi X (c_R_orNone_g l E (qr (qr S 18 κ) 16 r86) (lst (fun v => ν (44 + 6 * w + 4) < gotS ν w 2 (nI v) n) 5 1) (by omega)) hW (q_recv X hW ds_R rfl) ok_R_orNone mw_974 ⟨by decide, by decide⟩ (As := [.int (nI (lst (fun v => ν (44 + 6 * w + 4) < gotS ν w 2 (nI v) n) 5 1))]) rfl rfl (Nat.le_of_ble_eq_true rfl) (lv := [(6, .int (nI j)), (5, .int b), (4, .int (ν (44 + 6 * w + 2))), (3, .int (nI (44 + 6 * w + 2))), (0, .ref (eA E 70)), (1, .int (nI w)), (2, .int (nI n))]) hl ⟨Nat.le_refl 0, Nat.le_refl 0⟩ d_R_paceFor_90 (fun H locs hW => ?_)
            exact q_pzret X rfl hW ⟨rfl, ⟨_, _, by rw [er86]; have h := hμ (ν (44 + 6 * w + 2)); rw [upd_self] at h; exact h, rfl⟩⟩ d_R_paceFor_93
          · have c44 : ¬ j ≤ 0 := fun z => c44 ((nI_leI (a := j) (b := 0) (by omega) (by omega)).mpr z)
            refine lv_aload_n X.x X.b d_R_paceFor_47 rfl (lv_at hl 4 rfl) ?_
            refine q_getr X hW qj4 rfl _ ds_R 0 (by decide) mw_686 rfl (c1 := 71) rfl d_R_paceFor_48 ?_
            refine lv_iload_n X.x X.b d_R_paceFor_51 rfl (lv_at hl 3 rfl) ?_
            refine lv_iload X.x X.b d_R_paceFor_52 (lv_at hl 0 rfl) ?_
            refine g_ast X hW ds_71 (q_in (by omega) (by decide)) (p0 := 44 + 6 * w + 2) (q_tn (by omega) (by omega)) (ρ := μ) (by rw [qr_at]) d_R_paceFor_54 (fun H locs hW => ?_)
            obtain ⟨r54, er54⟩ : ∃ z, z = upd μ (44 + 6 * w + 2) (nI j) := ⟨_, rfl⟩
            rw [← er54] at hW
            rw [qr_qr] at hW
            have hw54 : WF r54 := by rw [er54]; exact (hμ (nI j)).wf (WF_wp hwf (by omega) (by omega) (by omega))
            have hn54 : nW r54 = nW ν := by have h := ((hμ (nI j)).eqv (WF_wp hwf (by omega) (by omega) (by omega))).nW; rw [← er54, nW_up (by omega)] at h; exact h
            refine lv_aload_n X.x X.b d_R_paceFor_55 rfl (lv_at hl 4 rfl) ?_
            refine lv_iload_n X.x X.b d_R_paceFor_56 rfl (lv_at hl 5 rfl) ?_
            refine lv_iload_n X.x X.b d_R_paceFor_57 rfl (lv_at hl 6 rfl) ?_
            refine q_cvip X (c_R_getsThere l E (qr (qr S 18 κ) 16 r54) r54 (by rw [qr_at]) hw54 κ (by rw [qr_ne (by omega), qr_at]) w n (by omega) (by omega)) hW (q_recv X hW ds_R rfl) ok_R_getsThere mw_1014 ⟨by decide, by decide⟩ (As := [.int (nI w), .int (nI n)]) rfl rfl (Nat.le_of_ble_eq_true rfl) (lv := [(6, .int (nI j)), (5, .int b), (4, .int (ν (44 + 6 * w + 2))), (3, .int (nI (44 + 6 * w + 2))), (0, .ref (eA E 70)), (1, .int (nI w)), (2, .int (nI n))]) hl ⟨Nat.le_refl 0, Nat.le_refl 0⟩ d_R_paceFor_58 (fun H locs Sq58 hP58 hW => ?_)
            obtain ⟨τ58, α58, hτ58, rfl⟩ := hP58
            have hW : qWH E (qr (qr S 18 α58) 16 τ58) s H locs := (by have h := hW; rw [qr_in (by omega), qr_in (by omega)] at h; exact h)
            have hc58 : (r54 (44 + 6 * w + 4) < daysS n r54 (44 + 6 * w + 4)) ↔ (ν (44 + 6 * w + 4) < gotS ν w 2 (nI j) n) := by
              have h1 : r54 (44 + 6 * w + 4) = ν (44 + 6 * w + 4) := by have h := hμ (nI j) (44 + 6 * w + 4) (by omega); rw [← er54, upN (by omega)] at h; exact h
              have h2 : daysS n r54 (44 + 6 * w + 4) = gotS ν w 2 (nI j) n := gotW (f := 2) (WF_wp hwf (by omega) (by omega) (by omega)) hw n (by rw [er54]; exact hμ (nI j))
              rw [h1, h2]
            rw [b2i_c hc58]
            refine lv_if_eq (tgt := 69) X.x X.b d_R_paceFor_61 (by decide) (fun c61 => ?_) (fun c61 => ?_)
            · have c61 := b2i_e c61
              refine lv_iload X.x X.b d_R_paceFor_69 (lv_at hl 1 rfl) ?_
              refine lv_istore (lv' := [(5, .int b), (6, .int (nI j)), (4, .int (ν (44 + 6 * w + 2))), (3, .int (nI (44 + 6 * w + 2))), (0, .ref (eA E 70)), (1, .int (nI w)), (2, .int (nI n))]) X.x X.b d_R_paceFor_71 hl (by decide) rfl (fun ls hl => ?_)
              refine lv_iinc (v := nI (j - 1)) (lv' := [(6, .int (nI (j - 1))), (5, .int b), (4, .int (ν (44 + 6 * w + 2))), (3, .int (nI (44 + 6 * w + 2))), (0, .ref (eA E 70)), (1, .int (nI w)), (2, .int (nI n))]) X.x X.b d_R_paceFor_73 hl (k := 1) rfl (nI_dec (by omega)) (by decide) rfl (fun ls hl => ?_)
              refine lv_goto (tgt := 42) X.x X.b d_R_paceFor_76 (by decide) ?_
              exact ih42 (j - 1) b τ58 α58 (by omega) (by rw [show 5 - (j - 1) = (5 - j) + 1 by omega, show j - 1 + 1 = j by omega, lst, if_neg c61]; exact hb) (eq80_st (er54 ▸ hτ58) hμ) (by omega) _ _ _ hW (lv_sub hl [0, 1, 2, 3, 4, 5, 6] rfl)
            · have c61 := b2i_n c61
              refine lv_iload X.x X.b d_R_paceFor_64 (lv_at hl 0 rfl) ?_
              refine lv_goto (tgt := 71) X.x X.b d_R_paceFor_66 (by decide) ?_
              refine lv_istore (lv' := [(5, .int (nI j)), (6, .int (nI j)), (4, .int (ν (44 + 6 * w + 2))), (3, .int (nI (44 + 6 * w + 2))), (0, .ref (eA E 70)), (1, .int (nI w)), (2, .int (nI n))]) X.x X.b d_R_paceFor_71 hl (by decide) rfl (fun ls hl => ?_)
              refine lv_iinc (v := nI (j - 1)) (lv' := [(6, .int (nI (j - 1))), (5, .int (nI j)), (4, .int (ν (44 + 6 * w + 2))), (3, .int (nI (44 + 6 * w + 2))), (0, .ref (eA E 70)), (1, .int (nI w)), (2, .int (nI n))]) X.x X.b d_R_paceFor_73 hl (k := 1) rfl (nI_dec (by omega)) (by decide) rfl (fun ls hl => ?_)
              refine lv_goto (tgt := 42) X.x X.b d_R_paceFor_76 (by decide) ?_
              exact ih42 (j - 1) (nI j) τ58 α58 (by omega) (by rw [show 5 - (j - 1) = (5 - j) + 1 by omega, show j - 1 + 1 = j by omega, lst, if_pos c61, if_pos (by omega)]) (eq80_st (er54 ▸ hτ58) hμ) (by omega) _ _ _ hW (lv_sub hl [0, 1, 2, 3, 4, 5, 6] rfl)
      exact loop42 (5 + 1) 5 (-1) ν α (by omega) rfl (fun _ => eq80.rf) (Nat.lt_succ_self _) _ _ _ hW (lv_sub hl [0, 1, 2, 3, 4, 5, 6] rfl)
    · have c12 := b2i_e c12
      have c12 := mt (inR_i (by omega) (by decide)).mpr c12
      omega
set_option maxHeartbeats 1000000 in
set_option maxRecDepth 20000 in
theorem c_R_paceFor_n (l : Launch) (E : QE) (S : QM) (ν : Nat → Int32) (hν : S 16 = ν) (hwf : WF ν) (α : Nat → Int32) (hα : S 18 = α) (ψ : Nat → Int32) (hψ : S 19 = ψ) (w n : Nat) (hw : w < nW ν) (hn : n ≤ 40) (hF : ¬ (lst (fun v => ν (44 + 6 * w + 4) < gotS ν w 2 (nI v) n) 5 1) < 6) : qCPi E l y_R_paceFor prog_7_method_70_code 7 .int 11 [.ref (eA E 70), .int (nI w), .int (nI n)] S (-1000004) (bhG (qr S 19 (fnR ψ 3)) ν) := by
  refine qCPi_of (by decide) (Nat.le_of_ble_eq_true rfl) (fun p e s m below meth c ls X hW hl => ?_)
  have hl : lv_has ls 7 [(0, .ref (eA E 70)), (1, .int (nI w)), (2, .int (nI n))] := hl
  have hW : qWH E (qr (qr S 18 α) 16 ν) s s.heap [] := by rw [show qr (qr S 18 α) 16 ν = S from by rw [← hα, qr_self, ← hν, qr_self]]; exact hW
  have htl := hwf.tl
  have hwl := hwf.wl
  have hdl := hwf.dl
  refine lv_aload_n X.x X.b d_R_paceFor_0 rfl (lv_at hl 0 rfl) ?_
  refine lv_iload_n X.x X.b d_R_paceFor_1 rfl (lv_at hl 1 rfl) ?_
  refine q_cvi X (c_R_isWalker l E (qr (qr S 18 α) 16 ν) ν (by rw [qr_at]) hwf (nI w)) hW (q_recv X hW ds_R rfl) ok_R_isWalker mw_841 ⟨by decide, by decide⟩ (As := [.int (nI w)]) rfl rfl (Nat.le_of_ble_eq_true rfl) (lv := [(0, .ref (eA E 70)), (1, .int (nI w)), (2, .int (nI n))]) hl ⟨Nat.le_refl 0, Nat.le_refl 0⟩ d_R_paceFor_2 (fun H locs hW => ?_)
  refine lv_if_eq (tgt := 15) X.x X.b d_R_paceFor_5 (by decide) (fun c5 => ?_) (fun c5 => ?_)
  · have c5 := b2i_e c5
    have c5 := mt (isW_i hwf (by omega)).mpr c5
    omega
  · have c5 := b2i_n c5
    have c5 := (isW_i hwf (by omega)).mp c5
    refine lv_iload_n X.x X.b d_R_paceFor_8 rfl (lv_at hl 2 rfl) ?_
    refine q_csi X (c_R_isThought l E (qr (qr S 18 α) 16 ν) (nI n)) hW ok_R_isThought mw_995 ⟨by decide, by decide⟩ (As := [.int (nI n)]) rfl rfl (Nat.le_of_ble_eq_true rfl) (lv := [(0, .ref (eA E 70)), (1, .int (nI w)), (2, .int (nI n))]) hl ⟨Nat.le_refl 0, Nat.le_refl 0⟩ d_R_paceFor_9 (fun H locs hW => ?_)
    refine lv_if_ne (tgt := 22) X.x X.b d_R_paceFor_12 (by decide) (fun c12 => ?_) (fun c12 => ?_)
    · have c12 := b2i_n c12
      have c12 := (inR_i (by omega) (by decide)).mp c12
      refine lv_iload_n X.x X.b d_R_paceFor_22 rfl (lv_at hl 1 rfl) ?_
      refine lv_iconst (v := nI 2) X.x X.b d_R_paceFor_23 (by decide) ?_
      refine q_csi X (c_R_walkerAt l E (qr (qr S 18 α) 16 ν) w 2) hW ok_R_walkerAt mw_802 ⟨by decide, by decide⟩ (As := [.int (nI w), .int (nI 2)]) rfl rfl (Nat.le_of_ble_eq_true rfl) (lv := [(0, .ref (eA E 70)), (1, .int (nI w)), (2, .int (nI n))]) hl ⟨Nat.le_refl 0, Nat.le_refl 0⟩ d_R_paceFor_24 (fun H locs hW => ?_)
      refine lv_istore_n (lv' := [(3, .int (nI (44 + 6 * w + 2))), (0, .ref (eA E 70)), (1, .int (nI w)), (2, .int (nI n))]) X.x X.b d_R_paceFor_27 rfl hl (by decide) rfl (fun ls hl => ?_)
      refine lv_aload_n X.x X.b d_R_paceFor_28 rfl (lv_at hl 1 rfl) ?_
      refine q_getr X hW qj4 rfl _ ds_R 0 (by decide) mw_686 rfl (c1 := 71) rfl d_R_paceFor_29 ?_
      refine lv_iload_n X.x X.b d_R_paceFor_32 rfl (lv_at hl 0 rfl) ?_
      refine g_ald X hW ds_71 (q_in (by omega) (by decide)) (p0 := 44 + 6 * w + 2) (q_tn (by omega) (by omega)) (v := ν (44 + 6 * w + 2)) (by rw [qr_at]) d_R_paceFor_33 ?_
      refine lv_istore (lv' := [(4, .int (ν (44 + 6 * w + 2))), (3, .int (nI (44 + 6 * w + 2))), (0, .ref (eA E 70)), (1, .int (nI w)), (2, .int (nI n))]) X.x X.b d_R_paceFor_34 hl (by decide) rfl (fun ls hl => ?_)
      refine lv_iconst (v := (-1)) X.x X.b d_R_paceFor_36 (by decide) ?_
      refine lv_istore (lv' := [(5, .int (-1)), (4, .int (ν (44 + 6 * w + 2))), (3, .int (nI (44 + 6 * w + 2))), (0, .ref (eA E 70)), (1, .int (nI w)), (2, .int (nI n))]) X.x X.b d_R_paceFor_37 hl (by decide) rfl (fun ls hl => ?_)
      refine lv_iconst (v := nI 5) X.x X.b d_R_paceFor_39 (by decide) ?_
      refine lv_istore (lv' := [(6, .int (nI 5)), (5, .int (-1)), (4, .int (ν (44 + 6 * w + 2))), (3, .int (nI (44 + 6 * w + 2))), (0, .ref (eA E 70)), (1, .int (nI w)), (2, .int (nI n))]) X.x X.b d_R_paceFor_40 hl (by decide) rfl (fun ls hl => ?_)
      have loop42 : ∀ (fu42 : Nat) (j : Nat) (b : Int32) (μ : Nat → Int32) (κ : Nat → Int32), j ≤ 5 → b = (if lst (fun v => ν (44 + 6 * w + 4) < gotS ν w 2 (nI v) n) (5 - j) (j + 1) < 6 then nI (lst (fun v => ν (44 + 6 * w + 4) < gotS ν w 2 (nI v) n) (5 - j) (j + 1)) else (-1)) → (∀ v, eq80 (upd μ (44 + 6 * w + 2) v) (upd ν (44 + 6 * w + 2) v)) → j < fu42 → ∀ (H : Heap) (locs : List Loc) (ls : Array Slot), qWH E (qr (qr S 18 κ) 16 μ) s H locs → lv_has ls 7 [(6, .int (nI j)), (5, .int b), (4, .int (ν (44 + 6 * w + 2))), (3, .int (nI (44 + 6 * w + 2))), (0, .ref (eA E 70)), (1, .int (nI w)), (2, .int (nI n))] → W p l e (qRm 11) s m ([.ref (eA E 70), .int (nI w), .int (nI n)] : List Value).toArray below meth c H locs 0 0 (MQ below (qQpi E (-1000004) (bhG (qr S 19 (fnR ψ 3)) ν) s.heap.size) ([.ref (eA E 70), .int (nI w), .int (nI n)] : List Value).toArray s 0 0 (qAA E s.heap.size)) (F0 m 42 ls []) := by
        intro fu42
        induction fu42 with
        | zero =>
          intro j b μ κ hj hb hμ hfu
          exact absurd hfu (Nat.not_lt_zero _)
        | succ fu42 ih42 =>
          intro j b μ κ hj hb hμ hfu H locs ls hW hl
          refine lv_iload X.x X.b d_R_paceFor_42 (lv_at hl 0 rfl) ?_
          refine lv_if_le (tgt := 79) X.x X.b d_R_paceFor_44 (by decide) (fun c44 => ?_) (fun c44 => ?_)
          · have c44 : j ≤ 0 := (nI_leI (a := j) (b := 0) (by omega) (by omega)).mp c44
            refine lv_aload_n X.x X.b d_R_paceFor_79 rfl (lv_at hl 4 rfl) ?_
            refine q_getr X hW qj4 rfl _ ds_R 0 (by decide) mw_686 rfl (c1 := 71) rfl d_R_paceFor_80 ?_
            refine lv_iload_n X.x X.b d_R_paceFor_83 rfl (lv_at hl 3 rfl) ?_
            refine lv_iload X.x X.b d_R_paceFor_84 (lv_at hl 2 rfl) ?_
            refine g_ast X hW ds_71 (q_in (by omega) (by decide)) (p0 := 44 + 6 * w + 2) (q_tn (by omega) (by omega)) (ρ := μ) (by rw [qr_at]) d_R_paceFor_86 (fun H locs hW => ?_)
            obtain ⟨r86, er86⟩ : ∃ z, z = upd μ (44 + 6 * w + 2) (ν (44 + 6 * w + 2)) := ⟨_, rfl⟩
            rw [← er86] at hW
            rw [qr_qr] at hW
            refine lv_aload_n X.x X.b d_R_paceFor_87 rfl (lv_at hl 4 rfl) ?_
            refine lv_iload X.x X.b d_R_paceFor_88 (lv_at hl 1 rfl) ?_
            have hb0 : b = (-1) := by rw [hb, show j = 0 by omega]; exact if_neg hF
            rw [hb0]
            refine q_cvi X (c_R_orNone_n l E (qr (qr S 18 κ) 16 r86) ψ (by rw [qr_ne (by omega), qr_ne (by omega), hψ])) hW (q_recv X hW ds_R rfl) ok_R_orNone mw_974 ⟨by decide, by decide⟩ (As := [.int (-1)]) rfl rfl (Nat.le_of_ble_eq_true rfl) (lv := [(6, .int (nI j)), (5, .int b), (4, .int (ν (44 + 6 * w + 2))), (3, .int (nI (44 + 6 * w + 2))), (0, .ref (eA E 70)), (1, .int (nI w)), (2, .int (nI n))]) hl ⟨Nat.le_refl 0, Nat.le_refl 0⟩ d_R_paceFor_90 (fun H locs hW => ?_)
            have hW : qWH E (qr (qr (qr S 18 κ) 16 r86) 19 (fnR ψ 3)) s H locs := hW
            exact q_pzret X rfl hW ⟨rfl, ⟨_, _, by rw [er86]; have h := hμ (ν (44 + 6 * w + 2)); rw [upd_self] at h; exact h, qr_3⟩⟩ d_R_paceFor_93
          · have c44 : ¬ j ≤ 0 := fun z => c44 ((nI_leI (a := j) (b := 0) (by omega) (by omega)).mpr z)
            refine lv_aload_n X.x X.b d_R_paceFor_47 rfl (lv_at hl 4 rfl) ?_
            refine q_getr X hW qj4 rfl _ ds_R 0 (by decide) mw_686 rfl (c1 := 71) rfl d_R_paceFor_48 ?_
            refine lv_iload_n X.x X.b d_R_paceFor_51 rfl (lv_at hl 3 rfl) ?_
            refine lv_iload X.x X.b d_R_paceFor_52 (lv_at hl 0 rfl) ?_
            refine g_ast X hW ds_71 (q_in (by omega) (by decide)) (p0 := 44 + 6 * w + 2) (q_tn (by omega) (by omega)) (ρ := μ) (by rw [qr_at]) d_R_paceFor_54 (fun H locs hW => ?_)
            obtain ⟨r54, er54⟩ : ∃ z, z = upd μ (44 + 6 * w + 2) (nI j) := ⟨_, rfl⟩
            rw [← er54] at hW
            rw [qr_qr] at hW
            have hw54 : WF r54 := by rw [er54]; exact (hμ (nI j)).wf (WF_wp hwf (by omega) (by omega) (by omega))
            have hn54 : nW r54 = nW ν := by have h := ((hμ (nI j)).eqv (WF_wp hwf (by omega) (by omega) (by omega))).nW; rw [← er54, nW_up (by omega)] at h; exact h
            refine lv_aload_n X.x X.b d_R_paceFor_55 rfl (lv_at hl 4 rfl) ?_
            refine lv_iload_n X.x X.b d_R_paceFor_56 rfl (lv_at hl 5 rfl) ?_
            refine lv_iload_n X.x X.b d_R_paceFor_57 rfl (lv_at hl 6 rfl) ?_
            refine q_cvip X (c_R_getsThere l E (qr (qr S 18 κ) 16 r54) r54 (by rw [qr_at]) hw54 κ (by rw [qr_ne (by omega), qr_at]) w n (by omega) (by omega)) hW (q_recv X hW ds_R rfl) ok_R_getsThere mw_1014 ⟨by decide, by decide⟩ (As := [.int (nI w), .int (nI n)]) rfl rfl (Nat.le_of_ble_eq_true rfl) (lv := [(6, .int (nI j)), (5, .int b), (4, .int (ν (44 + 6 * w + 2))), (3, .int (nI (44 + 6 * w + 2))), (0, .ref (eA E 70)), (1, .int (nI w)), (2, .int (nI n))]) hl ⟨Nat.le_refl 0, Nat.le_refl 0⟩ d_R_paceFor_58 (fun H locs Sq58 hP58 hW => ?_)
            obtain ⟨τ58, α58, hτ58, rfl⟩ := hP58
            have hW : qWH E (qr (qr S 18 α58) 16 τ58) s H locs := (by have h := hW; rw [qr_in (by omega), qr_in (by omega)] at h; exact h)
            have hc58 : (r54 (44 + 6 * w + 4) < daysS n r54 (44 + 6 * w + 4)) ↔ (ν (44 + 6 * w + 4) < gotS ν w 2 (nI j) n) := by
              have h1 : r54 (44 + 6 * w + 4) = ν (44 + 6 * w + 4) := by have h := hμ (nI j) (44 + 6 * w + 4) (by omega); rw [← er54, upN (by omega)] at h; exact h
              have h2 : daysS n r54 (44 + 6 * w + 4) = gotS ν w 2 (nI j) n := gotW (f := 2) (WF_wp hwf (by omega) (by omega) (by omega)) hw n (by rw [er54]; exact hμ (nI j))
              rw [h1, h2]
            rw [b2i_c hc58]
            refine lv_if_eq (tgt := 69) X.x X.b d_R_paceFor_61 (by decide) (fun c61 => ?_) (fun c61 => ?_)
            · have c61 := b2i_e c61
              refine lv_iload X.x X.b d_R_paceFor_69 (lv_at hl 1 rfl) ?_
              refine lv_istore (lv' := [(5, .int b), (6, .int (nI j)), (4, .int (ν (44 + 6 * w + 2))), (3, .int (nI (44 + 6 * w + 2))), (0, .ref (eA E 70)), (1, .int (nI w)), (2, .int (nI n))]) X.x X.b d_R_paceFor_71 hl (by decide) rfl (fun ls hl => ?_)
              refine lv_iinc (v := nI (j - 1)) (lv' := [(6, .int (nI (j - 1))), (5, .int b), (4, .int (ν (44 + 6 * w + 2))), (3, .int (nI (44 + 6 * w + 2))), (0, .ref (eA E 70)), (1, .int (nI w)), (2, .int (nI n))]) X.x X.b d_R_paceFor_73 hl (k := 1) rfl (nI_dec (by omega)) (by decide) rfl (fun ls hl => ?_)
              refine lv_goto (tgt := 42) X.x X.b d_R_paceFor_76 (by decide) ?_
              exact ih42 (j - 1) b τ58 α58 (by omega) (by rw [show 5 - (j - 1) = (5 - j) + 1 by omega, show j - 1 + 1 = j by omega, lst, if_neg c61]; exact hb) (eq80_st (er54 ▸ hτ58) hμ) (by omega) _ _ _ hW (lv_sub hl [0, 1, 2, 3, 4, 5, 6] rfl)
            · have c61 := b2i_n c61
              refine lv_iload X.x X.b d_R_paceFor_64 (lv_at hl 0 rfl) ?_
              refine lv_goto (tgt := 71) X.x X.b d_R_paceFor_66 (by decide) ?_
              refine lv_istore (lv' := [(5, .int (nI j)), (6, .int (nI j)), (4, .int (ν (44 + 6 * w + 2))), (3, .int (nI (44 + 6 * w + 2))), (0, .ref (eA E 70)), (1, .int (nI w)), (2, .int (nI n))]) X.x X.b d_R_paceFor_71 hl (by decide) rfl (fun ls hl => ?_)
              refine lv_iinc (v := nI (j - 1)) (lv' := [(6, .int (nI (j - 1))), (5, .int (nI j)), (4, .int (ν (44 + 6 * w + 2))), (3, .int (nI (44 + 6 * w + 2))), (0, .ref (eA E 70)), (1, .int (nI w)), (2, .int (nI n))]) X.x X.b d_R_paceFor_73 hl (k := 1) rfl (nI_dec (by omega)) (by decide) rfl (fun ls hl => ?_)
              refine lv_goto (tgt := 42) X.x X.b d_R_paceFor_76 (by decide) ?_
              exact ih42 (j - 1) (nI j) τ58 α58 (by omega) (by rw [show 5 - (j - 1) = (5 - j) + 1 by omega, show j - 1 + 1 = j by omega, lst, if_pos c61, if_pos (by omega)]) (eq80_st (er54 ▸ hτ58) hμ) (by omega) _ _ _ hW (lv_sub hl [0, 1, 2, 3, 4, 5, 6] rfl)
      exact loop42 (5 + 1) 5 (-1) ν α (by omega) rfl (fun _ => eq80.rf) (Nat.lt_succ_self _) _ _ _ hW (lv_sub hl [0, 1, 2, 3, 4, 5, 6] rfl)
    · have c12 := b2i_e c12
      have c12 := mt (inR_i (by omega) (by decide)).mpr c12
      omega
set_option maxHeartbeats 1000000 in
set_option maxRecDepth 20000 in
theorem c_R_paceFor_b (l : Launch) (E : QE) (S : QM) (ν : Nat → Int32) (hν : S 16 = ν) (hwf : WF ν) (ψ : Nat → Int32) (hψ : S 19 = ψ) (x y : Int32) (h : ¬ (isW ν x ∧ inR 0 40 y)) : qCI E l y_R_paceFor prog_7_method_70_code 7 .int 4 [.ref (eA E 70), .int x, .int y] S (-1000001) (qr S 19 (fnR ψ 0)) := by
  refine qCI_of (by decide) (Nat.le_of_ble_eq_true rfl) (fun p e s m below meth c ls X hW hl => ?_)
  have hl : lv_has ls 7 [(0, .ref (eA E 70)), (1, .int x), (2, .int y)] := hl
  have htl := hwf.tl
  have hwl := hwf.wl
  have hdl := hwf.dl
  refine lv_aload_n X.x X.b d_R_paceFor_0 rfl (lv_at hl 0 rfl) ?_
  refine lv_iload_n X.x X.b d_R_paceFor_1 rfl (lv_at hl 1 rfl) ?_
  refine q_cvi X (c_R_isWalker l E S ν (by rw [hν]) hwf x) hW (q_recv X hW ds_R rfl) ok_R_isWalker mw_841 ⟨by decide, by decide⟩ (As := [.int x]) rfl rfl (Nat.le_of_ble_eq_true rfl) (lv := [(0, .ref (eA E 70)), (1, .int x), (2, .int y)]) hl ⟨Nat.le_refl 0, Nat.le_refl 0⟩ d_R_paceFor_2 (fun H locs hW => ?_)
  refine lv_if_eq (tgt := 15) X.x X.b d_R_paceFor_5 (by decide) (fun c5 => ?_) (fun c5 => ?_)
  · have c5 := b2i_e c5
    refine lv_aload_n X.x X.b d_R_paceFor_15 rfl (lv_at hl 0 rfl) ?_
    refine lv_ldc (v := (-1000001)) X.x X.b X.ow (X.ts _ mw_767) d_R_paceFor_16 ?_
    refine q_cvi X (c_R_finding_0 l E S ψ (by rw [hψ])) hW (q_recv X hW ds_R rfl) ok_R_finding mw_768 ⟨by decide, by decide⟩ (As := [.int (-1000001)]) rfl rfl (Nat.le_of_ble_eq_true rfl) (lv := [(0, .ref (eA E 70)), (1, .int x), (2, .int y)]) hl ⟨Nat.le_refl 0, Nat.le_refl 0⟩ d_R_paceFor_18 (fun H locs hW => ?_)
    have hW : qWH E (qr S 19 (fnR ψ 0)) s H locs := hW
    exact q_zret X rfl hW ⟨rfl, rfl⟩ d_R_paceFor_21
  · have c5 := b2i_n c5
    refine lv_iload_n X.x X.b d_R_paceFor_8 rfl (lv_at hl 2 rfl) ?_
    refine q_csi X (c_R_isThought l E S y) hW ok_R_isThought mw_995 ⟨by decide, by decide⟩ (As := [.int y]) rfl rfl (Nat.le_of_ble_eq_true rfl) (lv := [(0, .ref (eA E 70)), (1, .int x), (2, .int y)]) hl ⟨Nat.le_refl 0, Nat.le_refl 0⟩ d_R_paceFor_9 (fun H locs hW => ?_)
    refine lv_if_ne (tgt := 22) X.x X.b d_R_paceFor_12 (by decide) (fun c12 => ?_) (fun c12 => ?_)
    · have c12 := b2i_n c12
      exact absurd ⟨c5, c12⟩ h
    · have c12 := b2i_e c12
      refine lv_aload_n X.x X.b d_R_paceFor_15 rfl (lv_at hl 0 rfl) ?_
      refine lv_ldc (v := (-1000001)) X.x X.b X.ow (X.ts _ mw_767) d_R_paceFor_16 ?_
      refine q_cvi X (c_R_finding_0 l E S ψ (by rw [hψ])) hW (q_recv X hW ds_R rfl) ok_R_finding mw_768 ⟨by decide, by decide⟩ (As := [.int (-1000001)]) rfl rfl (Nat.le_of_ble_eq_true rfl) (lv := [(0, .ref (eA E 70)), (1, .int x), (2, .int y)]) hl ⟨Nat.le_refl 0, Nat.le_refl 0⟩ d_R_paceFor_18 (fun H locs hW => ?_)
      have hW : qWH E (qr S 19 (fnR ψ 0)) s H locs := hW
      exact q_zret X rfl hW ⟨rfl, rfl⟩ d_R_paceFor_21
set_option maxHeartbeats 1000000 in
set_option maxRecDepth 20000 in
theorem c_R_drawn (l : Launch) (E : QE) (S : QM) (ν : Nat → Int32) (hν : S 16 = ν)  : qCI E l y_R_drawn prog_7_method_77_code 1 .int 1 [.ref (eA E 70)] S (drw (nxt (ν 2))) (qr S 16 (upd ν 2 (nxt (ν 2)))) := by
  refine qCI_of (by decide) (Nat.le_of_ble_eq_true rfl) (fun p e s m below meth c ls X hW hl => ?_)
  have hl : lv_has ls 1 [(0, .ref (eA E 70))] := hl
  refine lv_aload_n X.x X.b d_R_drawn_0 rfl (lv_at hl 0 rfl) ?_
  refine q_getr X hW qj4 rfl _ ds_R 0 (by decide) mw_686 rfl (c1 := 71) rfl d_R_drawn_1 ?_
  refine lv_iconst (v := nI 2) X.x X.b d_R_drawn_4 (by decide) ?_
  refine lv_aload_n X.x X.b d_R_drawn_5 rfl (lv_at hl 0 rfl) ?_
  refine q_getr X hW qj4 rfl _ ds_R 0 (by decide) mw_686 rfl (c1 := 71) rfl d_R_drawn_6 ?_
  refine lv_iconst (v := nI 2) X.x X.b d_R_drawn_9 (by decide) ?_
  refine g_ald X hW ds_71 (q_in (by omega) (by decide)) (p0 := 2) (q_tn (by omega) (by omega)) (v := ν 2) (by rw [hν]) d_R_drawn_10 ?_
  refine lv_ldc (v := nI 1103515245) X.x X.b X.ow (X.ts _ mw_1057) d_R_drawn_11 ?_
  refine lv_imul X.x X.b d_R_drawn_13 ?_
  refine lv_sipush (v := nI 12345) X.x X.b d_R_drawn_14 (by decide) ?_
  refine lv_iadd X.x X.b d_R_drawn_17 ?_
  refine g_ast X hW ds_71 (q_in (by omega) (by decide)) (p0 := 2) (q_tn (by omega) (by omega)) (ρ := ν) (by rw [hν]) d_R_drawn_18 (fun H locs hW => ?_)
  obtain ⟨r18, er18⟩ : ∃ z, z = upd ν 2 (((ν 2) * (nI 1103515245)) + (nI 12345)) := ⟨_, rfl⟩
  rw [← er18] at hW
  refine lv_aload_n X.x X.b d_R_drawn_19 rfl (lv_at hl 0 rfl) ?_
  refine q_getr X hW qj4 rfl _ ds_R 0 (by decide) mw_686 rfl (c1 := 71) rfl d_R_drawn_20 ?_
  refine lv_iconst (v := nI 2) X.x X.b d_R_drawn_23 (by decide) ?_
  refine g_ald X hW ds_71 (q_in (by omega) (by decide)) (p0 := 2) (q_tn (by omega) (by omega)) (v := r18 2) (by rw [qr_at]) d_R_drawn_24 ?_
  refine lv_bipush (v := nI 8) X.x X.b d_R_drawn_25 (by decide) ?_
  refine lv_iushr (v := ((r18 2).toUInt32 >>> ((nI 8).toUInt32 &&& Int32.toUInt32 31)).toInt32) X.x X.b d_R_drawn_27 rfl ?_
  exact q_zret X rfl hW ⟨by rw [er18, upd_at]; rfl, by rw [er18]; rfl⟩ d_R_drawn_28
set_option maxHeartbeats 1000000 in
set_option maxRecDepth 20000 in
theorem c_R_morning_g (l : Launch) (E : QE) (S : QM) (ν : Nat → Int32) (hν : S 16 = ν) (hwf : WF ν) (n : Nat) (h1 : 1 ≤ n) (hn : n ≤ 20) (hs : nD ν + n ≤ 99999) : qCI E l y_R_morning prog_7_method_78_code 5 .int 9 [.ref (eA E 70), .int (nI n)] S (sumS (fo (fun _ => mrnS) n ν) 4) (qr S 16 (fo (fun _ => mrnS) n ν)) := by
  refine qCI_of (by decide) (Nat.le_of_ble_eq_true rfl) (fun p e s m below meth c ls X hW hl => ?_)
  have hl : lv_has ls 5 [(0, .ref (eA E 70)), (1, .int (nI n))] := hl
  have htl := hwf.tl
  have hwl := hwf.wl
  have hdl := hwf.dl
  refine lv_iload_n X.x X.b d_R_morning_0 rfl (lv_at hl 1 rfl) ?_
  refine lv_iconst (v := nI 1) X.x X.b d_R_morning_1 (by decide) ?_
  refine lv_bipush (v := nI 20) X.x X.b d_R_morning_2 (by decide) ?_
  refine q_csi X (c_R_within l E S (nI n) (nI 1) (nI 20)) hW ok_R_within mw_757 ⟨by decide, by decide⟩ (As := [.int (nI n), .int (nI 1), .int (nI 20)]) rfl rfl (Nat.le_of_ble_eq_true rfl) (lv := [(0, .ref (eA E 70)), (1, .int (nI n))]) hl ⟨Nat.le_refl 0, Nat.le_refl 0⟩ d_R_morning_4 (fun H locs hW => ?_)
  refine lv_if_ne (tgt := 17) X.x X.b d_R_morning_7 (by decide) (fun c7 => ?_) (fun c7 => ?_)
  · have c7 := b2i_n c7
    have c7 := (inR_i (by omega) (by decide)).mp c7
    refine lv_aload_n X.x X.b d_R_morning_17 rfl (lv_at hl 0 rfl) ?_
    refine q_getr X hW qj4 rfl _ ds_R 0 (by decide) mw_686 rfl (c1 := 71) rfl d_R_morning_18 ?_
    refine lv_iconst (v := nI 0) X.x X.b d_R_morning_21 (by decide) ?_
    refine g_ald X hW ds_71 (q_in (by omega) (by decide)) (p0 := 0) (q_tn (by omega) (by omega)) (v := ν 0) (by rw [hν]) d_R_morning_22 ?_
    rw [hwf.d]
    refine lv_iload_n X.x X.b d_R_morning_23 rfl (lv_at hl 1 rfl) ?_
    refine lv_iadd X.x X.b d_R_morning_24 ?_
    rw [nI_add]
    refine lv_ldc (v := nI 99999) X.x X.b X.ow (X.ts _ mw_887) d_R_morning_25 ?_
    refine lv_icmp_le (tgt := 37) X.x X.b d_R_morning_27 (by decide) (fun c27 => ?_) (fun c27 => ?_)
    · have c27 : ((nD ν) + n) ≤ 99999 := (nI_leI (a := ((nD ν) + n)) (b := 99999) (by omega) (by omega)).mp c27
      refine lv_iconst (v := nI 0) X.x X.b d_R_morning_37 (by decide) ?_
      refine lv_istore_n (lv' := [(2, .int (nI 0)), (0, .ref (eA E 70)), (1, .int (nI n))]) X.x X.b d_R_morning_38 rfl hl (by decide) rfl (fun ls hl => ?_)
      have hW : qWH E (qr S 16 ν) s H locs := by rw [← hν, qr_self]; exact hW
      have loop39 : ∀ (fu39 : Nat) (j : Nat) (μ : Nat → Int32), j ≤ n → μ = fo (fun _ => mrnS) j ν → n - j < fu39 → ∀ (H : Heap) (locs : List Loc) (ls : Array Slot), qWH E (qr S 16 μ) s H locs → lv_has ls 5 [(2, .int (nI j)), (0, .ref (eA E 70)), (1, .int (nI n))] → W p l e (qRm 9) s m ([.ref (eA E 70), .int (nI n)] : List Value).toArray below meth c H locs 0 0 (MQ below (qQi E (sumS (fo (fun _ => mrnS) n ν) 4) (qr S 16 (fo (fun _ => mrnS) n ν)) s.heap.size) ([.ref (eA E 70), .int (nI n)] : List Value).toArray s 0 0 (qAA E s.heap.size)) (F0 m 39 ls []) := by
        intro fu39
        induction fu39 with
        | zero =>
          intro j μ hj hm hfu
          exact absurd hfu (Nat.not_lt_zero _)
        | succ fu39 ih39 =>
          intro j μ hj hm hfu H locs ls hW hl
          have hμ : WF μ := hm ▸ mrns_ok hwf j
          have hdμ := hμ.dl
          refine lv_iload_n X.x X.b d_R_morning_39 rfl (lv_at hl 0 rfl) ?_
          refine lv_iload_n X.x X.b d_R_morning_40 rfl (lv_at hl 2 rfl) ?_
          refine lv_icmp_ge (tgt := 87) X.x X.b d_R_morning_41 (by decide) (fun c41 => ?_) (fun c41 => ?_)
          · have c41 : n ≤ j := (nI_leI (a := n) (b := j) (by omega) (by omega)).mp c41
            refine lv_aload_n X.x X.b d_R_morning_87 rfl (lv_at hl 1 rfl) ?_
            refine lv_iconst (v := nI 4) X.x X.b d_R_morning_88 (by decide) ?_
            refine q_cvi X (c_R_sumOf l E (qr S 16 μ) μ (by rw [qr_at]) hμ 4 (by omega)) hW (q_recv X hW ds_R rfl) ok_R_sumOf mw_923 ⟨by decide, by decide⟩ (As := [.int (nI 4)]) rfl rfl (Nat.le_of_ble_eq_true rfl) (lv := [(2, .int (nI j)), (0, .ref (eA E 70)), (1, .int (nI n))]) hl ⟨Nat.le_refl 0, Nat.le_refl 0⟩ d_R_morning_89 (fun H locs hW => ?_)
            exact q_zret X rfl hW ⟨by rw [hm, show j = n by omega], by rw [hm, show j = n by omega]⟩ d_R_morning_92
          · have c41 : ¬ n ≤ j := fun z => c41 ((nI_leI (a := n) (b := j) (by omega) (by omega)).mpr z)
            refine lv_aload_n X.x X.b d_R_morning_44 rfl (lv_at hl 1 rfl) ?_
            refine q_cvi X (c_R_drawn l E (qr S 16 μ) μ (by rw [qr_at])) hW (q_recv X hW ds_R rfl) ok_R_drawn mw_1053 ⟨by decide, by decide⟩ (As := []) rfl rfl (Nat.le_of_ble_eq_true rfl) (lv := [(2, .int (nI j)), (0, .ref (eA E 70)), (1, .int (nI n))]) hl ⟨Nat.le_refl 0, Nat.le_refl 0⟩ d_R_morning_45 (fun H locs hW => ?_)
            have hW : qWH E (qr S 16 (upd μ 2 (nxt (μ 2)))) s H locs := (by have h := hW; rw [qr_qr] at h; exact h)
            refine lv_bipush (v := nI 6) X.x X.b d_R_morning_48 (by decide) ?_
            refine lv_irem X.x X.b d_R_morning_50 (by decide) ?_
            refine lv_istore_n (lv' := [(3, .int ((drw (nxt (μ 2))) - (drw (nxt (μ 2))) / (nI 6) * (nI 6))), (2, .int (nI j)), (0, .ref (eA E 70)), (1, .int (nI n))]) X.x X.b d_R_morning_51 rfl hl (by decide) rfl (fun ls hl => ?_)
            refine lv_aload_n X.x X.b d_R_morning_52 rfl (lv_at hl 2 rfl) ?_
            refine q_cvi X (c_R_drawn l E (qr S 16 (upd μ 2 (nxt (μ 2)))) (upd μ 2 (nxt (μ 2))) (by rw [qr_at])) hW (q_recv X hW ds_R rfl) ok_R_drawn mw_1053 ⟨by decide, by decide⟩ (As := []) rfl rfl (Nat.le_of_ble_eq_true rfl) (lv := [(3, .int ((drw (nxt (μ 2))) - (drw (nxt (μ 2))) / (nI 6) * (nI 6))), (2, .int (nI j)), (0, .ref (eA E 70)), (1, .int (nI n))]) hl ⟨Nat.le_refl 0, Nat.le_refl 0⟩ d_R_morning_53 (fun H locs hW => ?_)
            have hW : qWH E (qr S 16 (upd (upd μ 2 (nxt (μ 2))) 2 (nxt ((upd μ 2 (nxt (μ 2))) 2)))) s H locs := (by have h := hW; rw [qr_qr] at h; exact h)
            rw [show (upd μ 2 (nxt (μ 2))) 2 = nxt (μ 2) from upd_at] at hW ⊢
            have hm2 : WF (upd (upd μ 2 (nxt (μ 2))) 2 (nxt (nxt (μ 2)))) := WF_free (WF_free hμ (by omega)) (by omega)
            refine lv_bipush (v := nI 8) X.x X.b d_R_morning_56 (by decide) ?_
            refine lv_irem X.x X.b d_R_morning_58 (by decide) ?_
            refine lv_istore (lv' := [(4, .int ((drw (nxt (nxt (μ 2)))) - (drw (nxt (nxt (μ 2)))) / (nI 8) * (nI 8))), (3, .int ((drw (nxt (μ 2))) - (drw (nxt (μ 2))) / (nI 6) * (nI 6))), (2, .int (nI j)), (0, .ref (eA E 70)), (1, .int (nI n))]) X.x X.b d_R_morning_59 hl (by decide) rfl (fun ls hl => ?_)
            refine lv_aload_n X.x X.b d_R_morning_61 rfl (lv_at hl 3 rfl) ?_
            refine q_getr X hW qj4 rfl _ ds_R 0 (by decide) mw_686 rfl (c1 := 71) rfl d_R_morning_62 ?_
            refine lv_aload_n X.x X.b d_R_morning_65 rfl (lv_at hl 3 rfl) ?_
            refine q_cvi X (c_R_placeNow l E (qr S 16 (upd (upd μ 2 (nxt (μ 2))) 2 (nxt (nxt (μ 2))))) (upd (upd μ 2 (nxt (μ 2))) 2 (nxt (nxt (μ 2)))) (by rw [qr_at]) hm2) hW (q_recv X hW ds_R rfl) ok_R_placeNow mw_897 ⟨by decide, by decide⟩ (As := []) rfl rfl (Nat.le_of_ble_eq_true rfl) (lv := [(4, .int ((drw (nxt (nxt (μ 2)))) - (drw (nxt (nxt (μ 2)))) / (nI 8) * (nI 8))), (3, .int ((drw (nxt (μ 2))) - (drw (nxt (μ 2))) / (nI 6) * (nI 6))), (2, .int (nI j)), (0, .ref (eA E 70)), (1, .int (nI n))]) hl ⟨Nat.le_refl 0, Nat.le_refl 0⟩ d_R_morning_66 (fun H locs hW => ?_)
            rw [show nD (upd (upd μ 2 (nxt (μ 2))) 2 (nxt (nxt (μ 2)))) = nD μ by rw [nD_up (by omega), nD_up (by omega)]]
            refine lv_bipush (v := nI 10) X.x X.b d_R_morning_69 (by decide) ?_
            refine lv_iload_n X.x X.b d_R_morning_71 rfl (lv_at hl 1 rfl) ?_
            refine lv_imul X.x X.b d_R_morning_72 ?_
            refine lv_iload X.x X.b d_R_morning_73 (lv_at hl 0 rfl) ?_
            refine lv_iadd X.x X.b d_R_morning_75 ?_
            refine g_ast X hW ds_71 (q_in (by omega) (by decide)) (p0 := 4 + nD μ % 6) (q_tn (by omega) (by omega)) (ρ := upd (upd μ 2 (nxt (μ 2))) 2 (nxt (nxt (μ 2)))) (by rw [qr_at]) d_R_morning_76 (fun H locs hW => ?_)
            obtain ⟨r76, er76⟩ : ∃ z, z = upd (upd (upd μ 2 (nxt (μ 2))) 2 (nxt (nxt (μ 2)))) (4 + nD μ % 6) (((nI 10) * ((drw (nxt (μ 2))) - (drw (nxt (μ 2))) / (nI 6) * (nI 6))) + ((drw (nxt (nxt (μ 2)))) - (drw (nxt (nxt (μ 2)))) / (nI 8) * (nI 8))) := ⟨_, rfl⟩
            rw [← er76] at hW
            rw [qr_qr] at hW
            have hw76 : WF r76 := by rw [er76]; exact mrn_wf hμ
            refine lv_aload_n X.x X.b d_R_morning_77 rfl (lv_at hl 3 rfl) ?_
            refine q_cvv X (c_R_day l E (qr S 16 r76) r76 (by rw [qr_at]) hw76) hW (q_recv X hW ds_R rfl) ok_R_day mw_893 ⟨by decide, by decide⟩ (As := []) rfl rfl (Nat.le_of_ble_eq_true rfl) (lv := [(4, .int ((drw (nxt (nxt (μ 2)))) - (drw (nxt (nxt (μ 2)))) / (nI 8) * (nI 8))), (3, .int ((drw (nxt (μ 2))) - (drw (nxt (μ 2))) / (nI 6) * (nI 6))), (2, .int (nI j)), (0, .ref (eA E 70)), (1, .int (nI n))]) hl ⟨Nat.le_refl 0, Nat.le_refl 0⟩ d_R_morning_78 (fun H locs hW => ?_)
            have hW : qWH E (qr S 16 (dayS r76)) s H locs := (by have h := hW; rw [qr_qr] at h; exact h)
            refine lv_iinc (v := nI (j + 1)) (lv' := [(2, .int (nI (j + 1))), (4, .int ((drw (nxt (nxt (μ 2)))) - (drw (nxt (nxt (μ 2)))) / (nI 8) * (nI 8))), (3, .int ((drw (nxt (μ 2))) - (drw (nxt (μ 2))) / (nI 6) * (nI 6))), (0, .ref (eA E 70)), (1, .int (nI n))]) X.x X.b d_R_morning_81 hl (k := 2) rfl (by rw [show Int32.ofInt 1 = nI 1 from by decide, nI_add]) (by decide) rfl (fun ls hl => ?_)
            refine lv_goto (tgt := 39) X.x X.b d_R_morning_84 (by decide) ?_
            exact ih39 (j + 1) (dayS r76) (by omega) (by rw [fo_succ, ← hm, er76]; rfl) (by omega) _ _ _ hW (lv_sub hl [0, 3, 4] rfl)
      exact loop39 (n - 0 + 1) 0 ν (by omega) rfl (Nat.lt_succ_self _) _ _ _ hW (lv_sub hl [0, 1, 2] rfl)
    · have c27 : ¬ ((nD ν) + n) ≤ 99999 := fun z => c27 ((nI_leI (a := ((nD ν) + n)) (b := 99999) (by omega) (by omega)).mpr z)
      omega
  · have c7 := b2i_e c7
    have c7 := mt (inR_i (by omega) (by decide)).mpr c7
    omega
set_option maxHeartbeats 1000000 in
set_option maxRecDepth 20000 in
theorem c_R_morning_s (l : Launch) (E : QE) (S : QM) (ν : Nat → Int32) (hν : S 16 = ν) (hwf : WF ν) (ψ : Nat → Int32) (hψ : S 19 = ψ) (n : Nat) (h1 : 1 ≤ n) (hn : n ≤ 20) (hs : ¬ nD ν + n ≤ 99999) : qCI E l y_R_morning prog_7_method_78_code 5 .int 9 [.ref (eA E 70), .int (nI n)] S (-1000005) (qr S 19 (fnR ψ 4)) := by
  refine qCI_of (by decide) (Nat.le_of_ble_eq_true rfl) (fun p e s m below meth c ls X hW hl => ?_)
  have hl : lv_has ls 5 [(0, .ref (eA E 70)), (1, .int (nI n))] := hl
  have htl := hwf.tl
  have hwl := hwf.wl
  have hdl := hwf.dl
  refine lv_iload_n X.x X.b d_R_morning_0 rfl (lv_at hl 1 rfl) ?_
  refine lv_iconst (v := nI 1) X.x X.b d_R_morning_1 (by decide) ?_
  refine lv_bipush (v := nI 20) X.x X.b d_R_morning_2 (by decide) ?_
  refine q_csi X (c_R_within l E S (nI n) (nI 1) (nI 20)) hW ok_R_within mw_757 ⟨by decide, by decide⟩ (As := [.int (nI n), .int (nI 1), .int (nI 20)]) rfl rfl (Nat.le_of_ble_eq_true rfl) (lv := [(0, .ref (eA E 70)), (1, .int (nI n))]) hl ⟨Nat.le_refl 0, Nat.le_refl 0⟩ d_R_morning_4 (fun H locs hW => ?_)
  refine lv_if_ne (tgt := 17) X.x X.b d_R_morning_7 (by decide) (fun c7 => ?_) (fun c7 => ?_)
  · have c7 := b2i_n c7
    have c7 := (inR_i (by omega) (by decide)).mp c7
    refine lv_aload_n X.x X.b d_R_morning_17 rfl (lv_at hl 0 rfl) ?_
    refine q_getr X hW qj4 rfl _ ds_R 0 (by decide) mw_686 rfl (c1 := 71) rfl d_R_morning_18 ?_
    refine lv_iconst (v := nI 0) X.x X.b d_R_morning_21 (by decide) ?_
    refine g_ald X hW ds_71 (q_in (by omega) (by decide)) (p0 := 0) (q_tn (by omega) (by omega)) (v := ν 0) (by rw [hν]) d_R_morning_22 ?_
    rw [hwf.d]
    refine lv_iload_n X.x X.b d_R_morning_23 rfl (lv_at hl 1 rfl) ?_
    refine lv_iadd X.x X.b d_R_morning_24 ?_
    rw [nI_add]
    refine lv_ldc (v := nI 99999) X.x X.b X.ow (X.ts _ mw_887) d_R_morning_25 ?_
    refine lv_icmp_le (tgt := 37) X.x X.b d_R_morning_27 (by decide) (fun c27 => ?_) (fun c27 => ?_)
    · have c27 : ((nD ν) + n) ≤ 99999 := (nI_leI (a := ((nD ν) + n)) (b := 99999) (by omega) (by omega)).mp c27
      omega
    · have c27 : ¬ ((nD ν) + n) ≤ 99999 := fun z => c27 ((nI_leI (a := ((nD ν) + n)) (b := 99999) (by omega) (by omega)).mpr z)
      refine lv_aload_n X.x X.b d_R_morning_30 rfl (lv_at hl 0 rfl) ?_
      refine lv_ldc (v := (-1000005)) X.x X.b X.ow (X.ts _ mw_888) d_R_morning_31 ?_
      refine q_cvi X (c_R_finding_4 l E S ψ (by rw [hψ])) hW (q_recv X hW ds_R rfl) ok_R_finding mw_768 ⟨by decide, by decide⟩ (As := [.int (-1000005)]) rfl rfl (Nat.le_of_ble_eq_true rfl) (lv := [(0, .ref (eA E 70)), (1, .int (nI n))]) hl ⟨Nat.le_refl 0, Nat.le_refl 0⟩ d_R_morning_33 (fun H locs hW => ?_)
      have hW : qWH E (qr S 19 (fnR ψ 4)) s H locs := hW
      exact q_zret X rfl hW ⟨rfl, rfl⟩ d_R_morning_36
  · have c7 := b2i_e c7
    have c7 := mt (inR_i (by omega) (by decide)).mpr c7
    omega
set_option maxHeartbeats 1000000 in
set_option maxRecDepth 20000 in
theorem c_R_morning_b (l : Launch) (E : QE) (S : QM) (ν : Nat → Int32) (hν : S 16 = ν) (hwf : WF ν) (ψ : Nat → Int32) (hψ : S 19 = ψ) (x : Int32) (h : ¬ (inR 1 20 x)) : qCI E l y_R_morning prog_7_method_78_code 5 .int 9 [.ref (eA E 70), .int x] S (-1000001) (qr S 19 (fnR ψ 0)) := by
  refine qCI_of (by decide) (Nat.le_of_ble_eq_true rfl) (fun p e s m below meth c ls X hW hl => ?_)
  have hl : lv_has ls 5 [(0, .ref (eA E 70)), (1, .int x)] := hl
  have htl := hwf.tl
  have hwl := hwf.wl
  have hdl := hwf.dl
  refine lv_iload_n X.x X.b d_R_morning_0 rfl (lv_at hl 1 rfl) ?_
  refine lv_iconst (v := nI 1) X.x X.b d_R_morning_1 (by decide) ?_
  refine lv_bipush (v := nI 20) X.x X.b d_R_morning_2 (by decide) ?_
  refine q_csi X (c_R_within l E S x (nI 1) (nI 20)) hW ok_R_within mw_757 ⟨by decide, by decide⟩ (As := [.int x, .int (nI 1), .int (nI 20)]) rfl rfl (Nat.le_of_ble_eq_true rfl) (lv := [(0, .ref (eA E 70)), (1, .int x)]) hl ⟨Nat.le_refl 0, Nat.le_refl 0⟩ d_R_morning_4 (fun H locs hW => ?_)
  refine lv_if_ne (tgt := 17) X.x X.b d_R_morning_7 (by decide) (fun c7 => ?_) (fun c7 => ?_)
  · have c7 := b2i_n c7
    exact absurd c7 h
  · have c7 := b2i_e c7
    refine lv_aload_n X.x X.b d_R_morning_10 rfl (lv_at hl 0 rfl) ?_
    refine lv_ldc (v := (-1000001)) X.x X.b X.ow (X.ts _ mw_767) d_R_morning_11 ?_
    refine q_cvi X (c_R_finding_0 l E S ψ (by rw [hψ])) hW (q_recv X hW ds_R rfl) ok_R_finding mw_768 ⟨by decide, by decide⟩ (As := [.int (-1000001)]) rfl rfl (Nat.le_of_ble_eq_true rfl) (lv := [(0, .ref (eA E 70)), (1, .int x)]) hl ⟨Nat.le_refl 0, Nat.le_refl 0⟩ d_R_morning_13 (fun H locs hW => ?_)
    have hW : qWH E (qr S 19 (fnR ψ 0)) s H locs := hW
    exact q_zret X rfl hW ⟨rfl, rfl⟩ d_R_morning_16
set_option maxHeartbeats 1000000 in
set_option maxRecDepth 20000 in
theorem c_R_seed (l : Launch) (E : QE) (S : QM) (ν : Nat → Int32) (hν : S 16 = ν) (hwf : WF ν) (v : Int32) : qCI E l y_R_seed prog_7_method_80_code 2 .int 2 [.ref (eA E 70), .int v] S (ν 2) (qr S 16 (upd ν 2 v)) := by
  refine qCI_of (by decide) (Nat.le_of_ble_eq_true rfl) (fun p e s m below meth c ls X hW hl => ?_)
  have hl : lv_has ls 2 [(0, .ref (eA E 70)), (1, .int v)] := hl
  have htl := hwf.tl
  have hwl := hwf.wl
  have hdl := hwf.dl
  refine lv_aload_n X.x X.b d_R_seed_0 rfl (lv_at hl 0 rfl) ?_
  refine lv_iconst (v := nI 2) X.x X.b d_R_seed_1 (by decide) ?_
  refine lv_iload_n X.x X.b d_R_seed_2 rfl (lv_at hl 1 rfl) ?_
  refine q_cvi X (c_R_become l E S ν (by rw [hν]) 2 v (by omega)) hW (q_recv X hW ds_R rfl) ok_R_become mw_763 ⟨by decide, by decide⟩ (As := [.int (nI 2), .int v]) rfl rfl (Nat.le_of_ble_eq_true rfl) (lv := [(0, .ref (eA E 70)), (1, .int v)]) hl ⟨Nat.le_refl 0, Nat.le_refl 0⟩ d_R_seed_3 (fun H locs hW => ?_)
  have hW : qWH E (qr S 16 (upd ν 2 v)) s H locs := hW
  exact q_zret X rfl hW ⟨rfl, rfl⟩ d_R_seed_6
