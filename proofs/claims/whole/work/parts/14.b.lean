theorem d_X_copy_0 : decode prog_1_method_36_code 0 = .ok (.iload_n 1, 1) := by decide +kernel
theorem d_X_copy_1 : decode prog_1_method_36_code 1 = .ok (.iconst 0, 1) := by decide +kernel
theorem d_X_copy_2 : decode prog_1_method_36_code 2 = .ok (.iconst 3, 1) := by decide +kernel
theorem d_X_copy_3 : decode prog_1_method_36_code 3 = .ok (.invokestatic 44, 3) := by decide +kernel
theorem d_X_copy_6 : decode prog_1_method_36_code 6 = .ok (.ifCond .eq 12, 3) := by decide +kernel
theorem d_X_copy_9 : decode prog_1_method_36_code 9 = .ok (.iload_n 3, 1) := by decide +kernel
theorem d_X_copy_10 : decode prog_1_method_36_code 10 = .ok (.iconst 0, 1) := by decide +kernel
theorem d_X_copy_11 : decode prog_1_method_36_code 11 = .ok (.iconst 3, 1) := by decide +kernel
theorem d_X_copy_12 : decode prog_1_method_36_code 12 = .ok (.invokestatic 44, 3) := by decide +kernel
theorem d_X_copy_15 : decode prog_1_method_36_code 15 = .ok (.ifCond .ne 10, 3) := by decide +kernel
theorem d_X_copy_25 : decode prog_1_method_36_code 25 = .ok (.aload_n 0, 1) := by decide +kernel
theorem d_X_copy_26 : decode prog_1_method_36_code 26 = .ok (.getfield 35, 3) := by decide +kernel
theorem d_X_copy_29 : decode prog_1_method_36_code 29 = .ok (.iload_n 1, 1) := by decide +kernel
theorem d_X_copy_30 : decode prog_1_method_36_code 30 = .ok (.aaload, 1) := by decide +kernel
theorem d_X_copy_31 : decode prog_1_method_36_code 31 = .ok (.getfield 207, 3) := by decide +kernel
theorem d_X_copy_34 : decode prog_1_method_36_code 34 = .ok (.ifCond .eq 15, 3) := by decide +kernel
theorem d_X_copy_37 : decode prog_1_method_36_code 37 = .ok (.aload_n 0, 1) := by decide +kernel
theorem d_X_copy_38 : decode prog_1_method_36_code 38 = .ok (.getfield 35, 3) := by decide +kernel
theorem d_X_copy_41 : decode prog_1_method_36_code 41 = .ok (.iload_n 3, 1) := by decide +kernel
theorem d_X_copy_42 : decode prog_1_method_36_code 42 = .ok (.aaload, 1) := by decide +kernel
theorem d_X_copy_43 : decode prog_1_method_36_code 43 = .ok (.getfield 207, 3) := by decide +kernel
theorem d_X_copy_46 : decode prog_1_method_36_code 46 = .ok (.ifCond .ne 10, 3) := by decide +kernel
theorem d_X_copy_49 : decode prog_1_method_36_code 49 = .ok (.aload_n 0, 1) := by decide +kernel
theorem d_X_copy_50 : decode prog_1_method_36_code 50 = .ok (.ldc 192, 2) := by decide +kernel
theorem d_X_copy_52 : decode prog_1_method_36_code 52 = .ok (.invokevirtual 49, 3) := by decide +kernel
theorem d_X_copy_55 : decode prog_1_method_36_code 55 = .ok (.ireturn, 1) := by decide +kernel
theorem d_X_copy_56 : decode prog_1_method_36_code 56 = .ok (.aload_n 0, 1) := by decide +kernel
theorem d_X_copy_57 : decode prog_1_method_36_code 57 = .ok (.getfield 35, 3) := by decide +kernel
theorem d_X_copy_60 : decode prog_1_method_36_code 60 = .ok (.iload_n 1, 1) := by decide +kernel
theorem d_X_copy_61 : decode prog_1_method_36_code 61 = .ok (.aaload, 1) := by decide +kernel
theorem d_X_copy_62 : decode prog_1_method_36_code 62 = .ok (.getfield 207, 3) := by decide +kernel
theorem d_X_copy_65 : decode prog_1_method_36_code 65 = .ok (.aload_n 0, 1) := by decide +kernel
theorem d_X_copy_66 : decode prog_1_method_36_code 66 = .ok (.getfield 35, 3) := by decide +kernel
theorem d_X_copy_69 : decode prog_1_method_36_code 69 = .ok (.iload_n 3, 1) := by decide +kernel
theorem d_X_copy_70 : decode prog_1_method_36_code 70 = .ok (.aaload, 1) := by decide +kernel
theorem d_X_copy_71 : decode prog_1_method_36_code 71 = .ok (.getfield 207, 3) := by decide +kernel
theorem d_X_copy_74 : decode prog_1_method_36_code 74 = .ok (.if_icmp .eq 10, 3) := by decide +kernel
theorem d_X_copy_77 : decode prog_1_method_36_code 77 = .ok (.aload_n 0, 1) := by decide +kernel
theorem d_X_copy_78 : decode prog_1_method_36_code 78 = .ok (.ldc 196, 2) := by decide +kernel
theorem d_X_copy_80 : decode prog_1_method_36_code 80 = .ok (.invokevirtual 49, 3) := by decide +kernel
theorem d_X_copy_83 : decode prog_1_method_36_code 83 = .ok (.ireturn, 1) := by decide +kernel
theorem d_X_copy_84 : decode prog_1_method_36_code 84 = .ok (.aload_n 0, 1) := by decide +kernel
theorem d_X_copy_85 : decode prog_1_method_36_code 85 = .ok (.getfield 35, 3) := by decide +kernel
theorem d_X_copy_88 : decode prog_1_method_36_code 88 = .ok (.iload_n 1, 1) := by decide +kernel
theorem d_X_copy_89 : decode prog_1_method_36_code 89 = .ok (.aaload, 1) := by decide +kernel
theorem d_X_copy_90 : decode prog_1_method_36_code 90 = .ok (.iload_n 2, 1) := by decide +kernel
theorem d_X_copy_91 : decode prog_1_method_36_code 91 = .ok (.iload 5, 2) := by decide +kernel
theorem d_X_copy_93 : decode prog_1_method_36_code 93 = .ok (.invokevirtual 210, 3) := by decide +kernel
theorem d_X_copy_96 : decode prog_1_method_36_code 96 = .ok (.ifCond .eq 19, 3) := by decide +kernel
theorem d_X_copy_99 : decode prog_1_method_36_code 99 = .ok (.aload_n 0, 1) := by decide +kernel
theorem d_X_copy_100 : decode prog_1_method_36_code 100 = .ok (.getfield 35, 3) := by decide +kernel
theorem d_X_copy_103 : decode prog_1_method_36_code 103 = .ok (.iload_n 3, 1) := by decide +kernel
theorem d_X_copy_104 : decode prog_1_method_36_code 104 = .ok (.aaload, 1) := by decide +kernel
theorem d_X_copy_105 : decode prog_1_method_36_code 105 = .ok (.iload 4, 2) := by decide +kernel
theorem d_X_copy_107 : decode prog_1_method_36_code 107 = .ok (.iload 5, 2) := by decide +kernel
theorem d_X_copy_109 : decode prog_1_method_36_code 109 = .ok (.invokevirtual 210, 3) := by decide +kernel
theorem d_X_copy_112 : decode prog_1_method_36_code 112 = .ok (.ifCond .ne 10, 3) := by decide +kernel
theorem d_X_copy_115 : decode prog_1_method_36_code 115 = .ok (.aload_n 0, 1) := by decide +kernel
theorem d_X_copy_116 : decode prog_1_method_36_code 116 = .ok (.ldc 48, 2) := by decide +kernel
theorem d_X_copy_118 : decode prog_1_method_36_code 118 = .ok (.invokevirtual 49, 3) := by decide +kernel
theorem d_X_copy_121 : decode prog_1_method_36_code 121 = .ok (.ireturn, 1) := by decide +kernel
theorem d_X_copy_122 : decode prog_1_method_36_code 122 = .ok (.aload_n 0, 1) := by decide +kernel
theorem d_X_copy_123 : decode prog_1_method_36_code 123 = .ok (.getfield 35, 3) := by decide +kernel
theorem d_X_copy_126 : decode prog_1_method_36_code 126 = .ok (.iload_n 1, 1) := by decide +kernel
theorem d_X_copy_127 : decode prog_1_method_36_code 127 = .ok (.aaload, 1) := by decide +kernel
theorem d_X_copy_128 : decode prog_1_method_36_code 128 = .ok (.getfield 213, 3) := by decide +kernel
theorem d_X_copy_131 : decode prog_1_method_36_code 131 = .ok (.iload_n 2, 1) := by decide +kernel
theorem d_X_copy_132 : decode prog_1_method_36_code 132 = .ok (.aload_n 0, 1) := by decide +kernel
theorem d_X_copy_133 : decode prog_1_method_36_code 133 = .ok (.getfield 35, 3) := by decide +kernel
theorem d_X_copy_136 : decode prog_1_method_36_code 136 = .ok (.iload_n 3, 1) := by decide +kernel
theorem d_X_copy_137 : decode prog_1_method_36_code 137 = .ok (.aaload, 1) := by decide +kernel
theorem d_X_copy_138 : decode prog_1_method_36_code 138 = .ok (.getfield 213, 3) := by decide +kernel
theorem d_X_copy_141 : decode prog_1_method_36_code 141 = .ok (.iload 4, 2) := by decide +kernel
theorem d_X_copy_143 : decode prog_1_method_36_code 143 = .ok (.iload 5, 2) := by decide +kernel
theorem d_X_copy_145 : decode prog_1_method_36_code 145 = .ok (.invokestatic 216, 3) := by decide +kernel
theorem d_X_copy_148 : decode prog_1_method_36_code 148 = .ok (.iload 5, 2) := by decide +kernel
theorem d_X_copy_150 : decode prog_1_method_36_code 150 = .ok (.ireturn, 1) := by decide +kernel
theorem d_X_copy_18 : decode prog_1_method_36_code 18 = .ok (.aload_n 0, 1) := by decide +kernel
theorem d_X_copy_19 : decode prog_1_method_36_code 19 = .ok (.ldc 48, 2) := by decide +kernel
theorem d_X_copy_21 : decode prog_1_method_36_code 21 = .ok (.invokevirtual 49, 3) := by decide +kernel
theorem d_X_copy_24 : decode prog_1_method_36_code 24 = .ok (.ireturn, 1) := by decide +kernel
theorem d_X_load_0 : decode prog_1_method_37_code 0 = .ok (.aload_n 0, 1) := by decide +kernel
theorem d_X_load_1 : decode prog_1_method_37_code 1 = .ok (.iload_n 1, 1) := by decide +kernel
theorem d_X_load_2 : decode prog_1_method_37_code 2 = .ok (.invokevirtual 161, 3) := by decide +kernel
theorem d_X_load_5 : decode prog_1_method_37_code 5 = .ok (.istore_n 2, 1) := by decide +kernel
theorem d_X_load_6 : decode prog_1_method_37_code 6 = .ok (.iload_n 2, 1) := by decide +kernel
theorem d_X_load_7 : decode prog_1_method_37_code 7 = .ok (.ifCond .eq 9, 3) := by decide +kernel
theorem d_X_load_10 : decode prog_1_method_37_code 10 = .ok (.aload_n 0, 1) := by decide +kernel
theorem d_X_load_11 : decode prog_1_method_37_code 11 = .ok (.iload_n 2, 1) := by decide +kernel
theorem d_X_load_12 : decode prog_1_method_37_code 12 = .ok (.invokevirtual 49, 3) := by decide +kernel
theorem d_X_load_15 : decode prog_1_method_37_code 15 = .ok (.ireturn, 1) := by decide +kernel
theorem d_X_load_16 : decode prog_1_method_37_code 16 = .ok (.aload_n 0, 1) := by decide +kernel
theorem d_X_load_17 : decode prog_1_method_37_code 17 = .ok (.getfield 35, 3) := by decide +kernel
theorem d_X_load_20 : decode prog_1_method_37_code 20 = .ok (.iload_n 1, 1) := by decide +kernel
theorem d_X_load_21 : decode prog_1_method_37_code 21 = .ok (.aaload, 1) := by decide +kernel
theorem d_X_load_22 : decode prog_1_method_37_code 22 = .ok (.astore_n 3, 1) := by decide +kernel
theorem d_X_load_23 : decode prog_1_method_37_code 23 = .ok (.iconst 0, 1) := by decide +kernel
theorem d_X_load_24 : decode prog_1_method_37_code 24 = .ok (.istore 4, 2) := by decide +kernel
theorem d_X_load_26 : decode prog_1_method_37_code 26 = .ok (.iload 4, 2) := by decide +kernel
theorem d_X_load_28 : decode prog_1_method_37_code 28 = .ok (.aload_n 3, 1) := by decide +kernel
theorem d_X_load_29 : decode prog_1_method_37_code 29 = .ok (.getfield 201, 3) := by decide +kernel
theorem d_X_load_32 : decode prog_1_method_37_code 32 = .ok (.if_icmp .ge 57, 3) := by decide +kernel
theorem d_X_load_35 : decode prog_1_method_37_code 35 = .ok (.aload_n 0, 1) := by decide +kernel
theorem d_X_load_36 : decode prog_1_method_37_code 36 = .ok (.getfield 12, 3) := by decide +kernel
theorem d_X_load_39 : decode prog_1_method_37_code 39 = .ok (.iload 4, 2) := by decide +kernel
theorem d_X_load_41 : decode prog_1_method_37_code 41 = .ok (.invokevirtual 97, 3) := by decide +kernel
theorem d_X_load_44 : decode prog_1_method_37_code 44 = .ok (.ifCond .eq 45, 3) := by decide +kernel
theorem d_X_load_47 : decode prog_1_method_37_code 47 = .ok (.aload_n 3, 1) := by decide +kernel
theorem d_X_load_48 : decode prog_1_method_37_code 48 = .ok (.getfield 213, 3) := by decide +kernel
theorem d_X_load_51 : decode prog_1_method_37_code 51 = .ok (.iload 4, 2) := by decide +kernel
theorem d_X_load_53 : decode prog_1_method_37_code 53 = .ok (.iaload, 1) := by decide +kernel
theorem d_X_load_54 : decode prog_1_method_37_code 54 = .ok (.iconst 0, 1) := by decide +kernel
theorem d_X_load_55 : decode prog_1_method_37_code 55 = .ok (.sipush 255, 3) := by decide +kernel
theorem d_X_load_58 : decode prog_1_method_37_code 58 = .ok (.invokestatic 44, 3) := by decide +kernel
theorem d_X_load_61 : decode prog_1_method_37_code 61 = .ok (.ifCond .eq 28, 3) := by decide +kernel
theorem d_X_load_64 : decode prog_1_method_37_code 64 = .ok (.aload_n 0, 1) := by decide +kernel
theorem d_X_load_65 : decode prog_1_method_37_code 65 = .ok (.getfield 12, 3) := by decide +kernel
theorem d_X_load_68 : decode prog_1_method_37_code 68 = .ok (.getfield 100, 3) := by decide +kernel
theorem d_X_load_71 : decode prog_1_method_37_code 71 = .ok (.iload 4, 2) := by decide +kernel
theorem d_X_load_73 : decode prog_1_method_37_code 73 = .ok (.aaload, 1) := by decide +kernel
theorem d_X_load_74 : decode prog_1_method_37_code 74 = .ok (.iconst 3, 1) := by decide +kernel
theorem d_X_load_75 : decode prog_1_method_37_code 75 = .ok (.aload_n 3, 1) := by decide +kernel
theorem d_X_load_76 : decode prog_1_method_37_code 76 = .ok (.getfield 213, 3) := by decide +kernel
theorem d_X_load_79 : decode prog_1_method_37_code 79 = .ok (.iload 4, 2) := by decide +kernel
theorem d_X_load_81 : decode prog_1_method_37_code 81 = .ok (.iaload, 1) := by decide +kernel
theorem d_X_load_82 : decode prog_1_method_37_code 82 = .ok (.iastore, 1) := by decide +kernel
theorem d_X_load_83 : decode prog_1_method_37_code 83 = .ok (.iinc 4 1, 3) := by decide +kernel
theorem d_X_load_86 : decode prog_1_method_37_code 86 = .ok (.goto (-60), 3) := by decide +kernel
theorem d_X_load_89 : decode prog_1_method_37_code 89 = .ok (.iload 4, 2) := by decide +kernel
theorem d_X_load_91 : decode prog_1_method_37_code 91 = .ok (.ireturn, 1) := by decide +kernel
theorem d_X_judge_0 : decode prog_1_method_38_code 0 = .ok (.aload_n 0, 1) := by decide +kernel
theorem d_X_judge_1 : decode prog_1_method_38_code 1 = .ok (.iload_n 1, 1) := by decide +kernel
theorem d_X_judge_2 : decode prog_1_method_38_code 2 = .ok (.invokevirtual 161, 3) := by decide +kernel
theorem d_X_judge_5 : decode prog_1_method_38_code 5 = .ok (.istore_n 2, 1) := by decide +kernel
theorem d_X_judge_6 : decode prog_1_method_38_code 6 = .ok (.iload_n 2, 1) := by decide +kernel
theorem d_X_judge_7 : decode prog_1_method_38_code 7 = .ok (.ifCond .eq 9, 3) := by decide +kernel
theorem d_X_judge_10 : decode prog_1_method_38_code 10 = .ok (.aload_n 0, 1) := by decide +kernel
theorem d_X_judge_11 : decode prog_1_method_38_code 11 = .ok (.iload_n 2, 1) := by decide +kernel
theorem d_X_judge_12 : decode prog_1_method_38_code 12 = .ok (.invokevirtual 49, 3) := by decide +kernel
theorem d_X_judge_15 : decode prog_1_method_38_code 15 = .ok (.ireturn, 1) := by decide +kernel
theorem d_X_judge_16 : decode prog_1_method_38_code 16 = .ok (.aload_n 0, 1) := by decide +kernel
theorem d_X_judge_17 : decode prog_1_method_38_code 17 = .ok (.getfield 35, 3) := by decide +kernel
theorem d_X_judge_20 : decode prog_1_method_38_code 20 = .ok (.iload_n 1, 1) := by decide +kernel
theorem d_X_judge_21 : decode prog_1_method_38_code 21 = .ok (.aaload, 1) := by decide +kernel
theorem d_X_judge_22 : decode prog_1_method_38_code 22 = .ok (.astore_n 3, 1) := by decide +kernel
theorem d_X_judge_23 : decode prog_1_method_38_code 23 = .ok (.iconst 0, 1) := by decide +kernel
theorem d_X_judge_24 : decode prog_1_method_38_code 24 = .ok (.istore 4, 2) := by decide +kernel
theorem d_X_judge_26 : decode prog_1_method_38_code 26 = .ok (.iload 4, 2) := by decide +kernel
theorem d_X_judge_28 : decode prog_1_method_38_code 28 = .ok (.aload_n 3, 1) := by decide +kernel
theorem d_X_judge_29 : decode prog_1_method_38_code 29 = .ok (.getfield 201, 3) := by decide +kernel
theorem d_X_judge_32 : decode prog_1_method_38_code 32 = .ok (.if_icmp .ge 48, 3) := by decide +kernel
theorem d_X_judge_35 : decode prog_1_method_38_code 35 = .ok (.aload_n 0, 1) := by decide +kernel
theorem d_X_judge_36 : decode prog_1_method_38_code 36 = .ok (.getfield 12, 3) := by decide +kernel
theorem d_X_judge_39 : decode prog_1_method_38_code 39 = .ok (.iload 4, 2) := by decide +kernel
theorem d_X_judge_41 : decode prog_1_method_38_code 41 = .ok (.invokevirtual 97, 3) := by decide +kernel
theorem d_X_judge_44 : decode prog_1_method_38_code 44 = .ok (.ifCond .eq 25, 3) := by decide +kernel
theorem d_X_judge_47 : decode prog_1_method_38_code 47 = .ok (.aload_n 0, 1) := by decide +kernel
theorem d_X_judge_48 : decode prog_1_method_38_code 48 = .ok (.getfield 12, 3) := by decide +kernel
theorem d_X_judge_51 : decode prog_1_method_38_code 51 = .ok (.getfield 100, 3) := by decide +kernel
theorem d_X_judge_54 : decode prog_1_method_38_code 54 = .ok (.iload 4, 2) := by decide +kernel
theorem d_X_judge_56 : decode prog_1_method_38_code 56 = .ok (.aaload, 1) := by decide +kernel
theorem d_X_judge_57 : decode prog_1_method_38_code 57 = .ok (.iconst 0, 1) := by decide +kernel
theorem d_X_judge_58 : decode prog_1_method_38_code 58 = .ok (.iaload, 1) := by decide +kernel
theorem d_X_judge_59 : decode prog_1_method_38_code 59 = .ok (.aload_n 3, 1) := by decide +kernel
theorem d_X_judge_60 : decode prog_1_method_38_code 60 = .ok (.getfield 213, 3) := by decide +kernel
theorem d_X_judge_63 : decode prog_1_method_38_code 63 = .ok (.iload 4, 2) := by decide +kernel
theorem d_X_judge_65 : decode prog_1_method_38_code 65 = .ok (.iaload, 1) := by decide +kernel
theorem d_X_judge_66 : decode prog_1_method_38_code 66 = .ok (.if_icmp .eq 8, 3) := by decide +kernel
theorem d_X_judge_69 : decode prog_1_method_38_code 69 = .ok (.iconst 1, 1) := by decide +kernel
theorem d_X_judge_70 : decode prog_1_method_38_code 70 = .ok (.iload 4, 2) := by decide +kernel
theorem d_X_judge_72 : decode prog_1_method_38_code 72 = .ok (.iadd, 1) := by decide +kernel
theorem d_X_judge_73 : decode prog_1_method_38_code 73 = .ok (.ireturn, 1) := by decide +kernel
theorem d_X_judge_74 : decode prog_1_method_38_code 74 = .ok (.iinc 4 1, 3) := by decide +kernel
theorem d_X_judge_77 : decode prog_1_method_38_code 77 = .ok (.goto (-51), 3) := by decide +kernel
theorem d_X_judge_80 : decode prog_1_method_38_code 80 = .ok (.iconst 0, 1) := by decide +kernel
theorem d_X_judge_81 : decode prog_1_method_38_code 81 = .ok (.ireturn, 1) := by decide +kernel
theorem d_X_goesAsTold_0 : decode prog_1_method_51_code 0 = .ok (.iconst 0, 1) := by decide +kernel
theorem d_X_goesAsTold_1 : decode prog_1_method_51_code 1 = .ok (.istore 4, 2) := by decide +kernel
theorem d_X_goesAsTold_3 : decode prog_1_method_51_code 3 = .ok (.iload 4, 2) := by decide +kernel
theorem d_X_goesAsTold_5 : decode prog_1_method_51_code 5 = .ok (.aload_n 1, 1) := by decide +kernel
theorem d_X_goesAsTold_6 : decode prog_1_method_51_code 6 = .ok (.getfield 201, 3) := by decide +kernel
theorem d_X_goesAsTold_9 : decode prog_1_method_51_code 9 = .ok (.if_icmp .ge 42, 3) := by decide +kernel
theorem d_X_goesAsTold_12 : decode prog_1_method_51_code 12 = .ok (.aload_n 0, 1) := by decide +kernel
theorem d_X_goesAsTold_13 : decode prog_1_method_51_code 13 = .ok (.getfield 19, 3) := by decide +kernel
theorem d_X_goesAsTold_16 : decode prog_1_method_51_code 16 = .ok (.invokevirtual 118, 3) := by decide +kernel
theorem d_X_goesAsTold_19 : decode prog_1_method_51_code 19 = .ok (.aload_n 1, 1) := by decide +kernel
theorem d_X_goesAsTold_20 : decode prog_1_method_51_code 20 = .ok (.getfield 213, 3) := by decide +kernel
theorem d_X_goesAsTold_23 : decode prog_1_method_51_code 23 = .ok (.iload 4, 2) := by decide +kernel
theorem d_X_goesAsTold_25 : decode prog_1_method_51_code 25 = .ok (.iaload, 1) := by decide +kernel
theorem d_X_goesAsTold_26 : decode prog_1_method_51_code 26 = .ok (.iconst (-1), 1) := by decide +kernel
theorem d_X_goesAsTold_27 : decode prog_1_method_51_code 27 = .ok (.if_icmp .eq 18, 3) := by decide +kernel
theorem d_X_goesAsTold_30 : decode prog_1_method_51_code 30 = .ok (.aload_n 1, 1) := by decide +kernel
theorem d_X_goesAsTold_31 : decode prog_1_method_51_code 31 = .ok (.getfield 213, 3) := by decide +kernel
theorem d_X_goesAsTold_34 : decode prog_1_method_51_code 34 = .ok (.iload 4, 2) := by decide +kernel
theorem d_X_goesAsTold_36 : decode prog_1_method_51_code 36 = .ok (.iaload, 1) := by decide +kernel
theorem d_X_goesAsTold_37 : decode prog_1_method_51_code 37 = .ok (.aload_n 2, 1) := by decide +kernel
theorem d_X_goesAsTold_38 : decode prog_1_method_51_code 38 = .ok (.iload_n 3, 1) := by decide +kernel
theorem d_X_goesAsTold_39 : decode prog_1_method_51_code 39 = .ok (.iaload, 1) := by decide +kernel
theorem d_X_goesAsTold_40 : decode prog_1_method_51_code 40 = .ok (.if_icmp .eq 5, 3) := by decide +kernel
theorem d_X_goesAsTold_43 : decode prog_1_method_51_code 43 = .ok (.iconst 0, 1) := by decide +kernel
theorem d_X_goesAsTold_44 : decode prog_1_method_51_code 44 = .ok (.ireturn, 1) := by decide +kernel
theorem d_X_goesAsTold_45 : decode prog_1_method_51_code 45 = .ok (.iinc 4 1, 3) := by decide +kernel
theorem d_X_goesAsTold_48 : decode prog_1_method_51_code 48 = .ok (.goto (-45), 3) := by decide +kernel
theorem d_X_goesAsTold_51 : decode prog_1_method_51_code 51 = .ok (.iconst 1, 1) := by decide +kernel
theorem d_X_goesAsTold_52 : decode prog_1_method_51_code 52 = .ok (.ireturn, 1) := by decide +kernel
theorem d_X_fits_0 : decode prog_1_method_24_code 0 = .ok (.aload_n 0, 1) := by decide +kernel
theorem d_X_fits_1 : decode prog_1_method_24_code 1 = .ok (.iload_n 1, 1) := by decide +kernel
theorem d_X_fits_2 : decode prog_1_method_24_code 2 = .ok (.invokevirtual 161, 3) := by decide +kernel
theorem d_X_fits_5 : decode prog_1_method_24_code 5 = .ok (.istore_n 3, 1) := by decide +kernel
theorem d_X_fits_6 : decode prog_1_method_24_code 6 = .ok (.iload_n 3, 1) := by decide +kernel
theorem d_X_fits_7 : decode prog_1_method_24_code 7 = .ok (.ifCond .eq 9, 3) := by decide +kernel
theorem d_X_fits_16 : decode prog_1_method_24_code 16 = .ok (.aload_n 0, 1) := by decide +kernel
theorem d_X_fits_17 : decode prog_1_method_24_code 17 = .ok (.getfield 12, 3) := by decide +kernel
theorem d_X_fits_20 : decode prog_1_method_24_code 20 = .ok (.iload_n 2, 1) := by decide +kernel
theorem d_X_fits_21 : decode prog_1_method_24_code 21 = .ok (.invokevirtual 97, 3) := by decide +kernel
theorem d_X_fits_24 : decode prog_1_method_24_code 24 = .ok (.ifCond .ne 10, 3) := by decide +kernel
theorem d_X_fits_34 : decode prog_1_method_24_code 34 = .ok (.iconst 0, 1) := by decide +kernel
theorem d_X_fits_35 : decode prog_1_method_24_code 35 = .ok (.istore 4, 2) := by decide +kernel
theorem d_X_fits_37 : decode prog_1_method_24_code 37 = .ok (.iconst 0, 1) := by decide +kernel
theorem d_X_fits_38 : decode prog_1_method_24_code 38 = .ok (.istore 5, 2) := by decide +kernel
theorem d_X_fits_40 : decode prog_1_method_24_code 40 = .ok (.iload 5, 2) := by decide +kernel
theorem d_X_fits_42 : decode prog_1_method_24_code 42 = .ok (.bipush 16, 2) := by decide +kernel
theorem d_X_fits_44 : decode prog_1_method_24_code 44 = .ok (.if_icmp .ge 65, 3) := by decide +kernel
theorem d_X_fits_47 : decode prog_1_method_24_code 47 = .ok (.aload_n 0, 1) := by decide +kernel
theorem d_X_fits_48 : decode prog_1_method_24_code 48 = .ok (.getfield 19, 3) := by decide +kernel
theorem d_X_fits_51 : decode prog_1_method_24_code 51 = .ok (.aload_n 0, 1) := by decide +kernel
theorem d_X_fits_52 : decode prog_1_method_24_code 52 = .ok (.getfield 12, 3) := by decide +kernel
theorem d_X_fits_55 : decode prog_1_method_24_code 55 = .ok (.invokevirtual 140, 3) := by decide +kernel
theorem d_X_fits_58 : decode prog_1_method_24_code 58 = .ok (.aload_n 0, 1) := by decide +kernel
theorem d_X_fits_59 : decode prog_1_method_24_code 59 = .ok (.getfield 19, 3) := by decide +kernel
theorem d_X_fits_62 : decode prog_1_method_24_code 62 = .ok (.getfield 100, 3) := by decide +kernel
theorem d_X_fits_65 : decode prog_1_method_24_code 65 = .ok (.iload_n 2, 1) := by decide +kernel
theorem d_X_fits_66 : decode prog_1_method_24_code 66 = .ok (.aaload, 1) := by decide +kernel
theorem d_X_fits_67 : decode prog_1_method_24_code 67 = .ok (.iconst 0, 1) := by decide +kernel
theorem d_X_fits_68 : decode prog_1_method_24_code 68 = .ok (.iload 5, 2) := by decide +kernel
theorem d_X_fits_70 : decode prog_1_method_24_code 70 = .ok (.iastore, 1) := by decide +kernel
theorem d_X_fits_71 : decode prog_1_method_24_code 71 = .ok (.aload_n 0, 1) := by decide +kernel
theorem d_X_fits_72 : decode prog_1_method_24_code 72 = .ok (.aload_n 0, 1) := by decide +kernel
theorem d_X_fits_73 : decode prog_1_method_24_code 73 = .ok (.getfield 35, 3) := by decide +kernel
theorem d_X_fits_76 : decode prog_1_method_24_code 76 = .ok (.iload_n 1, 1) := by decide +kernel
theorem d_X_fits_77 : decode prog_1_method_24_code 77 = .ok (.aaload, 1) := by decide +kernel
theorem d_X_fits_78 : decode prog_1_method_24_code 78 = .ok (.aload_n 0, 1) := by decide +kernel
theorem d_X_fits_79 : decode prog_1_method_24_code 79 = .ok (.getfield 19, 3) := by decide +kernel
theorem d_X_fits_82 : decode prog_1_method_24_code 82 = .ok (.getfield 100, 3) := by decide +kernel
theorem d_X_fits_85 : decode prog_1_method_24_code 85 = .ok (.iload_n 2, 1) := by decide +kernel
theorem d_X_fits_86 : decode prog_1_method_24_code 86 = .ok (.aaload, 1) := by decide +kernel
theorem d_X_fits_87 : decode prog_1_method_24_code 87 = .ok (.iconst 0, 1) := by decide +kernel
theorem d_X_fits_88 : decode prog_1_method_24_code 88 = .ok (.invokevirtual 164, 3) := by decide +kernel
theorem d_X_fits_91 : decode prog_1_method_24_code 91 = .ok (.ifCond .eq 12, 3) := by decide +kernel
theorem d_X_fits_94 : decode prog_1_method_24_code 94 = .ok (.iload 4, 2) := by decide +kernel
theorem d_X_fits_96 : decode prog_1_method_24_code 96 = .ok (.iconst 1, 1) := by decide +kernel
theorem d_X_fits_97 : decode prog_1_method_24_code 97 = .ok (.iload 5, 2) := by decide +kernel
theorem d_X_fits_99 : decode prog_1_method_24_code 99 = .ok (.ishl, 1) := by decide +kernel
theorem d_X_fits_100 : decode prog_1_method_24_code 100 = .ok (.ior, 1) := by decide +kernel
theorem d_X_fits_101 : decode prog_1_method_24_code 101 = .ok (.istore 4, 2) := by decide +kernel
theorem d_X_fits_103 : decode prog_1_method_24_code 103 = .ok (.iinc 5 1, 3) := by decide +kernel
theorem d_X_fits_106 : decode prog_1_method_24_code 106 = .ok (.goto (-66), 3) := by decide +kernel
theorem d_X_fits_109 : decode prog_1_method_24_code 109 = .ok (.iload 4, 2) := by decide +kernel
theorem d_X_fits_111 : decode prog_1_method_24_code 111 = .ok (.ireturn, 1) := by decide +kernel
theorem d_X_fits_10 : decode prog_1_method_24_code 10 = .ok (.aload_n 0, 1) := by decide +kernel
theorem d_X_fits_11 : decode prog_1_method_24_code 11 = .ok (.iload_n 3, 1) := by decide +kernel
theorem d_X_fits_12 : decode prog_1_method_24_code 12 = .ok (.invokevirtual 49, 3) := by decide +kernel
theorem d_X_fits_15 : decode prog_1_method_24_code 15 = .ok (.ireturn, 1) := by decide +kernel
theorem d_X_fits_27 : decode prog_1_method_24_code 27 = .ok (.aload_n 0, 1) := by decide +kernel
theorem d_X_fits_28 : decode prog_1_method_24_code 28 = .ok (.ldc 48, 2) := by decide +kernel
theorem d_X_fits_30 : decode prog_1_method_24_code 30 = .ok (.invokevirtual 49, 3) := by decide +kernel
theorem d_X_fits_33 : decode prog_1_method_24_code 33 = .ok (.ireturn, 1) := by decide +kernel
theorem d_X_kinds_0 : decode prog_1_method_25_code 0 = .ok (.aload_n 0, 1) := by decide +kernel
theorem d_X_kinds_1 : decode prog_1_method_25_code 1 = .ok (.iload_n 1, 1) := by decide +kernel
theorem d_X_kinds_2 : decode prog_1_method_25_code 2 = .ok (.invokevirtual 161, 3) := by decide +kernel
theorem d_X_kinds_5 : decode prog_1_method_25_code 5 = .ok (.istore_n 3, 1) := by decide +kernel
theorem d_X_kinds_6 : decode prog_1_method_25_code 6 = .ok (.iload_n 3, 1) := by decide +kernel
theorem d_X_kinds_7 : decode prog_1_method_25_code 7 = .ok (.ifCond .eq 9, 3) := by decide +kernel
theorem d_X_kinds_16 : decode prog_1_method_25_code 16 = .ok (.aload_n 0, 1) := by decide +kernel
theorem d_X_kinds_17 : decode prog_1_method_25_code 17 = .ok (.getfield 12, 3) := by decide +kernel
theorem d_X_kinds_20 : decode prog_1_method_25_code 20 = .ok (.iload_n 2, 1) := by decide +kernel
theorem d_X_kinds_21 : decode prog_1_method_25_code 21 = .ok (.invokevirtual 74, 3) := by decide +kernel
theorem d_X_kinds_24 : decode prog_1_method_25_code 24 = .ok (.ifCond .ne 10, 3) := by decide +kernel
theorem d_X_kinds_34 : decode prog_1_method_25_code 34 = .ok (.iconst 0, 1) := by decide +kernel
theorem d_X_kinds_35 : decode prog_1_method_25_code 35 = .ok (.istore 4, 2) := by decide +kernel
theorem d_X_kinds_37 : decode prog_1_method_25_code 37 = .ok (.iconst 0, 1) := by decide +kernel
theorem d_X_kinds_38 : decode prog_1_method_25_code 38 = .ok (.istore 5, 2) := by decide +kernel
theorem d_X_kinds_40 : decode prog_1_method_25_code 40 = .ok (.iload 5, 2) := by decide +kernel
theorem d_X_kinds_42 : decode prog_1_method_25_code 42 = .ok (.getstatic 56, 3) := by decide +kernel
theorem d_X_kinds_45 : decode prog_1_method_25_code 45 = .ok (.iconst 0, 1) := by decide +kernel
theorem d_X_kinds_46 : decode prog_1_method_25_code 46 = .ok (.iaload, 1) := by decide +kernel
theorem d_X_kinds_47 : decode prog_1_method_25_code 47 = .ok (.if_icmp .gt 65, 3) := by decide +kernel
theorem d_X_kinds_50 : decode prog_1_method_25_code 50 = .ok (.aload_n 0, 1) := by decide +kernel
theorem d_X_kinds_51 : decode prog_1_method_25_code 51 = .ok (.getfield 19, 3) := by decide +kernel
theorem d_X_kinds_54 : decode prog_1_method_25_code 54 = .ok (.aload_n 0, 1) := by decide +kernel
theorem d_X_kinds_55 : decode prog_1_method_25_code 55 = .ok (.getfield 12, 3) := by decide +kernel
theorem d_X_kinds_58 : decode prog_1_method_25_code 58 = .ok (.invokevirtual 140, 3) := by decide +kernel
theorem d_X_kinds_61 : decode prog_1_method_25_code 61 = .ok (.aload_n 0, 1) := by decide +kernel
theorem d_X_kinds_62 : decode prog_1_method_25_code 62 = .ok (.getfield 19, 3) := by decide +kernel
theorem d_X_kinds_65 : decode prog_1_method_25_code 65 = .ok (.getfield 78, 3) := by decide +kernel
theorem d_X_kinds_68 : decode prog_1_method_25_code 68 = .ok (.iload_n 2, 1) := by decide +kernel
theorem d_X_kinds_69 : decode prog_1_method_25_code 69 = .ok (.aaload, 1) := by decide +kernel
theorem d_X_kinds_70 : decode prog_1_method_25_code 70 = .ok (.iconst 0, 1) := by decide +kernel
theorem d_X_kinds_71 : decode prog_1_method_25_code 71 = .ok (.iload 5, 2) := by decide +kernel
theorem d_X_kinds_73 : decode prog_1_method_25_code 73 = .ok (.iastore, 1) := by decide +kernel
theorem d_X_kinds_74 : decode prog_1_method_25_code 74 = .ok (.aload_n 0, 1) := by decide +kernel
theorem d_X_kinds_75 : decode prog_1_method_25_code 75 = .ok (.aload_n 0, 1) := by decide +kernel
theorem d_X_kinds_76 : decode prog_1_method_25_code 76 = .ok (.getfield 35, 3) := by decide +kernel
theorem d_X_kinds_79 : decode prog_1_method_25_code 79 = .ok (.iload_n 1, 1) := by decide +kernel
theorem d_X_kinds_80 : decode prog_1_method_25_code 80 = .ok (.aaload, 1) := by decide +kernel
theorem d_X_kinds_81 : decode prog_1_method_25_code 81 = .ok (.aload_n 0, 1) := by decide +kernel
theorem d_X_kinds_82 : decode prog_1_method_25_code 82 = .ok (.getfield 19, 3) := by decide +kernel
theorem d_X_kinds_85 : decode prog_1_method_25_code 85 = .ok (.getfield 78, 3) := by decide +kernel
theorem d_X_kinds_88 : decode prog_1_method_25_code 88 = .ok (.iload_n 2, 1) := by decide +kernel
theorem d_X_kinds_89 : decode prog_1_method_25_code 89 = .ok (.aaload, 1) := by decide +kernel
theorem d_X_kinds_90 : decode prog_1_method_25_code 90 = .ok (.iconst 1, 1) := by decide +kernel
theorem d_X_kinds_91 : decode prog_1_method_25_code 91 = .ok (.invokevirtual 164, 3) := by decide +kernel
theorem d_X_kinds_94 : decode prog_1_method_25_code 94 = .ok (.ifCond .eq 12, 3) := by decide +kernel
theorem d_X_kinds_97 : decode prog_1_method_25_code 97 = .ok (.iload 4, 2) := by decide +kernel
theorem d_X_kinds_99 : decode prog_1_method_25_code 99 = .ok (.iconst 1, 1) := by decide +kernel
theorem d_X_kinds_100 : decode prog_1_method_25_code 100 = .ok (.iload 5, 2) := by decide +kernel
theorem d_X_kinds_102 : decode prog_1_method_25_code 102 = .ok (.ishl, 1) := by decide +kernel
theorem d_X_kinds_103 : decode prog_1_method_25_code 103 = .ok (.ior, 1) := by decide +kernel
theorem d_X_kinds_104 : decode prog_1_method_25_code 104 = .ok (.istore 4, 2) := by decide +kernel
theorem d_X_kinds_106 : decode prog_1_method_25_code 106 = .ok (.iinc 5 1, 3) := by decide +kernel
theorem d_X_kinds_109 : decode prog_1_method_25_code 109 = .ok (.goto (-69), 3) := by decide +kernel
theorem d_X_kinds_112 : decode prog_1_method_25_code 112 = .ok (.iload 4, 2) := by decide +kernel
theorem d_X_kinds_114 : decode prog_1_method_25_code 114 = .ok (.ireturn, 1) := by decide +kernel
theorem d_X_kinds_10 : decode prog_1_method_25_code 10 = .ok (.aload_n 0, 1) := by decide +kernel
theorem d_X_kinds_11 : decode prog_1_method_25_code 11 = .ok (.iload_n 3, 1) := by decide +kernel
theorem d_X_kinds_12 : decode prog_1_method_25_code 12 = .ok (.invokevirtual 49, 3) := by decide +kernel
theorem d_X_kinds_15 : decode prog_1_method_25_code 15 = .ok (.ireturn, 1) := by decide +kernel
theorem d_X_kinds_27 : decode prog_1_method_25_code 27 = .ok (.aload_n 0, 1) := by decide +kernel
theorem d_X_kinds_28 : decode prog_1_method_25_code 28 = .ok (.ldc 48, 2) := by decide +kernel
theorem d_X_kinds_30 : decode prog_1_method_25_code 30 = .ok (.invokevirtual 49, 3) := by decide +kernel
theorem d_X_kinds_33 : decode prog_1_method_25_code 33 = .ok (.ireturn, 1) := by decide +kernel
set_option maxHeartbeats 1000000 in
set_option maxRecDepth 20000 in
theorem c_X_copy_m (l : Launch) (E : QE) (S : QM) (ρ φ : Nat → Int32) (hρ : S 0 = ρ) (hφ : S 14 = φ) (hwf : WF ρ) (j i : Nat) (β γ σ κ : Nat → Int32) (hj : j < 4) (hi : i < 4) (hβ : S (6 + j) = β) (hγ : S (6 + i) = γ) (hσ : S (10 + j) = σ) (hκ : S (10 + i) = κ) (x y z : Int32) (hb : β 1 = 0 ∨ γ 1 = 0) : qCI E l y_X_copy prog_1_method_36_code 6 .int 3 [.ref (eA E 0), .int (nI j), .int x, .int (nI i), .int y, .int z] S (-1000006) (qr S 14 (fnS φ 5)) := by
  refine qCI_of (by decide) (Nat.le_of_ble_eq_true rfl) (fun p e s m below meth c ls X hW hl => ?_)
  have hl : lv_has ls 6 [(0, .ref (eA E 0)), (1, .int (nI j)), (2, .int x), (3, .int (nI i)), (4, .int y), (5, .int z)] := hl
  have htl := hwf.tl
  have hwl := hwf.wl
  have hdl := hwf.dl
  refine lv_iload_n X.x X.b d_X_copy_0 rfl (lv_at hl 1 rfl) ?_
  refine lv_iconst (v := nI 0) X.x X.b d_X_copy_1 (by decide) ?_
  refine lv_iconst (v := nI 3) X.x X.b d_X_copy_2 (by decide) ?_
  refine q_csi X (c_X_within l E S (nI j) (nI 0) (nI 3)) hW ok_X_within mw_209 ⟨by decide, by decide⟩ (As := [.int (nI j), .int (nI 0), .int (nI 3)]) rfl rfl (Nat.le_of_ble_eq_true rfl) (lv := [(0, .ref (eA E 0)), (1, .int (nI j)), (2, .int x), (3, .int (nI i)), (4, .int y), (5, .int z)]) hl ⟨Nat.le_refl 0, Nat.le_refl 0⟩ d_X_copy_3 (fun H locs hW => ?_)
  refine lv_if_eq (tgt := 18) X.x X.b d_X_copy_6 (by decide) (fun c6 => ?_) (fun c6 => ?_)
  · have c6 := b2i_e c6
    have c6 := mt (inR_i (by omega) (by decide)).mpr c6
    omega
  · have c6 := b2i_n c6
    have c6 := (inR_i (by omega) (by decide)).mp c6
    refine lv_iload_n X.x X.b d_X_copy_9 rfl (lv_at hl 3 rfl) ?_
    refine lv_iconst (v := nI 0) X.x X.b d_X_copy_10 (by decide) ?_
    refine lv_iconst (v := nI 3) X.x X.b d_X_copy_11 (by decide) ?_
    refine q_csi X (c_X_within l E S (nI i) (nI 0) (nI 3)) hW ok_X_within mw_209 ⟨by decide, by decide⟩ (As := [.int (nI i), .int (nI 0), .int (nI 3)]) rfl rfl (Nat.le_of_ble_eq_true rfl) (lv := [(0, .ref (eA E 0)), (1, .int (nI j)), (2, .int x), (3, .int (nI i)), (4, .int y), (5, .int z)]) hl ⟨Nat.le_refl 0, Nat.le_refl 0⟩ d_X_copy_12 (fun H locs hW => ?_)
    refine lv_if_ne (tgt := 25) X.x X.b d_X_copy_15 (by decide) (fun c15 => ?_) (fun c15 => ?_)
    · have c15 := b2i_n c15
      have c15 := (inR_i (by omega) (by decide)).mp c15
      refine lv_aload_n X.x X.b d_X_copy_25 rfl (lv_at hl 0 rfl) ?_
      refine q_getr X hW qj3 rfl _ ds_X 5 (by decide) mw_188 rfl (c1 := 60) rfl d_X_copy_26 ?_
      refine lv_iload_n X.x X.b d_X_copy_29 rfl (lv_at hl 1 rfl) ?_
      refine g_ss X hW (show j < 4 by omega) d_X_copy_30 ?_
      refine g_geti X hW qj1 rfl _ (ds_s (j := j) (by omega)) 1 (by decide) mw_173 rfl (r0 := 6 + j) (p0 := 1) rfl (v := β 1) (by rw [hβ]) d_X_copy_31 ?_
      refine lv_if_eq (tgt := 49) X.x X.b d_X_copy_34 (by decide) (fun c34 => ?_) (fun c34 => ?_)
      · refine lv_aload_n X.x X.b d_X_copy_49 rfl (lv_at hl 0 rfl) ?_
        refine lv_ldc (v := (-1000006)) X.x X.b X.ow (X.ts _ mw_441) d_X_copy_50 ?_
        refine q_cvi X (c_X_told_5 l E S φ (by rw [hφ])) hW (q_recv X hW ds_X rfl) ok_X_told mw_213 ⟨by decide, by decide⟩ (As := [.int (-1000006)]) rfl rfl (Nat.le_of_ble_eq_true rfl) (lv := [(0, .ref (eA E 0)), (1, .int (nI j)), (2, .int x), (3, .int (nI i)), (4, .int y), (5, .int z)]) hl ⟨Nat.le_refl 0, Nat.le_refl 0⟩ d_X_copy_52 (fun H locs hW => ?_)
        have hW : qWH E (qr S 14 (fnS φ 5)) s H locs := hW
        exact q_zret X rfl hW ⟨rfl, rfl⟩ d_X_copy_55
      · refine lv_aload_n X.x X.b d_X_copy_37 rfl (lv_at hl 0 rfl) ?_
        refine q_getr X hW qj3 rfl _ ds_X 5 (by decide) mw_188 rfl (c1 := 60) rfl d_X_copy_38 ?_
        refine lv_iload_n X.x X.b d_X_copy_41 rfl (lv_at hl 3 rfl) ?_
        refine g_ss X hW (show i < 4 by omega) d_X_copy_42 ?_
        refine g_geti X hW qj1 rfl _ (ds_s (j := i) (by omega)) 1 (by decide) mw_173 rfl (r0 := 6 + i) (p0 := 1) rfl (v := γ 1) (by rw [hγ]) d_X_copy_43 ?_
        refine lv_if_ne (tgt := 56) X.x X.b d_X_copy_46 (by decide) (fun c46 => ?_) (fun c46 => ?_)
        · exact absurd hb (by rintro (q | q); exact c34 q; exact c46 q)
        · refine lv_aload_n X.x X.b d_X_copy_49 rfl (lv_at hl 0 rfl) ?_
          refine lv_ldc (v := (-1000006)) X.x X.b X.ow (X.ts _ mw_441) d_X_copy_50 ?_
          refine q_cvi X (c_X_told_5 l E S φ (by rw [hφ])) hW (q_recv X hW ds_X rfl) ok_X_told mw_213 ⟨by decide, by decide⟩ (As := [.int (-1000006)]) rfl rfl (Nat.le_of_ble_eq_true rfl) (lv := [(0, .ref (eA E 0)), (1, .int (nI j)), (2, .int x), (3, .int (nI i)), (4, .int y), (5, .int z)]) hl ⟨Nat.le_refl 0, Nat.le_refl 0⟩ d_X_copy_52 (fun H locs hW => ?_)
          have hW : qWH E (qr S 14 (fnS φ 5)) s H locs := hW
          exact q_zret X rfl hW ⟨rfl, rfl⟩ d_X_copy_55
    · have c15 := b2i_e c15
      have c15 := mt (inR_i (by omega) (by decide)).mpr c15
      omega
set_option maxHeartbeats 1000000 in
set_option maxRecDepth 20000 in
theorem c_X_copy_k (l : Launch) (E : QE) (S : QM) (ρ φ : Nat → Int32) (hρ : S 0 = ρ) (hφ : S 14 = φ) (hwf : WF ρ) (j i : Nat) (β γ σ κ : Nat → Int32) (hj : j < 4) (hi : i < 4) (hβ : S (6 + j) = β) (hγ : S (6 + i) = γ) (hσ : S (10 + j) = σ) (hκ : S (10 + i) = κ) (x y z : Int32) (hb : ¬ β 1 = 0) (hc : ¬ γ 1 = 0) (hd : ¬ β 1 = γ 1) : qCI E l y_X_copy prog_1_method_36_code 6 .int 3 [.ref (eA E 0), .int (nI j), .int x, .int (nI i), .int y, .int z] S (-1000003) (qr S 14 (fnS φ 2)) := by
  refine qCI_of (by decide) (Nat.le_of_ble_eq_true rfl) (fun p e s m below meth c ls X hW hl => ?_)
  have hl : lv_has ls 6 [(0, .ref (eA E 0)), (1, .int (nI j)), (2, .int x), (3, .int (nI i)), (4, .int y), (5, .int z)] := hl
  have htl := hwf.tl
  have hwl := hwf.wl
  have hdl := hwf.dl
  refine lv_iload_n X.x X.b d_X_copy_0 rfl (lv_at hl 1 rfl) ?_
  refine lv_iconst (v := nI 0) X.x X.b d_X_copy_1 (by decide) ?_
  refine lv_iconst (v := nI 3) X.x X.b d_X_copy_2 (by decide) ?_
  refine q_csi X (c_X_within l E S (nI j) (nI 0) (nI 3)) hW ok_X_within mw_209 ⟨by decide, by decide⟩ (As := [.int (nI j), .int (nI 0), .int (nI 3)]) rfl rfl (Nat.le_of_ble_eq_true rfl) (lv := [(0, .ref (eA E 0)), (1, .int (nI j)), (2, .int x), (3, .int (nI i)), (4, .int y), (5, .int z)]) hl ⟨Nat.le_refl 0, Nat.le_refl 0⟩ d_X_copy_3 (fun H locs hW => ?_)
  refine lv_if_eq (tgt := 18) X.x X.b d_X_copy_6 (by decide) (fun c6 => ?_) (fun c6 => ?_)
  · have c6 := b2i_e c6
    have c6 := mt (inR_i (by omega) (by decide)).mpr c6
    omega
  · have c6 := b2i_n c6
    have c6 := (inR_i (by omega) (by decide)).mp c6
    refine lv_iload_n X.x X.b d_X_copy_9 rfl (lv_at hl 3 rfl) ?_
    refine lv_iconst (v := nI 0) X.x X.b d_X_copy_10 (by decide) ?_
    refine lv_iconst (v := nI 3) X.x X.b d_X_copy_11 (by decide) ?_
    refine q_csi X (c_X_within l E S (nI i) (nI 0) (nI 3)) hW ok_X_within mw_209 ⟨by decide, by decide⟩ (As := [.int (nI i), .int (nI 0), .int (nI 3)]) rfl rfl (Nat.le_of_ble_eq_true rfl) (lv := [(0, .ref (eA E 0)), (1, .int (nI j)), (2, .int x), (3, .int (nI i)), (4, .int y), (5, .int z)]) hl ⟨Nat.le_refl 0, Nat.le_refl 0⟩ d_X_copy_12 (fun H locs hW => ?_)
    refine lv_if_ne (tgt := 25) X.x X.b d_X_copy_15 (by decide) (fun c15 => ?_) (fun c15 => ?_)
    · have c15 := b2i_n c15
      have c15 := (inR_i (by omega) (by decide)).mp c15
      refine lv_aload_n X.x X.b d_X_copy_25 rfl (lv_at hl 0 rfl) ?_
      refine q_getr X hW qj3 rfl _ ds_X 5 (by decide) mw_188 rfl (c1 := 60) rfl d_X_copy_26 ?_
      refine lv_iload_n X.x X.b d_X_copy_29 rfl (lv_at hl 1 rfl) ?_
      refine g_ss X hW (show j < 4 by omega) d_X_copy_30 ?_
      refine g_geti X hW qj1 rfl _ (ds_s (j := j) (by omega)) 1 (by decide) mw_173 rfl (r0 := 6 + j) (p0 := 1) rfl (v := β 1) (by rw [hβ]) d_X_copy_31 ?_
      refine lv_if_eq (tgt := 49) X.x X.b d_X_copy_34 (by decide) (fun c34 => ?_) (fun c34 => ?_)
      · exact absurd c34 hb
      · refine lv_aload_n X.x X.b d_X_copy_37 rfl (lv_at hl 0 rfl) ?_
        refine q_getr X hW qj3 rfl _ ds_X 5 (by decide) mw_188 rfl (c1 := 60) rfl d_X_copy_38 ?_
        refine lv_iload_n X.x X.b d_X_copy_41 rfl (lv_at hl 3 rfl) ?_
        refine g_ss X hW (show i < 4 by omega) d_X_copy_42 ?_
        refine g_geti X hW qj1 rfl _ (ds_s (j := i) (by omega)) 1 (by decide) mw_173 rfl (r0 := 6 + i) (p0 := 1) rfl (v := γ 1) (by rw [hγ]) d_X_copy_43 ?_
        refine lv_if_ne (tgt := 56) X.x X.b d_X_copy_46 (by decide) (fun c46 => ?_) (fun c46 => ?_)
        · refine lv_aload_n X.x X.b d_X_copy_56 rfl (lv_at hl 0 rfl) ?_
          refine q_getr X hW qj3 rfl _ ds_X 5 (by decide) mw_188 rfl (c1 := 60) rfl d_X_copy_57 ?_
          refine lv_iload_n X.x X.b d_X_copy_60 rfl (lv_at hl 1 rfl) ?_
          refine g_ss X hW (show j < 4 by omega) d_X_copy_61 ?_
          refine g_geti X hW qj1 rfl _ (ds_s (j := j) (by omega)) 1 (by decide) mw_173 rfl (r0 := 6 + j) (p0 := 1) rfl (v := β 1) (by rw [hβ]) d_X_copy_62 ?_
          refine lv_aload_n X.x X.b d_X_copy_65 rfl (lv_at hl 0 rfl) ?_
          refine q_getr X hW qj3 rfl _ ds_X 5 (by decide) mw_188 rfl (c1 := 60) rfl d_X_copy_66 ?_
          refine lv_iload_n X.x X.b d_X_copy_69 rfl (lv_at hl 3 rfl) ?_
          refine g_ss X hW (show i < 4 by omega) d_X_copy_70 ?_
          refine g_geti X hW qj1 rfl _ (ds_s (j := i) (by omega)) 1 (by decide) mw_173 rfl (r0 := 6 + i) (p0 := 1) rfl (v := γ 1) (by rw [hγ]) d_X_copy_71 ?_
          refine lv_icmp_eq (tgt := 84) X.x X.b d_X_copy_74 (by decide) (fun c74 => ?_) (fun c74 => ?_)
          · exact absurd c74 hd
          · refine lv_aload_n X.x X.b d_X_copy_77 rfl (lv_at hl 0 rfl) ?_
            refine lv_ldc (v := (-1000003)) X.x X.b X.ow (X.ts _ mw_611) d_X_copy_78 ?_
            refine q_cvi X (c_X_told_2 l E S φ (by rw [hφ])) hW (q_recv X hW ds_X rfl) ok_X_told mw_213 ⟨by decide, by decide⟩ (As := [.int (-1000003)]) rfl rfl (Nat.le_of_ble_eq_true rfl) (lv := [(0, .ref (eA E 0)), (1, .int (nI j)), (2, .int x), (3, .int (nI i)), (4, .int y), (5, .int z)]) hl ⟨Nat.le_refl 0, Nat.le_refl 0⟩ d_X_copy_80 (fun H locs hW => ?_)
            have hW : qWH E (qr S 14 (fnS φ 2)) s H locs := hW
            exact q_zret X rfl hW ⟨rfl, rfl⟩ d_X_copy_83
        · exact absurd c46 hc
    · have c15 := b2i_e c15
      have c15 := mt (inR_i (by omega) (by decide)).mpr c15
      omega
set_option maxHeartbeats 1000000 in
set_option maxRecDepth 20000 in
theorem c_X_copy_s (l : Launch) (E : QE) (S : QM) (ρ φ : Nat → Int32) (hρ : S 0 = ρ) (hφ : S 14 = φ) (hwf : WF ρ) (j i : Nat) (β γ σ κ : Nat → Int32) (hj : j < 4) (hi : i < 4) (hβ : S (6 + j) = β) (hγ : S (6 + i) = γ) (hσ : S (10 + j) = σ) (hκ : S (10 + i) = κ) (x y z : Int32) (hb : ¬ β 1 = 0) (hc : ¬ γ 1 = 0) (hd : β 1 = γ 1) (he : ¬ (hasS x z (β 2) ∧ hasS y z (γ 2))) : qCI E l y_X_copy prog_1_method_36_code 6 .int 3 [.ref (eA E 0), .int (nI j), .int x, .int (nI i), .int y, .int z] S (-1000001) (qr S 14 (fnS φ 0)) := by
  refine qCI_of (by decide) (Nat.le_of_ble_eq_true rfl) (fun p e s m below meth c ls X hW hl => ?_)
  have hl : lv_has ls 6 [(0, .ref (eA E 0)), (1, .int (nI j)), (2, .int x), (3, .int (nI i)), (4, .int y), (5, .int z)] := hl
  have htl := hwf.tl
  have hwl := hwf.wl
  have hdl := hwf.dl
  refine lv_iload_n X.x X.b d_X_copy_0 rfl (lv_at hl 1 rfl) ?_
  refine lv_iconst (v := nI 0) X.x X.b d_X_copy_1 (by decide) ?_
  refine lv_iconst (v := nI 3) X.x X.b d_X_copy_2 (by decide) ?_
  refine q_csi X (c_X_within l E S (nI j) (nI 0) (nI 3)) hW ok_X_within mw_209 ⟨by decide, by decide⟩ (As := [.int (nI j), .int (nI 0), .int (nI 3)]) rfl rfl (Nat.le_of_ble_eq_true rfl) (lv := [(0, .ref (eA E 0)), (1, .int (nI j)), (2, .int x), (3, .int (nI i)), (4, .int y), (5, .int z)]) hl ⟨Nat.le_refl 0, Nat.le_refl 0⟩ d_X_copy_3 (fun H locs hW => ?_)
  refine lv_if_eq (tgt := 18) X.x X.b d_X_copy_6 (by decide) (fun c6 => ?_) (fun c6 => ?_)
  · have c6 := b2i_e c6
    have c6 := mt (inR_i (by omega) (by decide)).mpr c6
    omega
  · have c6 := b2i_n c6
    have c6 := (inR_i (by omega) (by decide)).mp c6
    refine lv_iload_n X.x X.b d_X_copy_9 rfl (lv_at hl 3 rfl) ?_
    refine lv_iconst (v := nI 0) X.x X.b d_X_copy_10 (by decide) ?_
    refine lv_iconst (v := nI 3) X.x X.b d_X_copy_11 (by decide) ?_
    refine q_csi X (c_X_within l E S (nI i) (nI 0) (nI 3)) hW ok_X_within mw_209 ⟨by decide, by decide⟩ (As := [.int (nI i), .int (nI 0), .int (nI 3)]) rfl rfl (Nat.le_of_ble_eq_true rfl) (lv := [(0, .ref (eA E 0)), (1, .int (nI j)), (2, .int x), (3, .int (nI i)), (4, .int y), (5, .int z)]) hl ⟨Nat.le_refl 0, Nat.le_refl 0⟩ d_X_copy_12 (fun H locs hW => ?_)
    refine lv_if_ne (tgt := 25) X.x X.b d_X_copy_15 (by decide) (fun c15 => ?_) (fun c15 => ?_)
    · have c15 := b2i_n c15
      have c15 := (inR_i (by omega) (by decide)).mp c15
      refine lv_aload_n X.x X.b d_X_copy_25 rfl (lv_at hl 0 rfl) ?_
      refine q_getr X hW qj3 rfl _ ds_X 5 (by decide) mw_188 rfl (c1 := 60) rfl d_X_copy_26 ?_
      refine lv_iload_n X.x X.b d_X_copy_29 rfl (lv_at hl 1 rfl) ?_
      refine g_ss X hW (show j < 4 by omega) d_X_copy_30 ?_
      refine g_geti X hW qj1 rfl _ (ds_s (j := j) (by omega)) 1 (by decide) mw_173 rfl (r0 := 6 + j) (p0 := 1) rfl (v := β 1) (by rw [hβ]) d_X_copy_31 ?_
      refine lv_if_eq (tgt := 49) X.x X.b d_X_copy_34 (by decide) (fun c34 => ?_) (fun c34 => ?_)
      · exact absurd c34 hb
      · refine lv_aload_n X.x X.b d_X_copy_37 rfl (lv_at hl 0 rfl) ?_
        refine q_getr X hW qj3 rfl _ ds_X 5 (by decide) mw_188 rfl (c1 := 60) rfl d_X_copy_38 ?_
        refine lv_iload_n X.x X.b d_X_copy_41 rfl (lv_at hl 3 rfl) ?_
        refine g_ss X hW (show i < 4 by omega) d_X_copy_42 ?_
        refine g_geti X hW qj1 rfl _ (ds_s (j := i) (by omega)) 1 (by decide) mw_173 rfl (r0 := 6 + i) (p0 := 1) rfl (v := γ 1) (by rw [hγ]) d_X_copy_43 ?_
        refine lv_if_ne (tgt := 56) X.x X.b d_X_copy_46 (by decide) (fun c46 => ?_) (fun c46 => ?_)
        · refine lv_aload_n X.x X.b d_X_copy_56 rfl (lv_at hl 0 rfl) ?_
          refine q_getr X hW qj3 rfl _ ds_X 5 (by decide) mw_188 rfl (c1 := 60) rfl d_X_copy_57 ?_
          refine lv_iload_n X.x X.b d_X_copy_60 rfl (lv_at hl 1 rfl) ?_
          refine g_ss X hW (show j < 4 by omega) d_X_copy_61 ?_
          refine g_geti X hW qj1 rfl _ (ds_s (j := j) (by omega)) 1 (by decide) mw_173 rfl (r0 := 6 + j) (p0 := 1) rfl (v := β 1) (by rw [hβ]) d_X_copy_62 ?_
          refine lv_aload_n X.x X.b d_X_copy_65 rfl (lv_at hl 0 rfl) ?_
          refine q_getr X hW qj3 rfl _ ds_X 5 (by decide) mw_188 rfl (c1 := 60) rfl d_X_copy_66 ?_
          refine lv_iload_n X.x X.b d_X_copy_69 rfl (lv_at hl 3 rfl) ?_
          refine g_ss X hW (show i < 4 by omega) d_X_copy_70 ?_
          refine g_geti X hW qj1 rfl _ (ds_s (j := i) (by omega)) 1 (by decide) mw_173 rfl (r0 := 6 + i) (p0 := 1) rfl (v := γ 1) (by rw [hγ]) d_X_copy_71 ?_
          refine lv_icmp_eq (tgt := 84) X.x X.b d_X_copy_74 (by decide) (fun c74 => ?_) (fun c74 => ?_)
          · refine lv_aload_n X.x X.b d_X_copy_84 rfl (lv_at hl 0 rfl) ?_
            refine q_getr X hW qj3 rfl _ ds_X 5 (by decide) mw_188 rfl (c1 := 60) rfl d_X_copy_85 ?_
            refine lv_iload_n X.x X.b d_X_copy_88 rfl (lv_at hl 1 rfl) ?_
            refine g_ss X hW (show j < 4 by omega) d_X_copy_89 ?_
            refine lv_iload_n X.x X.b d_X_copy_90 rfl (lv_at hl 2 rfl) ?_
            refine lv_iload X.x X.b d_X_copy_91 (lv_at hl 5 rfl) ?_
            refine q_cvi X (c_Sh_has l E S j β σ (by omega) (by rw [hβ]) (by rw [hσ]) x z) hW (q_recv X hW (ds_s (j := j) (by omega)) rfl) ok_Sh_has mw_634 ⟨by decide, by decide⟩ (As := [.int x, .int z]) rfl rfl (Nat.le_of_ble_eq_true rfl) (lv := [(0, .ref (eA E 0)), (1, .int (nI j)), (2, .int x), (3, .int (nI i)), (4, .int y), (5, .int z)]) hl ⟨Nat.le_refl 0, Nat.le_refl 0⟩ d_X_copy_93 (fun H locs hW => ?_)
            refine lv_if_eq (tgt := 115) X.x X.b d_X_copy_96 (by decide) (fun c96 => ?_) (fun c96 => ?_)
            · have c96 := b2i_e c96
              refine lv_aload_n X.x X.b d_X_copy_115 rfl (lv_at hl 0 rfl) ?_
              refine lv_ldc (v := (-1000001)) X.x X.b X.ow (X.ts _ mw_212) d_X_copy_116 ?_
              refine q_cvi X (c_X_told_0 l E S φ (by rw [hφ])) hW (q_recv X hW ds_X rfl) ok_X_told mw_213 ⟨by decide, by decide⟩ (As := [.int (-1000001)]) rfl rfl (Nat.le_of_ble_eq_true rfl) (lv := [(0, .ref (eA E 0)), (1, .int (nI j)), (2, .int x), (3, .int (nI i)), (4, .int y), (5, .int z)]) hl ⟨Nat.le_refl 0, Nat.le_refl 0⟩ d_X_copy_118 (fun H locs hW => ?_)
              have hW : qWH E (qr S 14 (fnS φ 0)) s H locs := hW
              exact q_zret X rfl hW ⟨rfl, rfl⟩ d_X_copy_121
            · have c96 := b2i_n c96
              refine lv_aload_n X.x X.b d_X_copy_99 rfl (lv_at hl 0 rfl) ?_
              refine q_getr X hW qj3 rfl _ ds_X 5 (by decide) mw_188 rfl (c1 := 60) rfl d_X_copy_100 ?_
              refine lv_iload_n X.x X.b d_X_copy_103 rfl (lv_at hl 3 rfl) ?_
              refine g_ss X hW (show i < 4 by omega) d_X_copy_104 ?_
              refine lv_iload X.x X.b d_X_copy_105 (lv_at hl 4 rfl) ?_
              refine lv_iload X.x X.b d_X_copy_107 (lv_at hl 5 rfl) ?_
              refine q_cvi X (c_Sh_has l E S i γ κ (by omega) (by rw [hγ]) (by rw [hκ]) y z) hW (q_recv X hW (ds_s (j := i) (by omega)) rfl) ok_Sh_has mw_634 ⟨by decide, by decide⟩ (As := [.int y, .int z]) rfl rfl (Nat.le_of_ble_eq_true rfl) (lv := [(0, .ref (eA E 0)), (1, .int (nI j)), (2, .int x), (3, .int (nI i)), (4, .int y), (5, .int z)]) hl ⟨Nat.le_refl 0, Nat.le_refl 0⟩ d_X_copy_109 (fun H locs hW => ?_)
              refine lv_if_ne (tgt := 122) X.x X.b d_X_copy_112 (by decide) (fun c112 => ?_) (fun c112 => ?_)
              · have c112 := b2i_n c112
                exact absurd ⟨c96, c112⟩ he
              · have c112 := b2i_e c112
                refine lv_aload_n X.x X.b d_X_copy_115 rfl (lv_at hl 0 rfl) ?_
                refine lv_ldc (v := (-1000001)) X.x X.b X.ow (X.ts _ mw_212) d_X_copy_116 ?_
                refine q_cvi X (c_X_told_0 l E S φ (by rw [hφ])) hW (q_recv X hW ds_X rfl) ok_X_told mw_213 ⟨by decide, by decide⟩ (As := [.int (-1000001)]) rfl rfl (Nat.le_of_ble_eq_true rfl) (lv := [(0, .ref (eA E 0)), (1, .int (nI j)), (2, .int x), (3, .int (nI i)), (4, .int y), (5, .int z)]) hl ⟨Nat.le_refl 0, Nat.le_refl 0⟩ d_X_copy_118 (fun H locs hW => ?_)
                have hW : qWH E (qr S 14 (fnS φ 0)) s H locs := hW
                exact q_zret X rfl hW ⟨rfl, rfl⟩ d_X_copy_121
          · exact absurd hd c74
        · exact absurd c46 hc
    · have c15 := b2i_e c15
      have c15 := mt (inR_i (by omega) (by decide)).mpr c15
      omega
set_option maxHeartbeats 1000000 in
set_option maxRecDepth 20000 in
theorem c_X_copy_g (l : Launch) (E : QE) (S : QM) (ρ φ : Nat → Int32) (hρ : S 0 = ρ) (hφ : S 14 = φ) (hwf : WF ρ) (j i : Nat) (β γ σ κ : Nat → Int32) (hj : j < 4) (hi : i < 4) (hβ : S (6 + j) = β) (hγ : S (6 + i) = γ) (hσ : S (10 + j) = σ) (hκ : S (10 + i) = κ) (f q n sz tz : Nat) (hb : ¬ β 1 = 0) (hc : ¬ γ 1 = 0) (hd : β 1 = γ 1) (hs2 : β 2 = nI sz) (ht2 : γ 2 = nI tz) (hsz : sz ≤ 40) (htz : tz ≤ 40) (h4 : f + n ≤ sz) (h5 : q + n ≤ tz) : qCI E l y_X_copy prog_1_method_36_code 6 .int 3 [.ref (eA E 0), .int (nI j), .int (nI f), .int (nI i), .int (nI q), .int (nI n)] S (nI n) (qr S (10 + i) (cpy σ f κ q n)) := by
  refine qCI_of (by decide) (Nat.le_of_ble_eq_true rfl) (fun p e s m below meth c ls X hW hl => ?_)
  have hl : lv_has ls 6 [(0, .ref (eA E 0)), (1, .int (nI j)), (2, .int (nI f)), (3, .int (nI i)), (4, .int (nI q)), (5, .int (nI n))] := hl
  have htl := hwf.tl
  have hwl := hwf.wl
  have hdl := hwf.dl
  refine lv_iload_n X.x X.b d_X_copy_0 rfl (lv_at hl 1 rfl) ?_
  refine lv_iconst (v := nI 0) X.x X.b d_X_copy_1 (by decide) ?_
  refine lv_iconst (v := nI 3) X.x X.b d_X_copy_2 (by decide) ?_
  refine q_csi X (c_X_within l E S (nI j) (nI 0) (nI 3)) hW ok_X_within mw_209 ⟨by decide, by decide⟩ (As := [.int (nI j), .int (nI 0), .int (nI 3)]) rfl rfl (Nat.le_of_ble_eq_true rfl) (lv := [(0, .ref (eA E 0)), (1, .int (nI j)), (2, .int (nI f)), (3, .int (nI i)), (4, .int (nI q)), (5, .int (nI n))]) hl ⟨Nat.le_refl 0, Nat.le_refl 0⟩ d_X_copy_3 (fun H locs hW => ?_)
  refine lv_if_eq (tgt := 18) X.x X.b d_X_copy_6 (by decide) (fun c6 => ?_) (fun c6 => ?_)
  · have c6 := b2i_e c6
    have c6 := mt (inR_i (by omega) (by decide)).mpr c6
    omega
  · have c6 := b2i_n c6
    have c6 := (inR_i (by omega) (by decide)).mp c6
    refine lv_iload_n X.x X.b d_X_copy_9 rfl (lv_at hl 3 rfl) ?_
    refine lv_iconst (v := nI 0) X.x X.b d_X_copy_10 (by decide) ?_
    refine lv_iconst (v := nI 3) X.x X.b d_X_copy_11 (by decide) ?_
    refine q_csi X (c_X_within l E S (nI i) (nI 0) (nI 3)) hW ok_X_within mw_209 ⟨by decide, by decide⟩ (As := [.int (nI i), .int (nI 0), .int (nI 3)]) rfl rfl (Nat.le_of_ble_eq_true rfl) (lv := [(0, .ref (eA E 0)), (1, .int (nI j)), (2, .int (nI f)), (3, .int (nI i)), (4, .int (nI q)), (5, .int (nI n))]) hl ⟨Nat.le_refl 0, Nat.le_refl 0⟩ d_X_copy_12 (fun H locs hW => ?_)
    refine lv_if_ne (tgt := 25) X.x X.b d_X_copy_15 (by decide) (fun c15 => ?_) (fun c15 => ?_)
    · have c15 := b2i_n c15
      have c15 := (inR_i (by omega) (by decide)).mp c15
      refine lv_aload_n X.x X.b d_X_copy_25 rfl (lv_at hl 0 rfl) ?_
      refine q_getr X hW qj3 rfl _ ds_X 5 (by decide) mw_188 rfl (c1 := 60) rfl d_X_copy_26 ?_
      refine lv_iload_n X.x X.b d_X_copy_29 rfl (lv_at hl 1 rfl) ?_
      refine g_ss X hW (show j < 4 by omega) d_X_copy_30 ?_
      refine g_geti X hW qj1 rfl _ (ds_s (j := j) (by omega)) 1 (by decide) mw_173 rfl (r0 := 6 + j) (p0 := 1) rfl (v := β 1) (by rw [hβ]) d_X_copy_31 ?_
      refine lv_if_eq (tgt := 49) X.x X.b d_X_copy_34 (by decide) (fun c34 => ?_) (fun c34 => ?_)
      · exact absurd c34 hb
      · refine lv_aload_n X.x X.b d_X_copy_37 rfl (lv_at hl 0 rfl) ?_
        refine q_getr X hW qj3 rfl _ ds_X 5 (by decide) mw_188 rfl (c1 := 60) rfl d_X_copy_38 ?_
        refine lv_iload_n X.x X.b d_X_copy_41 rfl (lv_at hl 3 rfl) ?_
        refine g_ss X hW (show i < 4 by omega) d_X_copy_42 ?_
        refine g_geti X hW qj1 rfl _ (ds_s (j := i) (by omega)) 1 (by decide) mw_173 rfl (r0 := 6 + i) (p0 := 1) rfl (v := γ 1) (by rw [hγ]) d_X_copy_43 ?_
        refine lv_if_ne (tgt := 56) X.x X.b d_X_copy_46 (by decide) (fun c46 => ?_) (fun c46 => ?_)
        · refine lv_aload_n X.x X.b d_X_copy_56 rfl (lv_at hl 0 rfl) ?_
          refine q_getr X hW qj3 rfl _ ds_X 5 (by decide) mw_188 rfl (c1 := 60) rfl d_X_copy_57 ?_
          refine lv_iload_n X.x X.b d_X_copy_60 rfl (lv_at hl 1 rfl) ?_
          refine g_ss X hW (show j < 4 by omega) d_X_copy_61 ?_
          refine g_geti X hW qj1 rfl _ (ds_s (j := j) (by omega)) 1 (by decide) mw_173 rfl (r0 := 6 + j) (p0 := 1) rfl (v := β 1) (by rw [hβ]) d_X_copy_62 ?_
          refine lv_aload_n X.x X.b d_X_copy_65 rfl (lv_at hl 0 rfl) ?_
          refine q_getr X hW qj3 rfl _ ds_X 5 (by decide) mw_188 rfl (c1 := 60) rfl d_X_copy_66 ?_
          refine lv_iload_n X.x X.b d_X_copy_69 rfl (lv_at hl 3 rfl) ?_
          refine g_ss X hW (show i < 4 by omega) d_X_copy_70 ?_
          refine g_geti X hW qj1 rfl _ (ds_s (j := i) (by omega)) 1 (by decide) mw_173 rfl (r0 := 6 + i) (p0 := 1) rfl (v := γ 1) (by rw [hγ]) d_X_copy_71 ?_
          refine lv_icmp_eq (tgt := 84) X.x X.b d_X_copy_74 (by decide) (fun c74 => ?_) (fun c74 => ?_)
          · refine lv_aload_n X.x X.b d_X_copy_84 rfl (lv_at hl 0 rfl) ?_
            refine q_getr X hW qj3 rfl _ ds_X 5 (by decide) mw_188 rfl (c1 := 60) rfl d_X_copy_85 ?_
            refine lv_iload_n X.x X.b d_X_copy_88 rfl (lv_at hl 1 rfl) ?_
            refine g_ss X hW (show j < 4 by omega) d_X_copy_89 ?_
            refine lv_iload_n X.x X.b d_X_copy_90 rfl (lv_at hl 2 rfl) ?_
            refine lv_iload X.x X.b d_X_copy_91 (lv_at hl 5 rfl) ?_
            refine q_cvi X (c_Sh_has l E S j β σ (by omega) (by rw [hβ]) (by rw [hσ]) (nI f) (nI n)) hW (q_recv X hW (ds_s (j := j) (by omega)) rfl) ok_Sh_has mw_634 ⟨by decide, by decide⟩ (As := [.int (nI f), .int (nI n)]) rfl rfl (Nat.le_of_ble_eq_true rfl) (lv := [(0, .ref (eA E 0)), (1, .int (nI j)), (2, .int (nI f)), (3, .int (nI i)), (4, .int (nI q)), (5, .int (nI n))]) hl ⟨Nat.le_refl 0, Nat.le_refl 0⟩ d_X_copy_93 (fun H locs hW => ?_)
            refine lv_if_eq (tgt := 115) X.x X.b d_X_copy_96 (by decide) (fun c96 => ?_) (fun c96 => ?_)
            · have c96 := b2i_e c96
              exact absurd (has_i (by omega) hs2 (by omega)) c96
            · have c96 := b2i_n c96
              refine lv_aload_n X.x X.b d_X_copy_99 rfl (lv_at hl 0 rfl) ?_
              refine q_getr X hW qj3 rfl _ ds_X 5 (by decide) mw_188 rfl (c1 := 60) rfl d_X_copy_100 ?_
              refine lv_iload_n X.x X.b d_X_copy_103 rfl (lv_at hl 3 rfl) ?_
              refine g_ss X hW (show i < 4 by omega) d_X_copy_104 ?_
              refine lv_iload X.x X.b d_X_copy_105 (lv_at hl 4 rfl) ?_
              refine lv_iload X.x X.b d_X_copy_107 (lv_at hl 5 rfl) ?_
              refine q_cvi X (c_Sh_has l E S i γ κ (by omega) (by rw [hγ]) (by rw [hκ]) (nI q) (nI n)) hW (q_recv X hW (ds_s (j := i) (by omega)) rfl) ok_Sh_has mw_634 ⟨by decide, by decide⟩ (As := [.int (nI q), .int (nI n)]) rfl rfl (Nat.le_of_ble_eq_true rfl) (lv := [(0, .ref (eA E 0)), (1, .int (nI j)), (2, .int (nI f)), (3, .int (nI i)), (4, .int (nI q)), (5, .int (nI n))]) hl ⟨Nat.le_refl 0, Nat.le_refl 0⟩ d_X_copy_109 (fun H locs hW => ?_)
              refine lv_if_ne (tgt := 122) X.x X.b d_X_copy_112 (by decide) (fun c112 => ?_) (fun c112 => ?_)
              · have c112 := b2i_n c112
                refine lv_aload_n X.x X.b d_X_copy_122 rfl (lv_at hl 0 rfl) ?_
                refine q_getr X hW qj3 rfl _ ds_X 5 (by decide) mw_188 rfl (c1 := 60) rfl d_X_copy_123 ?_
                refine lv_iload_n X.x X.b d_X_copy_126 rfl (lv_at hl 1 rfl) ?_
                refine g_ss X hW (show j < 4 by omega) d_X_copy_127 ?_
                refine q_getr X hW qj1 rfl _ (ds_s (j := j) (by omega)) 0 (by decide) mw_171 rfl (c1 := 65 + j) rfl d_X_copy_128 ?_
                refine lv_iload_n X.x X.b d_X_copy_131 rfl (lv_at hl 2 rfl) ?_
                refine lv_aload_n X.x X.b d_X_copy_132 rfl (lv_at hl 0 rfl) ?_
                refine q_getr X hW qj3 rfl _ ds_X 5 (by decide) mw_188 rfl (c1 := 60) rfl d_X_copy_133 ?_
                refine lv_iload_n X.x X.b d_X_copy_136 rfl (lv_at hl 3 rfl) ?_
                refine g_ss X hW (show i < 4 by omega) d_X_copy_137 ?_
                refine q_getr X hW qj1 rfl _ (ds_s (j := i) (by omega)) 0 (by decide) mw_171 rfl (c1 := 65 + i) rfl d_X_copy_138 ?_
                refine lv_iload X.x X.b d_X_copy_141 (lv_at hl 4 rfl) ?_
                refine lv_iload X.x X.b d_X_copy_143 (lv_at hl 5 rfl) ?_
                refine g_copy X hl.1 hW mw_638 mw_377 mw_376 mw_74 (ds_n (j := j) (by omega)) (ds_n (j := i) (by omega)) (sp := f) (dp := q) (n := n) (by omega) (by omega) (by omega) (by omega) (by omega) (by decide) (Nat.le_of_ble_eq_true rfl) d_X_copy_145 (fun H locs hW => ?_)
                obtain ⟨r145, er145⟩ : ∃ z, z = cpy σ f κ q n := ⟨_, rfl⟩
                have hW : qWH E (qr S (10 + i) r145) s H locs := by rw [er145]; have h := hW; rw [qcp_qr] at h; (try rw [hσ] at h); (try rw [hκ] at h); (try simp only [Nat.zero_add] at h); exact h
                refine lv_iload X.x X.b d_X_copy_148 (lv_at hl 5 rfl) ?_
                exact q_zret X rfl hW ⟨rfl, by rw [er145]⟩ d_X_copy_150
              · have c112 := b2i_e c112
                exact absurd (has_i (by omega) ht2 (by omega)) c112
          · exact absurd hd c74
        · exact absurd c46 hc
    · have c15 := b2i_e c15
      have c15 := mt (inR_i (by omega) (by decide)).mpr c15
      omega
set_option maxHeartbeats 1000000 in
set_option maxRecDepth 20000 in
theorem c_X_copy_b (l : Launch) (E : QE) (S : QM) (ρ φ : Nat → Int32) (hρ : S 0 = ρ) (hφ : S 14 = φ) (hwf : WF ρ) (x y z u v : Int32) (h : ¬ (inR 0 3 x ∧ inR 0 3 z)) : qCI E l y_X_copy prog_1_method_36_code 6 .int 3 [.ref (eA E 0), .int x, .int y, .int z, .int u, .int v] S (-1000001) (qr S 14 (fnS φ 0)) := by
  refine qCI_of (by decide) (Nat.le_of_ble_eq_true rfl) (fun p e s m below meth c ls X hW hl => ?_)
  have hl : lv_has ls 6 [(0, .ref (eA E 0)), (1, .int x), (2, .int y), (3, .int z), (4, .int u), (5, .int v)] := hl
  have htl := hwf.tl
  have hwl := hwf.wl
  have hdl := hwf.dl
  refine lv_iload_n X.x X.b d_X_copy_0 rfl (lv_at hl 1 rfl) ?_
  refine lv_iconst (v := nI 0) X.x X.b d_X_copy_1 (by decide) ?_
  refine lv_iconst (v := nI 3) X.x X.b d_X_copy_2 (by decide) ?_
  refine q_csi X (c_X_within l E S x (nI 0) (nI 3)) hW ok_X_within mw_209 ⟨by decide, by decide⟩ (As := [.int x, .int (nI 0), .int (nI 3)]) rfl rfl (Nat.le_of_ble_eq_true rfl) (lv := [(0, .ref (eA E 0)), (1, .int x), (2, .int y), (3, .int z), (4, .int u), (5, .int v)]) hl ⟨Nat.le_refl 0, Nat.le_refl 0⟩ d_X_copy_3 (fun H locs hW => ?_)
  refine lv_if_eq (tgt := 18) X.x X.b d_X_copy_6 (by decide) (fun c6 => ?_) (fun c6 => ?_)
  · have c6 := b2i_e c6
    refine lv_aload_n X.x X.b d_X_copy_18 rfl (lv_at hl 0 rfl) ?_
    refine lv_ldc (v := (-1000001)) X.x X.b X.ow (X.ts _ mw_212) d_X_copy_19 ?_
    refine q_cvi X (c_X_told_0 l E S φ (by rw [hφ])) hW (q_recv X hW ds_X rfl) ok_X_told mw_213 ⟨by decide, by decide⟩ (As := [.int (-1000001)]) rfl rfl (Nat.le_of_ble_eq_true rfl) (lv := [(0, .ref (eA E 0)), (1, .int x), (2, .int y), (3, .int z), (4, .int u), (5, .int v)]) hl ⟨Nat.le_refl 0, Nat.le_refl 0⟩ d_X_copy_21 (fun H locs hW => ?_)
    have hW : qWH E (qr S 14 (fnS φ 0)) s H locs := hW
    exact q_zret X rfl hW ⟨rfl, rfl⟩ d_X_copy_24
  · have c6 := b2i_n c6
    refine lv_iload_n X.x X.b d_X_copy_9 rfl (lv_at hl 3 rfl) ?_
    refine lv_iconst (v := nI 0) X.x X.b d_X_copy_10 (by decide) ?_
    refine lv_iconst (v := nI 3) X.x X.b d_X_copy_11 (by decide) ?_
    refine q_csi X (c_X_within l E S z (nI 0) (nI 3)) hW ok_X_within mw_209 ⟨by decide, by decide⟩ (As := [.int z, .int (nI 0), .int (nI 3)]) rfl rfl (Nat.le_of_ble_eq_true rfl) (lv := [(0, .ref (eA E 0)), (1, .int x), (2, .int y), (3, .int z), (4, .int u), (5, .int v)]) hl ⟨Nat.le_refl 0, Nat.le_refl 0⟩ d_X_copy_12 (fun H locs hW => ?_)
    refine lv_if_ne (tgt := 25) X.x X.b d_X_copy_15 (by decide) (fun c15 => ?_) (fun c15 => ?_)
    · have c15 := b2i_n c15
      exact absurd ⟨c6, c15⟩ h
    · have c15 := b2i_e c15
      refine lv_aload_n X.x X.b d_X_copy_18 rfl (lv_at hl 0 rfl) ?_
      refine lv_ldc (v := (-1000001)) X.x X.b X.ow (X.ts _ mw_212) d_X_copy_19 ?_
      refine q_cvi X (c_X_told_0 l E S φ (by rw [hφ])) hW (q_recv X hW ds_X rfl) ok_X_told mw_213 ⟨by decide, by decide⟩ (As := [.int (-1000001)]) rfl rfl (Nat.le_of_ble_eq_true rfl) (lv := [(0, .ref (eA E 0)), (1, .int x), (2, .int y), (3, .int z), (4, .int u), (5, .int v)]) hl ⟨Nat.le_refl 0, Nat.le_refl 0⟩ d_X_copy_21 (fun H locs hW => ?_)
      have hW : qWH E (qr S 14 (fnS φ 0)) s H locs := hW
      exact q_zret X rfl hW ⟨rfl, rfl⟩ d_X_copy_24
set_option maxHeartbeats 1000000 in
set_option maxRecDepth 20000 in
theorem c_X_load_la (l : Launch) (E : QE) (S : QM) (ρ φ : Nat → Int32) (hρ : S 0 = ρ) (hφ : S 14 = φ) (hwf : WF ρ) (x : Int32) (h : ¬ inR 0 3 x) : qCI E l y_X_load prog_1_method_37_code 5 .int 3 [.ref (eA E 0), .int x] S (-1000001) (qr S 14 (fnS φ 0)) := by
  refine qCI_of (by decide) (Nat.le_of_ble_eq_true rfl) (fun p e s m below meth c ls X hW hl => ?_)
  have hl : lv_has ls 5 [(0, .ref (eA E 0)), (1, .int x)] := hl
  have htl := hwf.tl
  have hwl := hwf.wl
  have hdl := hwf.dl
  refine lv_aload_n X.x X.b d_X_load_0 rfl (lv_at hl 0 rfl) ?_
  refine lv_iload_n X.x X.b d_X_load_1 rfl (lv_at hl 1 rfl) ?_
  refine q_cvi X (c_X_lackOf_a l E S x h) hW (q_recv X hW ds_X rfl) ok_X_lackOf mw_437 ⟨by decide, by decide⟩ (As := [.int x]) rfl rfl (Nat.le_of_ble_eq_true rfl) (lv := [(0, .ref (eA E 0)), (1, .int x)]) hl ⟨Nat.le_refl 0, Nat.le_refl 0⟩ d_X_load_2 (fun H locs hW => ?_)
  refine lv_istore_n (lv' := [(2, .int (-1000001)), (0, .ref (eA E 0)), (1, .int x)]) X.x X.b d_X_load_5 rfl hl (by decide) rfl (fun ls hl => ?_)
  refine lv_iload_n X.x X.b d_X_load_6 rfl (lv_at hl 0 rfl) ?_
  refine lv_if_eq (tgt := 16) X.x X.b d_X_load_7 (by decide) (fun c7 => ?_) (fun c7 => ?_)
  · exact absurd c7 (by decide)
  · refine lv_aload_n X.x X.b d_X_load_10 rfl (lv_at hl 1 rfl) ?_
    refine lv_iload_n X.x X.b d_X_load_11 rfl (lv_at hl 0 rfl) ?_
    refine q_cvi X (c_X_told_0 l E S φ (by rw [hφ])) hW (q_recv X hW ds_X rfl) ok_X_told mw_213 ⟨by decide, by decide⟩ (As := [.int (-1000001)]) rfl rfl (Nat.le_of_ble_eq_true rfl) (lv := [(2, .int (-1000001)), (0, .ref (eA E 0)), (1, .int x)]) hl ⟨Nat.le_refl 0, Nat.le_refl 0⟩ d_X_load_12 (fun H locs hW => ?_)
    have hW : qWH E (qr S 14 (fnS φ 0)) s H locs := hW
    exact q_zret X rfl hW ⟨rfl, rfl⟩ d_X_load_15
set_option maxHeartbeats 1000000 in
set_option maxRecDepth 20000 in
theorem c_X_load_lb (l : Launch) (E : QE) (S : QM) (ρ φ : Nat → Int32) (hρ : S 0 = ρ) (hφ : S 14 = φ) (hwf : WF ρ) (j : Nat) (β : Nat → Int32) (hj : j < 4) (hβ : S (6 + j) = β) (hb : β 1 = 0) : qCI E l y_X_load prog_1_method_37_code 5 .int 3 [.ref (eA E 0), .int (nI j)] S (-1000006) (qr S 14 (fnS φ 5)) := by
  refine qCI_of (by decide) (Nat.le_of_ble_eq_true rfl) (fun p e s m below meth c ls X hW hl => ?_)
  have hl : lv_has ls 5 [(0, .ref (eA E 0)), (1, .int (nI j))] := hl
  have htl := hwf.tl
  have hwl := hwf.wl
  have hdl := hwf.dl
  refine lv_aload_n X.x X.b d_X_load_0 rfl (lv_at hl 0 rfl) ?_
  refine lv_iload_n X.x X.b d_X_load_1 rfl (lv_at hl 1 rfl) ?_
  refine q_cvi X (c_X_lackOf_b l E S j β hj (by rw [hβ]) hb) hW (q_recv X hW ds_X rfl) ok_X_lackOf mw_437 ⟨by decide, by decide⟩ (As := [.int (nI j)]) rfl rfl (Nat.le_of_ble_eq_true rfl) (lv := [(0, .ref (eA E 0)), (1, .int (nI j))]) hl ⟨Nat.le_refl 0, Nat.le_refl 0⟩ d_X_load_2 (fun H locs hW => ?_)
  refine lv_istore_n (lv' := [(2, .int (-1000006)), (0, .ref (eA E 0)), (1, .int (nI j))]) X.x X.b d_X_load_5 rfl hl (by decide) rfl (fun ls hl => ?_)
  refine lv_iload_n X.x X.b d_X_load_6 rfl (lv_at hl 0 rfl) ?_
  refine lv_if_eq (tgt := 16) X.x X.b d_X_load_7 (by decide) (fun c7 => ?_) (fun c7 => ?_)
  · exact absurd c7 (by decide)
  · refine lv_aload_n X.x X.b d_X_load_10 rfl (lv_at hl 1 rfl) ?_
    refine lv_iload_n X.x X.b d_X_load_11 rfl (lv_at hl 0 rfl) ?_
    refine q_cvi X (c_X_told_5 l E S φ (by rw [hφ])) hW (q_recv X hW ds_X rfl) ok_X_told mw_213 ⟨by decide, by decide⟩ (As := [.int (-1000006)]) rfl rfl (Nat.le_of_ble_eq_true rfl) (lv := [(2, .int (-1000006)), (0, .ref (eA E 0)), (1, .int (nI j))]) hl ⟨Nat.le_refl 0, Nat.le_refl 0⟩ d_X_load_12 (fun H locs hW => ?_)
    have hW : qWH E (qr S 14 (fnS φ 5)) s H locs := hW
    exact q_zret X rfl hW ⟨rfl, rfl⟩ d_X_load_15
set_option maxHeartbeats 1000000 in
set_option maxRecDepth 20000 in
theorem c_X_load_g (l : Launch) (E : QE) (S : QM) (ρ φ : Nat → Int32) (hρ : S 0 = ρ) (hφ : S 14 = φ) (hwf : WF ρ) (j sz : Nat) (β σ : Nat → Int32) (hj : j < 4) (hβ : S (6 + j) = β) (hσ : S (10 + j) = σ) (hb : ¬ β 1 = 0) (hs2 : β 2 = nI sz) (hsz : sz ≤ 40)  : qCI E l y_X_load prog_1_method_37_code 5 .int 3 [.ref (eA E 0), .int (nI j)] S (nI (ldN ρ σ sz)) (qr S 0 (ldR σ (ldN ρ σ sz) ρ)) := by
  refine qCI_of (by decide) (Nat.le_of_ble_eq_true rfl) (fun p e s m below meth c ls X hW hl => ?_)
  have hl : lv_has ls 5 [(0, .ref (eA E 0)), (1, .int (nI j))] := hl
  have htl := hwf.tl
  have hwl := hwf.wl
  have hdl := hwf.dl
  refine lv_aload_n X.x X.b d_X_load_0 rfl (lv_at hl 0 rfl) ?_
  refine lv_iload_n X.x X.b d_X_load_1 rfl (lv_at hl 1 rfl) ?_
  refine q_cvi X (c_X_lackOf_c l E S j β hj (by rw [hβ]) hb) hW (q_recv X hW ds_X rfl) ok_X_lackOf mw_437 ⟨by decide, by decide⟩ (As := [.int (nI j)]) rfl rfl (Nat.le_of_ble_eq_true rfl) (lv := [(0, .ref (eA E 0)), (1, .int (nI j))]) hl ⟨Nat.le_refl 0, Nat.le_refl 0⟩ d_X_load_2 (fun H locs hW => ?_)
  refine lv_istore_n (lv' := [(2, .int (nI 0)), (0, .ref (eA E 0)), (1, .int (nI j))]) X.x X.b d_X_load_5 rfl hl (by decide) rfl (fun ls hl => ?_)
  refine lv_iload_n X.x X.b d_X_load_6 rfl (lv_at hl 0 rfl) ?_
  refine lv_if_eq (tgt := 16) X.x X.b d_X_load_7 (by decide) (fun c7 => ?_) (fun c7 => ?_)
  · have c7 : 0 = 0 := (nI_eq (a := 0) (b := 0) (by omega) (by omega)).mp c7
    refine lv_aload_n X.x X.b d_X_load_16 rfl (lv_at hl 1 rfl) ?_
    refine q_getr X hW qj3 rfl _ ds_X 5 (by decide) mw_188 rfl (c1 := 60) rfl d_X_load_17 ?_
    refine lv_iload_n X.x X.b d_X_load_20 rfl (lv_at hl 2 rfl) ?_
    refine g_ss X hW (show j < 4 by omega) d_X_load_21 ?_
    refine lv_astore_n (lv' := [(3, .ref (eA E (61 + j))), (2, .int (nI 0)), (0, .ref (eA E 0)), (1, .int (nI j))]) X.x X.b d_X_load_22 rfl hl (by decide) rfl (fun ls hl => ?_)
    refine lv_iconst (v := nI 0) X.x X.b d_X_load_23 (by decide) ?_
    refine lv_istore (lv' := [(4, .int (nI 0)), (3, .ref (eA E (61 + j))), (2, .int (nI 0)), (0, .ref (eA E 0)), (1, .int (nI j))]) X.x X.b d_X_load_24 hl (by decide) rfl (fun ls hl => ?_)
    have hW : qWH E (qr S 0 ρ) s H locs := by rw [← hρ, qr_self]; exact hW
    have loop26 : ∀ (fu26 : Nat) (i : Nat) (μ : Nat → Int32), i ≤ nW ρ → μ = ldR σ i ρ → @lst (ldP ρ σ sz) (fun i => inferInstanceAs (Decidable (¬ ((i < sz ∧ i < nW ρ) ∧ inR 0 255 (σ i))))) (40 - i) i = ldN ρ σ sz → nW ρ - i < fu26 → ∀ (H : Heap) (locs : List Loc) (ls : Array Slot), qWH E (qr S 0 μ) s H locs → lv_has ls 5 [(4, .int (nI i)), (3, .ref (eA E (61 + j))), (2, .int (nI 0)), (0, .ref (eA E 0)), (1, .int (nI j))] → W p l e (qRm 3) s m ([.ref (eA E 0), .int (nI j)] : List Value).toArray below meth c H locs 0 0 (MQ below (qQi E (nI (ldN ρ σ sz)) (qr S 0 (ldR σ (ldN ρ σ sz) ρ)) s.heap.size) ([.ref (eA E 0), .int (nI j)] : List Value).toArray s 0 0 (qAA E s.heap.size)) (F0 m 26 ls []) := by
      intro fu26
      induction fu26 with
      | zero =>
        intro i μ hi hm hL hfu
        exact absurd hfu (Nat.not_lt_zero _)
      | succ fu26 ih26 =>
        intro i μ hi hm hL hfu H locs ls hW hl
        have hμ := (ldR_ok (σ := σ) hwf i (by omega)).1
        rw [← hm] at hμ
        have enW := (ldR_ok (σ := σ) hwf i (by omega)).2.1
        rw [← hm] at enW
        refine lv_iload X.x X.b d_X_load_26 (lv_at hl 0 rfl) ?_
        refine lv_aload_n X.x X.b d_X_load_28 rfl (lv_at hl 1 rfl) ?_
        refine g_geti X hW qj1 rfl _ (ds_s (j := j) (by omega)) 2 (by decide) mw_175 rfl (r0 := 6 + j) (p0 := 2) rfl (v := β 2) (by rw [qr_ne (by omega), hβ]) d_X_load_29 ?_
        rw [hs2]
        refine lv_icmp_ge (tgt := 89) X.x X.b d_X_load_32 (by decide) (fun c32 => ?_) (fun c32 => ?_)
        · have c32 : sz ≤ i := (nI_leI (a := sz) (b := i) (by omega) (by omega)).mp c32
          refine lv_iload X.x X.b d_X_load_89 (lv_at hl 0 rfl) ?_
          exact q_zret X rfl hW ⟨congrArg nI (show i = ldN ρ σ sz from (by rw [← hL, show 40 - i = (40 - i - 1) + 1 by omega, lst, if_pos (show ldP ρ σ sz i from by rintro ⟨⟨q1, q2⟩, q3⟩; omega)])), by rw [hm, show i = ldN ρ σ sz from (by rw [← hL, show 40 - i = (40 - i - 1) + 1 by omega, lst, if_pos (show ldP ρ σ sz i from by rintro ⟨⟨q1, q2⟩, q3⟩; omega)])]⟩ d_X_load_91
        · have c32 : ¬ sz ≤ i := fun z => c32 ((nI_leI (a := sz) (b := i) (by omega) (by omega)).mpr z)
          refine lv_aload_n X.x X.b d_X_load_35 rfl (lv_at hl 3 rfl) ?_
          refine q_getr X hW qj3 rfl _ ds_X 0 (by decide) mw_183 rfl (c1 := cB 0) rfl d_X_load_36 ?_
          refine lv_iload X.x X.b d_X_load_39 (lv_at hl 0 rfl) ?_
          refine q_cvi X (c_Cm_hasWalker l E 0 (by decide) (qr S 0 μ) μ (by rw [qr_at]) hμ (nI i)) hW (q_recv X hW (ds_cm (k := 0) (by decide)) rfl) ok_Cm_hasWalker mw_265 ⟨by decide, by decide⟩ (As := [.int (nI i)]) rfl rfl (Nat.le_of_ble_eq_true rfl) (lv := [(4, .int (nI i)), (3, .ref (eA E (61 + j))), (2, .int (nI 0)), (0, .ref (eA E 0)), (1, .int (nI j))]) hl ⟨Nat.le_refl 0, Nat.le_refl 0⟩ d_X_load_41 (fun H locs hW => ?_)
          refine lv_if_eq (tgt := 89) X.x X.b d_X_load_44 (by decide) (fun c44 => ?_) (fun c44 => ?_)
          · have c44 := b2i_e c44
            have c44 := mt (isW_i hμ (by omega)).mpr c44
            refine lv_iload X.x X.b d_X_load_89 (lv_at hl 0 rfl) ?_
            exact q_zret X rfl hW ⟨congrArg nI (show i = ldN ρ σ sz from (by rw [← hL, show 40 - i = (40 - i - 1) + 1 by omega, lst, if_pos (show ldP ρ σ sz i from by rintro ⟨⟨q1, q2⟩, q3⟩; omega)])), by rw [hm, show i = ldN ρ σ sz from (by rw [← hL, show 40 - i = (40 - i - 1) + 1 by omega, lst, if_pos (show ldP ρ σ sz i from by rintro ⟨⟨q1, q2⟩, q3⟩; omega)])]⟩ d_X_load_91
          · have c44 := b2i_n c44
            have c44 := (isW_i hμ (by omega)).mp c44
            refine lv_aload_n X.x X.b d_X_load_47 rfl (lv_at hl 1 rfl) ?_
            refine q_getr X hW qj1 rfl _ (ds_s (j := j) (by omega)) 0 (by decide) mw_171 rfl (c1 := 65 + j) rfl d_X_load_48 ?_
            refine lv_iload X.x X.b d_X_load_51 (lv_at hl 0 rfl) ?_
            refine g_ald X hW (ds_n (j := j) (by omega)) (q_in (by omega) (by decide)) (p0 := i) (q_tn (by omega) (by omega)) (v := σ i) (by rw [qr_ne (by omega), hσ]) d_X_load_53 ?_
            refine lv_iconst (v := nI 0) X.x X.b d_X_load_54 (by decide) ?_
            refine lv_sipush (v := nI 255) X.x X.b d_X_load_55 (by decide) ?_
            refine q_csi X (c_X_within l E (qr S 0 μ) (σ i) (nI 0) (nI 255)) hW ok_X_within mw_209 ⟨by decide, by decide⟩ (As := [.int (σ i), .int (nI 0), .int (nI 255)]) rfl rfl (Nat.le_of_ble_eq_true rfl) (lv := [(4, .int (nI i)), (3, .ref (eA E (61 + j))), (2, .int (nI 0)), (0, .ref (eA E 0)), (1, .int (nI j))]) hl ⟨Nat.le_refl 0, Nat.le_refl 0⟩ d_X_load_58 (fun H locs hW => ?_)
            refine lv_if_eq (tgt := 89) X.x X.b d_X_load_61 (by decide) (fun c61 => ?_) (fun c61 => ?_)
            · have c61 := b2i_e c61
              refine lv_iload X.x X.b d_X_load_89 (lv_at hl 0 rfl) ?_
              exact q_zret X rfl hW ⟨congrArg nI (show i = ldN ρ σ sz from (by rw [← hL, show 40 - i = (40 - i - 1) + 1 by omega, lst, if_pos (show ldP ρ σ sz i from by rintro ⟨⟨q1, q2⟩, q3⟩; exact c61 q3)])), by rw [hm, show i = ldN ρ σ sz from (by rw [← hL, show 40 - i = (40 - i - 1) + 1 by omega, lst, if_pos (show ldP ρ σ sz i from by rintro ⟨⟨q1, q2⟩, q3⟩; exact c61 q3)])]⟩ d_X_load_91
            · have c61 := b2i_n c61
              refine lv_aload_n X.x X.b d_X_load_64 rfl (lv_at hl 3 rfl) ?_
              refine q_getr X hW qj3 rfl _ ds_X 0 (by decide) mw_183 rfl (c1 := cB 0) rfl d_X_load_65 ?_
              refine q_getr X hW qj0 rfl _ (ds_cm (k := 0) (by decide)) 2 (by decide) mw_106 rfl (c1 := cB 0 + 3) rfl d_X_load_68 ?_
              refine lv_iload X.x X.b d_X_load_71 (lv_at hl 0 rfl) ?_
              refine g_wk (show 0 < 3 by decide) X hW (show i < 6 by omega) d_X_load_73 ?_
              refine lv_iconst (v := nI 3) X.x X.b d_X_load_74 (by decide) ?_
              refine lv_aload_n X.x X.b d_X_load_75 rfl (lv_at hl 1 rfl) ?_
              refine q_getr X hW qj1 rfl _ (ds_s (j := j) (by omega)) 0 (by decide) mw_171 rfl (c1 := 65 + j) rfl d_X_load_76 ?_
              refine lv_iload X.x X.b d_X_load_79 (lv_at hl 0 rfl) ?_
              refine g_ald X hW (ds_n (j := j) (by omega)) (q_in (by omega) (by decide)) (p0 := i) (q_tn (by omega) (by omega)) (v := σ i) (by rw [qr_ne (by omega), hσ]) d_X_load_81 ?_
              refine g_ast X hW (ds_w (w := i) (k := 0) (by decide) (by omega)) (q_in (by omega) (by decide)) (p0 := 44 + 6 * i + 3) (q_tn (by omega) (by omega)) (ρ := μ) (by rw [qr_at]) d_X_load_82 (fun H locs hW => ?_)
              obtain ⟨r82, er82⟩ : ∃ z, z = upd μ (44 + 6 * i + 3) (σ i) := ⟨_, rfl⟩
              rw [← er82] at hW
              rw [qr_qr] at hW
              refine lv_iinc (v := nI (i + 1)) (lv' := [(4, .int (nI (i + 1))), (3, .ref (eA E (61 + j))), (2, .int (nI 0)), (0, .ref (eA E 0)), (1, .int (nI j))]) X.x X.b d_X_load_83 hl (k := 0) rfl (by rw [show Int32.ofInt 1 = nI 1 from by decide, nI_add]) (by decide) rfl (fun ls hl => ?_)
              refine lv_goto (tgt := 26) X.x X.b d_X_load_86 (by decide) ?_
              exact ih26 (i + 1) r82 (by omega) (by rw [er82, hm]; rfl) (by rw [← hL, show 40 - i = (40 - (i + 1)) + 1 by omega, lst, if_neg (fun z => z ⟨⟨by omega, by omega⟩, c61⟩)]) (by omega) _ _ _ hW (lv_sub hl [0, 1, 2, 3, 4] rfl)
    exact loop26 (nW ρ - 0 + 1) 0 ρ (by omega) rfl rfl (Nat.lt_succ_self _) _ _ _ hW (lv_sub hl [0, 1, 2, 3, 4] rfl)
  · exact absurd (by decide) c7
set_option maxHeartbeats 1000000 in
set_option maxRecDepth 20000 in
theorem c_X_judge_la (l : Launch) (E : QE) (S : QM) (ρ φ : Nat → Int32) (hρ : S 0 = ρ) (hφ : S 14 = φ) (hwf : WF ρ) (x : Int32) (h : ¬ inR 0 3 x) : qCI E l y_X_judge prog_1_method_38_code 5 .int 3 [.ref (eA E 0), .int x] S (-1000001) (qr S 14 (fnS φ 0)) := by
  refine qCI_of (by decide) (Nat.le_of_ble_eq_true rfl) (fun p e s m below meth c ls X hW hl => ?_)
  have hl : lv_has ls 5 [(0, .ref (eA E 0)), (1, .int x)] := hl
  have htl := hwf.tl
  have hwl := hwf.wl
  have hdl := hwf.dl
  refine lv_aload_n X.x X.b d_X_judge_0 rfl (lv_at hl 0 rfl) ?_
  refine lv_iload_n X.x X.b d_X_judge_1 rfl (lv_at hl 1 rfl) ?_
  refine q_cvi X (c_X_lackOf_a l E S x h) hW (q_recv X hW ds_X rfl) ok_X_lackOf mw_437 ⟨by decide, by decide⟩ (As := [.int x]) rfl rfl (Nat.le_of_ble_eq_true rfl) (lv := [(0, .ref (eA E 0)), (1, .int x)]) hl ⟨Nat.le_refl 0, Nat.le_refl 0⟩ d_X_judge_2 (fun H locs hW => ?_)
  refine lv_istore_n (lv' := [(2, .int (-1000001)), (0, .ref (eA E 0)), (1, .int x)]) X.x X.b d_X_judge_5 rfl hl (by decide) rfl (fun ls hl => ?_)
  refine lv_iload_n X.x X.b d_X_judge_6 rfl (lv_at hl 0 rfl) ?_
  refine lv_if_eq (tgt := 16) X.x X.b d_X_judge_7 (by decide) (fun c7 => ?_) (fun c7 => ?_)
  · exact absurd c7 (by decide)
  · refine lv_aload_n X.x X.b d_X_judge_10 rfl (lv_at hl 1 rfl) ?_
    refine lv_iload_n X.x X.b d_X_judge_11 rfl (lv_at hl 0 rfl) ?_
    refine q_cvi X (c_X_told_0 l E S φ (by rw [hφ])) hW (q_recv X hW ds_X rfl) ok_X_told mw_213 ⟨by decide, by decide⟩ (As := [.int (-1000001)]) rfl rfl (Nat.le_of_ble_eq_true rfl) (lv := [(2, .int (-1000001)), (0, .ref (eA E 0)), (1, .int x)]) hl ⟨Nat.le_refl 0, Nat.le_refl 0⟩ d_X_judge_12 (fun H locs hW => ?_)
    have hW : qWH E (qr S 14 (fnS φ 0)) s H locs := hW
    exact q_zret X rfl hW ⟨rfl, rfl⟩ d_X_judge_15
set_option maxHeartbeats 1000000 in
set_option maxRecDepth 20000 in
theorem c_X_judge_lb (l : Launch) (E : QE) (S : QM) (ρ φ : Nat → Int32) (hρ : S 0 = ρ) (hφ : S 14 = φ) (hwf : WF ρ) (j : Nat) (β : Nat → Int32) (hj : j < 4) (hβ : S (6 + j) = β) (hb : β 1 = 0) : qCI E l y_X_judge prog_1_method_38_code 5 .int 3 [.ref (eA E 0), .int (nI j)] S (-1000006) (qr S 14 (fnS φ 5)) := by
  refine qCI_of (by decide) (Nat.le_of_ble_eq_true rfl) (fun p e s m below meth c ls X hW hl => ?_)
  have hl : lv_has ls 5 [(0, .ref (eA E 0)), (1, .int (nI j))] := hl
  have htl := hwf.tl
  have hwl := hwf.wl
  have hdl := hwf.dl
  refine lv_aload_n X.x X.b d_X_judge_0 rfl (lv_at hl 0 rfl) ?_
  refine lv_iload_n X.x X.b d_X_judge_1 rfl (lv_at hl 1 rfl) ?_
  refine q_cvi X (c_X_lackOf_b l E S j β hj (by rw [hβ]) hb) hW (q_recv X hW ds_X rfl) ok_X_lackOf mw_437 ⟨by decide, by decide⟩ (As := [.int (nI j)]) rfl rfl (Nat.le_of_ble_eq_true rfl) (lv := [(0, .ref (eA E 0)), (1, .int (nI j))]) hl ⟨Nat.le_refl 0, Nat.le_refl 0⟩ d_X_judge_2 (fun H locs hW => ?_)
  refine lv_istore_n (lv' := [(2, .int (-1000006)), (0, .ref (eA E 0)), (1, .int (nI j))]) X.x X.b d_X_judge_5 rfl hl (by decide) rfl (fun ls hl => ?_)
  refine lv_iload_n X.x X.b d_X_judge_6 rfl (lv_at hl 0 rfl) ?_
  refine lv_if_eq (tgt := 16) X.x X.b d_X_judge_7 (by decide) (fun c7 => ?_) (fun c7 => ?_)
  · exact absurd c7 (by decide)
  · refine lv_aload_n X.x X.b d_X_judge_10 rfl (lv_at hl 1 rfl) ?_
    refine lv_iload_n X.x X.b d_X_judge_11 rfl (lv_at hl 0 rfl) ?_
    refine q_cvi X (c_X_told_5 l E S φ (by rw [hφ])) hW (q_recv X hW ds_X rfl) ok_X_told mw_213 ⟨by decide, by decide⟩ (As := [.int (-1000006)]) rfl rfl (Nat.le_of_ble_eq_true rfl) (lv := [(2, .int (-1000006)), (0, .ref (eA E 0)), (1, .int (nI j))]) hl ⟨Nat.le_refl 0, Nat.le_refl 0⟩ d_X_judge_12 (fun H locs hW => ?_)
    have hW : qWH E (qr S 14 (fnS φ 5)) s H locs := hW
    exact q_zret X rfl hW ⟨rfl, rfl⟩ d_X_judge_15
set_option maxHeartbeats 1000000 in
set_option maxRecDepth 20000 in
theorem c_X_judge_g (l : Launch) (E : QE) (S : QM) (ρ φ : Nat → Int32) (hρ : S 0 = ρ) (hφ : S 14 = φ) (hwf : WF ρ) (j sz : Nat) (β σ : Nat → Int32) (hj : j < 4) (hβ : S (6 + j) = β) (hσ : S (10 + j) = σ) (hb : ¬ β 1 = 0) (hs2 : β 2 = nI sz) (hsz : sz ≤ 40) (hF : (lst (fun i => ¬ (i < nW ρ ∧ ρ (44 + 6 * i) = σ i)) sz 0) = sz) : qCI E l y_X_judge prog_1_method_38_code 5 .int 3 [.ref (eA E 0), .int (nI j)] S (nI 0) S := by
  refine qCI_of (by decide) (Nat.le_of_ble_eq_true rfl) (fun p e s m below meth c ls X hW hl => ?_)
  have hl : lv_has ls 5 [(0, .ref (eA E 0)), (1, .int (nI j))] := hl
  have htl := hwf.tl
  have hwl := hwf.wl
  have hdl := hwf.dl
  refine lv_aload_n X.x X.b d_X_judge_0 rfl (lv_at hl 0 rfl) ?_
  refine lv_iload_n X.x X.b d_X_judge_1 rfl (lv_at hl 1 rfl) ?_
  refine q_cvi X (c_X_lackOf_c l E S j β hj (by rw [hβ]) hb) hW (q_recv X hW ds_X rfl) ok_X_lackOf mw_437 ⟨by decide, by decide⟩ (As := [.int (nI j)]) rfl rfl (Nat.le_of_ble_eq_true rfl) (lv := [(0, .ref (eA E 0)), (1, .int (nI j))]) hl ⟨Nat.le_refl 0, Nat.le_refl 0⟩ d_X_judge_2 (fun H locs hW => ?_)
  refine lv_istore_n (lv' := [(2, .int (nI 0)), (0, .ref (eA E 0)), (1, .int (nI j))]) X.x X.b d_X_judge_5 rfl hl (by decide) rfl (fun ls hl => ?_)
  refine lv_iload_n X.x X.b d_X_judge_6 rfl (lv_at hl 0 rfl) ?_
  refine lv_if_eq (tgt := 16) X.x X.b d_X_judge_7 (by decide) (fun c7 => ?_) (fun c7 => ?_)
  · have c7 : 0 = 0 := (nI_eq (a := 0) (b := 0) (by omega) (by omega)).mp c7
    refine lv_aload_n X.x X.b d_X_judge_16 rfl (lv_at hl 1 rfl) ?_
    refine q_getr X hW qj3 rfl _ ds_X 5 (by decide) mw_188 rfl (c1 := 60) rfl d_X_judge_17 ?_
    refine lv_iload_n X.x X.b d_X_judge_20 rfl (lv_at hl 2 rfl) ?_
    refine g_ss X hW (show j < 4 by omega) d_X_judge_21 ?_
    refine lv_astore_n (lv' := [(3, .ref (eA E (61 + j))), (2, .int (nI 0)), (0, .ref (eA E 0)), (1, .int (nI j))]) X.x X.b d_X_judge_22 rfl hl (by decide) rfl (fun ls hl => ?_)
    refine lv_iconst (v := nI 0) X.x X.b d_X_judge_23 (by decide) ?_
    refine lv_istore (lv' := [(4, .int (nI 0)), (3, .ref (eA E (61 + j))), (2, .int (nI 0)), (0, .ref (eA E 0)), (1, .int (nI j))]) X.x X.b d_X_judge_24 hl (by decide) rfl (fun ls hl => ?_)
    have loop26 : ∀ (fu26 : Nat) (i : Nat), i ≤ sz → lst (fun i => ¬ (i < nW ρ ∧ ρ (44 + 6 * i) = σ i)) (sz - i) i = (lst (fun i => ¬ (i < nW ρ ∧ ρ (44 + 6 * i) = σ i)) sz 0) → sz - i < fu26 → ∀ (H : Heap) (locs : List Loc) (ls : Array Slot), qWH E S s H locs → lv_has ls 5 [(4, .int (nI i)), (3, .ref (eA E (61 + j))), (2, .int (nI 0)), (0, .ref (eA E 0)), (1, .int (nI j))] → W p l e (qRm 3) s m ([.ref (eA E 0), .int (nI j)] : List Value).toArray below meth c H locs 0 0 (MQ below (qQi E (nI 0) S s.heap.size) ([.ref (eA E 0), .int (nI j)] : List Value).toArray s 0 0 (qAA E s.heap.size)) (F0 m 26 ls []) := by
      intro fu26
      induction fu26 with
      | zero =>
        intro i hi hL hfu
        exact absurd hfu (Nat.not_lt_zero _)
      | succ fu26 ih26 =>
        intro i hi hL hfu H locs ls hW hl
        refine lv_iload X.x X.b d_X_judge_26 (lv_at hl 0 rfl) ?_
        refine lv_aload_n X.x X.b d_X_judge_28 rfl (lv_at hl 1 rfl) ?_
        refine g_geti X hW qj1 rfl _ (ds_s (j := j) (by omega)) 2 (by decide) mw_175 rfl (r0 := 6 + j) (p0 := 2) rfl (v := β 2) (by rw [hβ]) d_X_judge_29 ?_
        rw [hs2]
        refine lv_icmp_ge (tgt := 80) X.x X.b d_X_judge_32 (by decide) (fun c32 => ?_) (fun c32 => ?_)
        · have c32 : sz ≤ i := (nI_leI (a := sz) (b := i) (by omega) (by omega)).mp c32
          refine lv_iconst (v := nI 0) X.x X.b d_X_judge_80 (by decide) ?_
          exact q_zret X rfl hW ⟨rfl, rfl⟩ d_X_judge_81
        · have c32 : ¬ sz ≤ i := fun z => c32 ((nI_leI (a := sz) (b := i) (by omega) (by omega)).mpr z)
          refine lv_aload_n X.x X.b d_X_judge_35 rfl (lv_at hl 3 rfl) ?_
          refine q_getr X hW qj3 rfl _ ds_X 0 (by decide) mw_183 rfl (c1 := cB 0) rfl d_X_judge_36 ?_
          refine lv_iload X.x X.b d_X_judge_39 (lv_at hl 0 rfl) ?_
          refine q_cvi X (c_Cm_hasWalker l E 0 (by decide) S ρ (by rw [hρ]) hwf (nI i)) hW (q_recv X hW (ds_cm (k := 0) (by decide)) rfl) ok_Cm_hasWalker mw_265 ⟨by decide, by decide⟩ (As := [.int (nI i)]) rfl rfl (Nat.le_of_ble_eq_true rfl) (lv := [(4, .int (nI i)), (3, .ref (eA E (61 + j))), (2, .int (nI 0)), (0, .ref (eA E 0)), (1, .int (nI j))]) hl ⟨Nat.le_refl 0, Nat.le_refl 0⟩ d_X_judge_41 (fun H locs hW => ?_)
          refine lv_if_eq (tgt := 69) X.x X.b d_X_judge_44 (by decide) (fun c44 => ?_) (fun c44 => ?_)
          · have c44 := b2i_e c44
            have c44 := mt (isW_i hwf (by omega)).mpr c44
            refine lv_iconst (v := nI 1) X.x X.b d_X_judge_69 (by decide) ?_
            refine lv_iload X.x X.b d_X_judge_70 (lv_at hl 0 rfl) ?_
            refine lv_iadd X.x X.b d_X_judge_72 ?_
            rw [nI_add]
            exact absurd hF (by rw [← show i = (lst (fun i => ¬ (i < nW ρ ∧ ρ (44 + 6 * i) = σ i)) sz 0) from (by rw [← hL, show sz - i = (sz - i - 1) + 1 by omega, lst, if_pos (show ¬ (i < nW ρ ∧ ρ (44 + 6 * i) = σ i) from fun z => by omega)])]; omega)
          · have c44 := b2i_n c44
            have c44 := (isW_i hwf (by omega)).mp c44
            refine lv_aload_n X.x X.b d_X_judge_47 rfl (lv_at hl 3 rfl) ?_
            refine q_getr X hW qj3 rfl _ ds_X 0 (by decide) mw_183 rfl (c1 := cB 0) rfl d_X_judge_48 ?_
            refine q_getr X hW qj0 rfl _ (ds_cm (k := 0) (by decide)) 2 (by decide) mw_106 rfl (c1 := cB 0 + 3) rfl d_X_judge_51 ?_
            refine lv_iload X.x X.b d_X_judge_54 (lv_at hl 0 rfl) ?_
            refine g_wk (show 0 < 3 by decide) X hW (show i < 6 by omega) d_X_judge_56 ?_
            refine lv_iconst (v := nI 0) X.x X.b d_X_judge_57 (by decide) ?_
            refine g_ald X hW (ds_w (w := i) (k := 0) (by decide) (by omega)) (q_in (by omega) (by decide)) (p0 := 44 + 6 * i) (q_tn (by omega) (by omega)) (v := ρ (44 + 6 * i)) (by rw [hρ]) d_X_judge_58 ?_
            refine lv_aload_n X.x X.b d_X_judge_59 rfl (lv_at hl 1 rfl) ?_
            refine q_getr X hW qj1 rfl _ (ds_s (j := j) (by omega)) 0 (by decide) mw_171 rfl (c1 := 65 + j) rfl d_X_judge_60 ?_
            refine lv_iload X.x X.b d_X_judge_63 (lv_at hl 0 rfl) ?_
            refine g_ald X hW (ds_n (j := j) (by omega)) (q_in (by omega) (by decide)) (p0 := i) (q_tn (by omega) (by omega)) (v := σ i) (by rw [hσ]) d_X_judge_65 ?_
            refine lv_icmp_eq (tgt := 74) X.x X.b d_X_judge_66 (by decide) (fun c66 => ?_) (fun c66 => ?_)
            · refine lv_iinc (v := nI (i + 1)) (lv' := [(4, .int (nI (i + 1))), (3, .ref (eA E (61 + j))), (2, .int (nI 0)), (0, .ref (eA E 0)), (1, .int (nI j))]) X.x X.b d_X_judge_74 hl (k := 0) rfl (by rw [show Int32.ofInt 1 = nI 1 from by decide, nI_add]) (by decide) rfl (fun ls hl => ?_)
              refine lv_goto (tgt := 26) X.x X.b d_X_judge_77 (by decide) ?_
              exact ih26 (i + 1) (by omega) (by rw [← hL, show sz - i = (sz - (i + 1)) + 1 by omega, lst, if_neg (fun z => z ⟨by omega, c66⟩)]) (by omega) _ _ _ hW (lv_sub hl [0, 1, 2, 3, 4] rfl)
            · refine lv_iconst (v := nI 1) X.x X.b d_X_judge_69 (by decide) ?_
              refine lv_iload X.x X.b d_X_judge_70 (lv_at hl 0 rfl) ?_
              refine lv_iadd X.x X.b d_X_judge_72 ?_
              rw [nI_add]
              exact absurd hF (by rw [← show i = (lst (fun i => ¬ (i < nW ρ ∧ ρ (44 + 6 * i) = σ i)) sz 0) from (by rw [← hL, show sz - i = (sz - i - 1) + 1 by omega, lst, if_pos (show ¬ (i < nW ρ ∧ ρ (44 + 6 * i) = σ i) from fun z => c66 z.2)])]; omega)
    exact loop26 (sz - 0 + 1) 0 (by omega) rfl (Nat.lt_succ_self _) _ _ _ hW (lv_sub hl [0, 1, 2, 3, 4] rfl)
  · exact absurd (by decide) c7
set_option maxHeartbeats 1000000 in
set_option maxRecDepth 20000 in
theorem c_X_judge_n (l : Launch) (E : QE) (S : QM) (ρ φ : Nat → Int32) (hρ : S 0 = ρ) (hφ : S 14 = φ) (hwf : WF ρ) (j sz : Nat) (β σ : Nat → Int32) (hj : j < 4) (hβ : S (6 + j) = β) (hσ : S (10 + j) = σ) (hb : ¬ β 1 = 0) (hs2 : β 2 = nI sz) (hsz : sz ≤ 40) (hF : ¬ (lst (fun i => ¬ (i < nW ρ ∧ ρ (44 + 6 * i) = σ i)) sz 0) = sz) : qCI E l y_X_judge prog_1_method_38_code 5 .int 3 [.ref (eA E 0), .int (nI j)] S (nI (1 + (lst (fun i => ¬ (i < nW ρ ∧ ρ (44 + 6 * i) = σ i)) sz 0))) S := by
  refine qCI_of (by decide) (Nat.le_of_ble_eq_true rfl) (fun p e s m below meth c ls X hW hl => ?_)
  have hl : lv_has ls 5 [(0, .ref (eA E 0)), (1, .int (nI j))] := hl
  have htl := hwf.tl
  have hwl := hwf.wl
  have hdl := hwf.dl
  refine lv_aload_n X.x X.b d_X_judge_0 rfl (lv_at hl 0 rfl) ?_
  refine lv_iload_n X.x X.b d_X_judge_1 rfl (lv_at hl 1 rfl) ?_
  refine q_cvi X (c_X_lackOf_c l E S j β hj (by rw [hβ]) hb) hW (q_recv X hW ds_X rfl) ok_X_lackOf mw_437 ⟨by decide, by decide⟩ (As := [.int (nI j)]) rfl rfl (Nat.le_of_ble_eq_true rfl) (lv := [(0, .ref (eA E 0)), (1, .int (nI j))]) hl ⟨Nat.le_refl 0, Nat.le_refl 0⟩ d_X_judge_2 (fun H locs hW => ?_)
  refine lv_istore_n (lv' := [(2, .int (nI 0)), (0, .ref (eA E 0)), (1, .int (nI j))]) X.x X.b d_X_judge_5 rfl hl (by decide) rfl (fun ls hl => ?_)
  refine lv_iload_n X.x X.b d_X_judge_6 rfl (lv_at hl 0 rfl) ?_
  refine lv_if_eq (tgt := 16) X.x X.b d_X_judge_7 (by decide) (fun c7 => ?_) (fun c7 => ?_)
  · have c7 : 0 = 0 := (nI_eq (a := 0) (b := 0) (by omega) (by omega)).mp c7
    refine lv_aload_n X.x X.b d_X_judge_16 rfl (lv_at hl 1 rfl) ?_
    refine q_getr X hW qj3 rfl _ ds_X 5 (by decide) mw_188 rfl (c1 := 60) rfl d_X_judge_17 ?_
    refine lv_iload_n X.x X.b d_X_judge_20 rfl (lv_at hl 2 rfl) ?_
    refine g_ss X hW (show j < 4 by omega) d_X_judge_21 ?_
    refine lv_astore_n (lv' := [(3, .ref (eA E (61 + j))), (2, .int (nI 0)), (0, .ref (eA E 0)), (1, .int (nI j))]) X.x X.b d_X_judge_22 rfl hl (by decide) rfl (fun ls hl => ?_)
    refine lv_iconst (v := nI 0) X.x X.b d_X_judge_23 (by decide) ?_
    refine lv_istore (lv' := [(4, .int (nI 0)), (3, .ref (eA E (61 + j))), (2, .int (nI 0)), (0, .ref (eA E 0)), (1, .int (nI j))]) X.x X.b d_X_judge_24 hl (by decide) rfl (fun ls hl => ?_)
    have loop26 : ∀ (fu26 : Nat) (i : Nat), i ≤ sz → lst (fun i => ¬ (i < nW ρ ∧ ρ (44 + 6 * i) = σ i)) (sz - i) i = (lst (fun i => ¬ (i < nW ρ ∧ ρ (44 + 6 * i) = σ i)) sz 0) → sz - i < fu26 → ∀ (H : Heap) (locs : List Loc) (ls : Array Slot), qWH E S s H locs → lv_has ls 5 [(4, .int (nI i)), (3, .ref (eA E (61 + j))), (2, .int (nI 0)), (0, .ref (eA E 0)), (1, .int (nI j))] → W p l e (qRm 3) s m ([.ref (eA E 0), .int (nI j)] : List Value).toArray below meth c H locs 0 0 (MQ below (qQi E (nI (1 + (lst (fun i => ¬ (i < nW ρ ∧ ρ (44 + 6 * i) = σ i)) sz 0))) S s.heap.size) ([.ref (eA E 0), .int (nI j)] : List Value).toArray s 0 0 (qAA E s.heap.size)) (F0 m 26 ls []) := by
      intro fu26
      induction fu26 with
      | zero =>
        intro i hi hL hfu
        exact absurd hfu (Nat.not_lt_zero _)
      | succ fu26 ih26 =>
        intro i hi hL hfu H locs ls hW hl
        refine lv_iload X.x X.b d_X_judge_26 (lv_at hl 0 rfl) ?_
        refine lv_aload_n X.x X.b d_X_judge_28 rfl (lv_at hl 1 rfl) ?_
        refine g_geti X hW qj1 rfl _ (ds_s (j := j) (by omega)) 2 (by decide) mw_175 rfl (r0 := 6 + j) (p0 := 2) rfl (v := β 2) (by rw [hβ]) d_X_judge_29 ?_
        rw [hs2]
        refine lv_icmp_ge (tgt := 80) X.x X.b d_X_judge_32 (by decide) (fun c32 => ?_) (fun c32 => ?_)
        · have c32 : sz ≤ i := (nI_leI (a := sz) (b := i) (by omega) (by omega)).mp c32
          refine lv_iconst (v := nI 0) X.x X.b d_X_judge_80 (by decide) ?_
          exact absurd (show (lst (fun i => ¬ (i < nW ρ ∧ ρ (44 + 6 * i) = σ i)) sz 0) = sz by rw [← hL, show sz - i = 0 by omega, lst]; omega) hF
        · have c32 : ¬ sz ≤ i := fun z => c32 ((nI_leI (a := sz) (b := i) (by omega) (by omega)).mpr z)
          refine lv_aload_n X.x X.b d_X_judge_35 rfl (lv_at hl 3 rfl) ?_
          refine q_getr X hW qj3 rfl _ ds_X 0 (by decide) mw_183 rfl (c1 := cB 0) rfl d_X_judge_36 ?_
          refine lv_iload X.x X.b d_X_judge_39 (lv_at hl 0 rfl) ?_
          refine q_cvi X (c_Cm_hasWalker l E 0 (by decide) S ρ (by rw [hρ]) hwf (nI i)) hW (q_recv X hW (ds_cm (k := 0) (by decide)) rfl) ok_Cm_hasWalker mw_265 ⟨by decide, by decide⟩ (As := [.int (nI i)]) rfl rfl (Nat.le_of_ble_eq_true rfl) (lv := [(4, .int (nI i)), (3, .ref (eA E (61 + j))), (2, .int (nI 0)), (0, .ref (eA E 0)), (1, .int (nI j))]) hl ⟨Nat.le_refl 0, Nat.le_refl 0⟩ d_X_judge_41 (fun H locs hW => ?_)
          refine lv_if_eq (tgt := 69) X.x X.b d_X_judge_44 (by decide) (fun c44 => ?_) (fun c44 => ?_)
          · have c44 := b2i_e c44
            have c44 := mt (isW_i hwf (by omega)).mpr c44
            refine lv_iconst (v := nI 1) X.x X.b d_X_judge_69 (by decide) ?_
            refine lv_iload X.x X.b d_X_judge_70 (lv_at hl 0 rfl) ?_
            refine lv_iadd X.x X.b d_X_judge_72 ?_
            rw [nI_add]
            exact q_zret X rfl hW ⟨congrArg (fun q => nI (1 + q)) (show i = (lst (fun i => ¬ (i < nW ρ ∧ ρ (44 + 6 * i) = σ i)) sz 0) from (by rw [← hL, show sz - i = (sz - i - 1) + 1 by omega, lst, if_pos (show ¬ (i < nW ρ ∧ ρ (44 + 6 * i) = σ i) from fun z => by omega)])), rfl⟩ d_X_judge_73
          · have c44 := b2i_n c44
            have c44 := (isW_i hwf (by omega)).mp c44
            refine lv_aload_n X.x X.b d_X_judge_47 rfl (lv_at hl 3 rfl) ?_
            refine q_getr X hW qj3 rfl _ ds_X 0 (by decide) mw_183 rfl (c1 := cB 0) rfl d_X_judge_48 ?_
            refine q_getr X hW qj0 rfl _ (ds_cm (k := 0) (by decide)) 2 (by decide) mw_106 rfl (c1 := cB 0 + 3) rfl d_X_judge_51 ?_
            refine lv_iload X.x X.b d_X_judge_54 (lv_at hl 0 rfl) ?_
            refine g_wk (show 0 < 3 by decide) X hW (show i < 6 by omega) d_X_judge_56 ?_
            refine lv_iconst (v := nI 0) X.x X.b d_X_judge_57 (by decide) ?_
            refine g_ald X hW (ds_w (w := i) (k := 0) (by decide) (by omega)) (q_in (by omega) (by decide)) (p0 := 44 + 6 * i) (q_tn (by omega) (by omega)) (v := ρ (44 + 6 * i)) (by rw [hρ]) d_X_judge_58 ?_
            refine lv_aload_n X.x X.b d_X_judge_59 rfl (lv_at hl 1 rfl) ?_
            refine q_getr X hW qj1 rfl _ (ds_s (j := j) (by omega)) 0 (by decide) mw_171 rfl (c1 := 65 + j) rfl d_X_judge_60 ?_
            refine lv_iload X.x X.b d_X_judge_63 (lv_at hl 0 rfl) ?_
            refine g_ald X hW (ds_n (j := j) (by omega)) (q_in (by omega) (by decide)) (p0 := i) (q_tn (by omega) (by omega)) (v := σ i) (by rw [hσ]) d_X_judge_65 ?_
            refine lv_icmp_eq (tgt := 74) X.x X.b d_X_judge_66 (by decide) (fun c66 => ?_) (fun c66 => ?_)
            · refine lv_iinc (v := nI (i + 1)) (lv' := [(4, .int (nI (i + 1))), (3, .ref (eA E (61 + j))), (2, .int (nI 0)), (0, .ref (eA E 0)), (1, .int (nI j))]) X.x X.b d_X_judge_74 hl (k := 0) rfl (by rw [show Int32.ofInt 1 = nI 1 from by decide, nI_add]) (by decide) rfl (fun ls hl => ?_)
              refine lv_goto (tgt := 26) X.x X.b d_X_judge_77 (by decide) ?_
              exact ih26 (i + 1) (by omega) (by rw [← hL, show sz - i = (sz - (i + 1)) + 1 by omega, lst, if_neg (fun z => z ⟨by omega, c66⟩)]) (by omega) _ _ _ hW (lv_sub hl [0, 1, 2, 3, 4] rfl)
            · refine lv_iconst (v := nI 1) X.x X.b d_X_judge_69 (by decide) ?_
              refine lv_iload X.x X.b d_X_judge_70 (lv_at hl 0 rfl) ?_
              refine lv_iadd X.x X.b d_X_judge_72 ?_
              rw [nI_add]
              exact q_zret X rfl hW ⟨congrArg (fun q => nI (1 + q)) (show i = (lst (fun i => ¬ (i < nW ρ ∧ ρ (44 + 6 * i) = σ i)) sz 0) from (by rw [← hL, show sz - i = (sz - i - 1) + 1 by omega, lst, if_pos (show ¬ (i < nW ρ ∧ ρ (44 + 6 * i) = σ i) from fun z => c66 z.2)])), rfl⟩ d_X_judge_73
    exact loop26 (sz - 0 + 1) 0 (by omega) rfl (Nat.lt_succ_self _) _ _ _ hW (lv_sub hl [0, 1, 2, 3, 4] rfl)
  · exact absurd (by decide) c7
set_option maxHeartbeats 1000000 in
set_option maxRecDepth 20000 in
theorem c_X_goesAsTold_w (l : Launch) (E : QE) (S : QM) (τ : Nat → Int32) (hτ : S 2 = τ) (hwf : WF τ) (j sz : Nat) (β σ : Nat → Int32) (hj : j < 4) (hβ : S (6 + j) = β) (hσ : S (10 + j) = σ) (hs2 : β 2 = nI sz) (hsz : sz ≤ 40) (w : Nat) (hw : w < nW τ) : qCPi E l y_X_goesAsTold prog_1_method_51_code 5 .boolean 5 [.ref (eA E 0), .ref (eA E (61 + j)), .ref (eA E (cB 2 + 13 + w)), .int (nI 0)] S (b2i (goesS τ sz σ (44 + 6 * w))) (any S 2 WF) := by
  refine qCPi_of (by decide) (Nat.le_of_ble_eq_true rfl) (fun p e s m below meth c ls X hW hl => ?_)
  have hl : lv_has ls 5 [(0, .ref (eA E 0)), (1, .ref (eA E (61 + j))), (2, .ref (eA E (cB 2 + 13 + w))), (3, .int (nI 0))] := hl
  have htl := hwf.tl
  have hwl := hwf.wl
  refine lv_iconst (v := nI 0) X.x X.b d_X_goesAsTold_0 (by decide) ?_
  refine lv_istore (lv' := [(4, .int (nI 0)), (0, .ref (eA E 0)), (1, .ref (eA E (61 + j))), (2, .ref (eA E (cB 2 + 13 + w))), (3, .int (nI 0))]) X.x X.b d_X_goesAsTold_1 hl (by decide) rfl (fun ls hl => ?_)
  have hW : qWH E (qr S 2 τ) s s.heap [] := by rw [← hτ, qr_self]; exact hW
  have loop3 : ∀ (fu3 : Nat) (i : Nat) (μ : Nat → Int32), i ≤ sz → μ = daysS i τ → (∀ q, q < i → σ q = -1 ∨ σ q = daysS (q + 1) τ (44 + 6 * w)) → sz - i < fu3 → ∀ (H : Heap) (locs : List Loc) (ls : Array Slot), qWH E (qr S 2 μ) s H locs → lv_has ls 5 [(4, .int (nI i)), (0, .ref (eA E 0)), (1, .ref (eA E (61 + j))), (2, .ref (eA E (cB 2 + 13 + w))), (3, .int (nI 0))] → W p l e (qRm 5) s m ([.ref (eA E 0), .ref (eA E (61 + j)), .ref (eA E (cB 2 + 13 + w)), .int (nI 0)] : List Value).toArray below meth c H locs 0 0 (MQ below (qQpi E (b2i (goesS τ sz σ (44 + 6 * w))) (any S 2 WF) s.heap.size) ([.ref (eA E 0), .ref (eA E (61 + j)), .ref (eA E (cB 2 + 13 + w)), .int (nI 0)] : List Value).toArray s 0 0 (qAA E s.heap.size)) (F0 m 3 ls []) := by
    intro fu3
    induction fu3 with
    | zero =>
      intro i μ hi hm hn hfu
      exact absurd hfu (Nat.not_lt_zero _)
    | succ fu3 ih3 =>
      intro i μ hi hm hn hfu H locs ls hW hl
      have hμ : WF μ := hm ▸ dF hwf i
      refine lv_iload X.x X.b d_X_goesAsTold_3 (lv_at hl 0 rfl) ?_
      refine lv_aload_n X.x X.b d_X_goesAsTold_5 rfl (lv_at hl 2 rfl) ?_
      refine g_geti X hW qj1 rfl _ (ds_s (j := j) (by omega)) 2 (by decide) mw_175 rfl (r0 := 6 + j) (p0 := 2) rfl (v := β 2) (by rw [qr_ne (by omega), hβ]) d_X_goesAsTold_6 ?_
      rw [hs2]
      refine lv_icmp_ge (tgt := 51) X.x X.b d_X_goesAsTold_9 (by decide) (fun c9 => ?_) (fun c9 => ?_)
      · have c9 : sz ≤ i := (nI_leI (a := sz) (b := i) (by omega) (by omega)).mp c9
        refine lv_iconst (v := nI 1) X.x X.b d_X_goesAsTold_51 (by decide) ?_
        exact q_pzret X (by decide) hW ⟨(b2i_t (fun q hq => hn q (by omega))).symm, ⟨_, hμ, rfl⟩⟩ d_X_goesAsTold_52
      · have c9 : ¬ sz ≤ i := fun z => c9 ((nI_leI (a := sz) (b := i) (by omega) (by omega)).mpr z)
        refine lv_aload_n X.x X.b d_X_goesAsTold_12 rfl (lv_at hl 1 rfl) ?_
        refine q_getr X hW qj3 rfl _ ds_X 2 (by decide) mw_185 rfl (c1 := cB 2) rfl d_X_goesAsTold_13 ?_
        refine q_cvv X (c_Cm_passDay l E 2 (by decide) (qr S 2 μ) μ (by rw [qr_at]) hμ) hW (q_recv X hW (ds_cm (k := 2) (by decide)) rfl) ok_Cm_passDay mw_305 ⟨by decide, by decide⟩ (As := []) rfl rfl (Nat.le_of_ble_eq_true rfl) (lv := [(4, .int (nI i)), (0, .ref (eA E 0)), (1, .ref (eA E (61 + j))), (2, .ref (eA E (cB 2 + 13 + w))), (3, .int (nI 0))]) hl ⟨Nat.le_refl 0, Nat.le_refl 0⟩ d_X_goesAsTold_16 (fun H locs hW => ?_)
        have hW : qWH E (qr S 2 (dayS μ)) s H locs := (by have h := hW; rw [qr_qr] at h; exact h)
        refine lv_aload_n X.x X.b d_X_goesAsTold_19 rfl (lv_at hl 2 rfl) ?_
        refine q_getr X hW qj1 rfl _ (ds_s (j := j) (by omega)) 0 (by decide) mw_171 rfl (c1 := 65 + j) rfl d_X_goesAsTold_20 ?_
        refine lv_iload X.x X.b d_X_goesAsTold_23 (lv_at hl 0 rfl) ?_
        refine g_ald X hW (ds_n (j := j) (by omega)) (q_in (by omega) (by decide)) (p0 := i) (q_tn (by omega) (by omega)) (v := σ i) (by rw [qr_ne (by omega), hσ]) d_X_goesAsTold_25 ?_
        refine lv_iconst (v := (-1)) X.x X.b d_X_goesAsTold_26 (by decide) ?_
        refine lv_icmp_eq (tgt := 45) X.x X.b d_X_goesAsTold_27 (by decide) (fun c27 => ?_) (fun c27 => ?_)
        · refine lv_iinc (v := nI (i + 1)) (lv' := [(4, .int (nI (i + 1))), (0, .ref (eA E 0)), (1, .ref (eA E (61 + j))), (2, .ref (eA E (cB 2 + 13 + w))), (3, .int (nI 0))]) X.x X.b d_X_goesAsTold_45 hl (k := 0) rfl (by rw [show Int32.ofInt 1 = nI 1 from by decide, nI_add]) (by decide) rfl (fun ls hl => ?_)
          refine lv_goto (tgt := 3) X.x X.b d_X_goesAsTold_48 (by decide) ?_
          exact ih3 (i + 1) (dayS μ) (by omega) (by rw [hm]; rfl) (fun q hq => by rcases Nat.lt_succ_iff_lt_or_eq.mp hq with h | h; exact hn q h; subst h; exact Or.inl c27) (by omega) _ _ _ hW (lv_sub hl [0, 1, 2, 3, 4] rfl)
        · refine lv_aload_n X.x X.b d_X_goesAsTold_30 rfl (lv_at hl 2 rfl) ?_
          refine q_getr X hW qj1 rfl _ (ds_s (j := j) (by omega)) 0 (by decide) mw_171 rfl (c1 := 65 + j) rfl d_X_goesAsTold_31 ?_
          refine lv_iload X.x X.b d_X_goesAsTold_34 (lv_at hl 0 rfl) ?_
          refine g_ald X hW (ds_n (j := j) (by omega)) (q_in (by omega) (by decide)) (p0 := i) (q_tn (by omega) (by omega)) (v := σ i) (by rw [qr_ne (by omega), hσ]) d_X_goesAsTold_36 ?_
          refine lv_aload_n X.x X.b d_X_goesAsTold_37 rfl (lv_at hl 3 rfl) ?_
          refine lv_iload_n X.x X.b d_X_goesAsTold_38 rfl (lv_at hl 4 rfl) ?_
          refine g_ald X hW (ds_w (w := w) (show 2 < 3 by decide) (by omega)) (q_in (by omega) (by decide)) (p0 := 44 + 6 * w) (q_tn (by omega) (by omega)) (v := dayS μ (44 + 6 * w)) (by rw [qr_at]) d_X_goesAsTold_39 ?_
          refine lv_icmp_eq (tgt := 45) X.x X.b d_X_goesAsTold_40 (by decide) (fun c40 => ?_) (fun c40 => ?_)
          · refine lv_iinc (v := nI (i + 1)) (lv' := [(4, .int (nI (i + 1))), (0, .ref (eA E 0)), (1, .ref (eA E (61 + j))), (2, .ref (eA E (cB 2 + 13 + w))), (3, .int (nI 0))]) X.x X.b d_X_goesAsTold_45 hl (k := 0) rfl (by rw [show Int32.ofInt 1 = nI 1 from by decide, nI_add]) (by decide) rfl (fun ls hl => ?_)
            refine lv_goto (tgt := 3) X.x X.b d_X_goesAsTold_48 (by decide) ?_
            exact ih3 (i + 1) (dayS μ) (by omega) (by rw [hm]; rfl) (fun q hq => by rcases Nat.lt_succ_iff_lt_or_eq.mp hq with h | h; exact hn q h; subst h; exact Or.inr (by rw [hm] at c40; exact c40)) (by omega) _ _ _ hW (lv_sub hl [0, 1, 2, 3, 4] rfl)
          · refine lv_iconst (v := nI 0) X.x X.b d_X_goesAsTold_43 (by decide) ?_
            exact q_pzret X (by decide) hW ⟨(b2i_f (fun z => (z i (by omega)).elim c27 (fun q => c40 (by rw [hm]; exact q)))).symm, ⟨_, (dayS_ok hμ).1, rfl⟩⟩ d_X_goesAsTold_44
  exact loop3 (sz - 0 + 1) 0 τ (by omega) rfl (fun q hq => absurd hq (Nat.not_lt_zero q)) (Nat.lt_succ_self _) _ _ _ hW (lv_sub hl [0, 1, 2, 3, 4] rfl)
set_option maxHeartbeats 1000000 in
set_option maxRecDepth 20000 in
theorem c_X_goesAsTold_t (l : Launch) (E : QE) (S : QM) (τ : Nat → Int32) (hτ : S 2 = τ) (hwf : WF τ) (j sz : Nat) (β σ : Nat → Int32) (hj : j < 4) (hβ : S (6 + j) = β) (hσ : S (10 + j) = σ) (hs2 : β 2 = nI sz) (hsz : sz ≤ 40) (t : Nat) (ht : t < nT τ) : qCPi E l y_X_goesAsTold prog_1_method_51_code 5 .boolean 5 [.ref (eA E 0), .ref (eA E (61 + j)), .ref (eA E (cB 2 + 5 + t)), .int (nI 1)] S (b2i (goesS τ sz σ (20 + 3 * t + 1))) (any S 2 WF) := by
  refine qCPi_of (by decide) (Nat.le_of_ble_eq_true rfl) (fun p e s m below meth c ls X hW hl => ?_)
  have hl : lv_has ls 5 [(0, .ref (eA E 0)), (1, .ref (eA E (61 + j))), (2, .ref (eA E (cB 2 + 5 + t))), (3, .int (nI 1))] := hl
  have htl := hwf.tl
  have hwl := hwf.wl
  refine lv_iconst (v := nI 0) X.x X.b d_X_goesAsTold_0 (by decide) ?_
  refine lv_istore (lv' := [(4, .int (nI 0)), (0, .ref (eA E 0)), (1, .ref (eA E (61 + j))), (2, .ref (eA E (cB 2 + 5 + t))), (3, .int (nI 1))]) X.x X.b d_X_goesAsTold_1 hl (by decide) rfl (fun ls hl => ?_)
  have hW : qWH E (qr S 2 τ) s s.heap [] := by rw [← hτ, qr_self]; exact hW
  have loop3 : ∀ (fu3 : Nat) (i : Nat) (μ : Nat → Int32), i ≤ sz → μ = daysS i τ → (∀ q, q < i → σ q = -1 ∨ σ q = daysS (q + 1) τ (20 + 3 * t + 1)) → sz - i < fu3 → ∀ (H : Heap) (locs : List Loc) (ls : Array Slot), qWH E (qr S 2 μ) s H locs → lv_has ls 5 [(4, .int (nI i)), (0, .ref (eA E 0)), (1, .ref (eA E (61 + j))), (2, .ref (eA E (cB 2 + 5 + t))), (3, .int (nI 1))] → W p l e (qRm 5) s m ([.ref (eA E 0), .ref (eA E (61 + j)), .ref (eA E (cB 2 + 5 + t)), .int (nI 1)] : List Value).toArray below meth c H locs 0 0 (MQ below (qQpi E (b2i (goesS τ sz σ (20 + 3 * t + 1))) (any S 2 WF) s.heap.size) ([.ref (eA E 0), .ref (eA E (61 + j)), .ref (eA E (cB 2 + 5 + t)), .int (nI 1)] : List Value).toArray s 0 0 (qAA E s.heap.size)) (F0 m 3 ls []) := by
    intro fu3
    induction fu3 with
    | zero =>
      intro i μ hi hm hn hfu
      exact absurd hfu (Nat.not_lt_zero _)
    | succ fu3 ih3 =>
      intro i μ hi hm hn hfu H locs ls hW hl
      have hμ : WF μ := hm ▸ dF hwf i
      refine lv_iload X.x X.b d_X_goesAsTold_3 (lv_at hl 0 rfl) ?_
      refine lv_aload_n X.x X.b d_X_goesAsTold_5 rfl (lv_at hl 2 rfl) ?_
      refine g_geti X hW qj1 rfl _ (ds_s (j := j) (by omega)) 2 (by decide) mw_175 rfl (r0 := 6 + j) (p0 := 2) rfl (v := β 2) (by rw [qr_ne (by omega), hβ]) d_X_goesAsTold_6 ?_
      rw [hs2]
      refine lv_icmp_ge (tgt := 51) X.x X.b d_X_goesAsTold_9 (by decide) (fun c9 => ?_) (fun c9 => ?_)
      · have c9 : sz ≤ i := (nI_leI (a := sz) (b := i) (by omega) (by omega)).mp c9
        refine lv_iconst (v := nI 1) X.x X.b d_X_goesAsTold_51 (by decide) ?_
        exact q_pzret X (by decide) hW ⟨(b2i_t (fun q hq => hn q (by omega))).symm, ⟨_, hμ, rfl⟩⟩ d_X_goesAsTold_52
      · have c9 : ¬ sz ≤ i := fun z => c9 ((nI_leI (a := sz) (b := i) (by omega) (by omega)).mpr z)
        refine lv_aload_n X.x X.b d_X_goesAsTold_12 rfl (lv_at hl 1 rfl) ?_
        refine q_getr X hW qj3 rfl _ ds_X 2 (by decide) mw_185 rfl (c1 := cB 2) rfl d_X_goesAsTold_13 ?_
        refine q_cvv X (c_Cm_passDay l E 2 (by decide) (qr S 2 μ) μ (by rw [qr_at]) hμ) hW (q_recv X hW (ds_cm (k := 2) (by decide)) rfl) ok_Cm_passDay mw_305 ⟨by decide, by decide⟩ (As := []) rfl rfl (Nat.le_of_ble_eq_true rfl) (lv := [(4, .int (nI i)), (0, .ref (eA E 0)), (1, .ref (eA E (61 + j))), (2, .ref (eA E (cB 2 + 5 + t))), (3, .int (nI 1))]) hl ⟨Nat.le_refl 0, Nat.le_refl 0⟩ d_X_goesAsTold_16 (fun H locs hW => ?_)
        have hW : qWH E (qr S 2 (dayS μ)) s H locs := (by have h := hW; rw [qr_qr] at h; exact h)
        refine lv_aload_n X.x X.b d_X_goesAsTold_19 rfl (lv_at hl 2 rfl) ?_
        refine q_getr X hW qj1 rfl _ (ds_s (j := j) (by omega)) 0 (by decide) mw_171 rfl (c1 := 65 + j) rfl d_X_goesAsTold_20 ?_
        refine lv_iload X.x X.b d_X_goesAsTold_23 (lv_at hl 0 rfl) ?_
        refine g_ald X hW (ds_n (j := j) (by omega)) (q_in (by omega) (by decide)) (p0 := i) (q_tn (by omega) (by omega)) (v := σ i) (by rw [qr_ne (by omega), hσ]) d_X_goesAsTold_25 ?_
        refine lv_iconst (v := (-1)) X.x X.b d_X_goesAsTold_26 (by decide) ?_
        refine lv_icmp_eq (tgt := 45) X.x X.b d_X_goesAsTold_27 (by decide) (fun c27 => ?_) (fun c27 => ?_)
        · refine lv_iinc (v := nI (i + 1)) (lv' := [(4, .int (nI (i + 1))), (0, .ref (eA E 0)), (1, .ref (eA E (61 + j))), (2, .ref (eA E (cB 2 + 5 + t))), (3, .int (nI 1))]) X.x X.b d_X_goesAsTold_45 hl (k := 0) rfl (by rw [show Int32.ofInt 1 = nI 1 from by decide, nI_add]) (by decide) rfl (fun ls hl => ?_)
          refine lv_goto (tgt := 3) X.x X.b d_X_goesAsTold_48 (by decide) ?_
          exact ih3 (i + 1) (dayS μ) (by omega) (by rw [hm]; rfl) (fun q hq => by rcases Nat.lt_succ_iff_lt_or_eq.mp hq with h | h; exact hn q h; subst h; exact Or.inl c27) (by omega) _ _ _ hW (lv_sub hl [0, 1, 2, 3, 4] rfl)
        · refine lv_aload_n X.x X.b d_X_goesAsTold_30 rfl (lv_at hl 2 rfl) ?_
          refine q_getr X hW qj1 rfl _ (ds_s (j := j) (by omega)) 0 (by decide) mw_171 rfl (c1 := 65 + j) rfl d_X_goesAsTold_31 ?_
          refine lv_iload X.x X.b d_X_goesAsTold_34 (lv_at hl 0 rfl) ?_
          refine g_ald X hW (ds_n (j := j) (by omega)) (q_in (by omega) (by decide)) (p0 := i) (q_tn (by omega) (by omega)) (v := σ i) (by rw [qr_ne (by omega), hσ]) d_X_goesAsTold_36 ?_
          refine lv_aload_n X.x X.b d_X_goesAsTold_37 rfl (lv_at hl 3 rfl) ?_
          refine lv_iload_n X.x X.b d_X_goesAsTold_38 rfl (lv_at hl 4 rfl) ?_
          refine g_ald X hW (ds_t (t := t) (show 2 < 3 by decide) (by omega)) (q_in (by omega) (by decide)) (p0 := 20 + 3 * t + 1) (q_tn (by omega) (by omega)) (v := dayS μ (20 + 3 * t + 1)) (by rw [qr_at]) d_X_goesAsTold_39 ?_
          refine lv_icmp_eq (tgt := 45) X.x X.b d_X_goesAsTold_40 (by decide) (fun c40 => ?_) (fun c40 => ?_)
          · refine lv_iinc (v := nI (i + 1)) (lv' := [(4, .int (nI (i + 1))), (0, .ref (eA E 0)), (1, .ref (eA E (61 + j))), (2, .ref (eA E (cB 2 + 5 + t))), (3, .int (nI 1))]) X.x X.b d_X_goesAsTold_45 hl (k := 0) rfl (by rw [show Int32.ofInt 1 = nI 1 from by decide, nI_add]) (by decide) rfl (fun ls hl => ?_)
            refine lv_goto (tgt := 3) X.x X.b d_X_goesAsTold_48 (by decide) ?_
            exact ih3 (i + 1) (dayS μ) (by omega) (by rw [hm]; rfl) (fun q hq => by rcases Nat.lt_succ_iff_lt_or_eq.mp hq with h | h; exact hn q h; subst h; exact Or.inr (by rw [hm] at c40; exact c40)) (by omega) _ _ _ hW (lv_sub hl [0, 1, 2, 3, 4] rfl)
          · refine lv_iconst (v := nI 0) X.x X.b d_X_goesAsTold_43 (by decide) ?_
            exact q_pzret X (by decide) hW ⟨(b2i_f (fun z => (z i (by omega)).elim c27 (fun q => c40 (by rw [hm]; exact q)))).symm, ⟨_, (dayS_ok hμ).1, rfl⟩⟩ d_X_goesAsTold_44
  exact loop3 (sz - 0 + 1) 0 τ (by omega) rfl (fun q hq => absurd hq (Nat.not_lt_zero q)) (Nat.lt_succ_self _) _ _ _ hW (lv_sub hl [0, 1, 2, 3, 4] rfl)
set_option maxHeartbeats 1000000 in
set_option maxRecDepth 20000 in
theorem c_X_fits_g (l : Launch) (E : QE) (S : QM) (ρ φ τ : Nat → Int32) (hρ : S 0 = ρ) (hφ : S 14 = φ) (hτ : S 2 = τ) (hwf : WF ρ) (j sz : Nat) (β σ : Nat → Int32) (hj : j < 4) (hβ : S (6 + j) = β) (hσ : S (10 + j) = σ) (hb : ¬ β 1 = 0) (hs2 : β 2 = nI sz) (hsz : sz ≤ 40) (w : Nat) (hw : w < nW ρ) (hτw : WF τ) : qCPi E l y_X_fits prog_1_method_24_code 6 .int 6 [.ref (eA E 0), .int (nI j), .int (nI w)] S (setS (fun i => goesS (upd ρ (44 + 6 * w) (nI i)) sz σ (44 + 6 * w)) 16) (any S 2 WF) := by
  refine qCPi_of (by decide) (Nat.le_of_ble_eq_true rfl) (fun p e s m below meth c ls X hW hl => ?_)
  have hl : lv_has ls 6 [(0, .ref (eA E 0)), (1, .int (nI j)), (2, .int (nI w))] := hl
  have htl := hwf.tl
  have hwl := hwf.wl
  have hdl := hwf.dl
  refine lv_aload_n X.x X.b d_X_fits_0 rfl (lv_at hl 0 rfl) ?_
  refine lv_iload_n X.x X.b d_X_fits_1 rfl (lv_at hl 1 rfl) ?_
  refine q_cvi X (c_X_lackOf_c l E S j β hj (by rw [hβ]) hb) hW (q_recv X hW ds_X rfl) ok_X_lackOf mw_437 ⟨by decide, by decide⟩ (As := [.int (nI j)]) rfl rfl (Nat.le_of_ble_eq_true rfl) (lv := [(0, .ref (eA E 0)), (1, .int (nI j)), (2, .int (nI w))]) hl ⟨Nat.le_refl 0, Nat.le_refl 0⟩ d_X_fits_2 (fun H locs hW => ?_)
  refine lv_istore_n (lv' := [(3, .int (nI 0)), (0, .ref (eA E 0)), (1, .int (nI j)), (2, .int (nI w))]) X.x X.b d_X_fits_5 rfl hl (by decide) rfl (fun ls hl => ?_)
  refine lv_iload_n X.x X.b d_X_fits_6 rfl (lv_at hl 0 rfl) ?_
  refine lv_if_eq (tgt := 16) X.x X.b d_X_fits_7 (by decide) (fun c7 => ?_) (fun c7 => ?_)
  · have c7 : 0 = 0 := (nI_eq (a := 0) (b := 0) (by omega) (by omega)).mp c7
    refine lv_aload_n X.x X.b d_X_fits_16 rfl (lv_at hl 1 rfl) ?_
    refine q_getr X hW qj3 rfl _ ds_X 0 (by decide) mw_183 rfl (c1 := cB 0) rfl d_X_fits_17 ?_
    refine lv_iload_n X.x X.b d_X_fits_20 rfl (lv_at hl 3 rfl) ?_
    refine q_cvi X (c_Cm_hasWalker l E 0 (by decide) S ρ (by rw [hρ]) hwf (nI w)) hW (q_recv X hW (ds_cm (k := 0) (by decide)) rfl) ok_Cm_hasWalker mw_265 ⟨by decide, by decide⟩ (As := [.int (nI w)]) rfl rfl (Nat.le_of_ble_eq_true rfl) (lv := [(3, .int (nI 0)), (0, .ref (eA E 0)), (1, .int (nI j)), (2, .int (nI w))]) hl ⟨Nat.le_refl 0, Nat.le_refl 0⟩ d_X_fits_21 (fun H locs hW => ?_)
    refine lv_if_ne (tgt := 34) X.x X.b d_X_fits_24 (by decide) (fun c24 => ?_) (fun c24 => ?_)
    · have c24 := b2i_n c24
      have c24 := (isW_i hwf (by omega)).mp c24
      refine lv_iconst (v := nI 0) X.x X.b d_X_fits_34 (by decide) ?_
      refine lv_istore (lv' := [(4, .int (nI 0)), (3, .int (nI 0)), (0, .ref (eA E 0)), (1, .int (nI j)), (2, .int (nI w))]) X.x X.b d_X_fits_35 hl (by decide) rfl (fun ls hl => ?_)
      refine lv_iconst (v := nI 0) X.x X.b d_X_fits_37 (by decide) ?_
      refine lv_istore (lv' := [(5, .int (nI 0)), (4, .int (nI 0)), (3, .int (nI 0)), (0, .ref (eA E 0)), (1, .int (nI j)), (2, .int (nI w))]) X.x X.b d_X_fits_38 hl (by decide) rfl (fun ls hl => ?_)
      have hW : qWH E (qr S 2 τ) s H locs := by rw [← hτ, qr_self]; exact hW
      have loop40 : ∀ (fu40 : Nat) (i : Nat) (a : Int32) (ν : Nat → Int32), i ≤ 16 → a = fo (fun i a => if goesS (upd ρ (44 + 6 * w) (nI i)) sz σ (44 + 6 * w) then a ||| bt i else a) i (nI 0) → WF ν → 16 - i < fu40 → ∀ (H : Heap) (locs : List Loc) (ls : Array Slot), qWH E (qr S 2 ν) s H locs → lv_has ls 6 [(5, .int (nI i)), (4, .int a), (3, .int (nI 0)), (0, .ref (eA E 0)), (1, .int (nI j)), (2, .int (nI w))] → W p l e (qRm 6) s m ([.ref (eA E 0), .int (nI j), .int (nI w)] : List Value).toArray below meth c H locs 0 0 (MQ below (qQpi E (setS (fun i => goesS (upd ρ (44 + 6 * w) (nI i)) sz σ (44 + 6 * w)) 16) (any S 2 WF) s.heap.size) ([.ref (eA E 0), .int (nI j), .int (nI w)] : List Value).toArray s 0 0 (qAA E s.heap.size)) (F0 m 40 ls []) := by
        intro fu40
        induction fu40 with
        | zero =>
          intro i a ν hi ha hν hfu
          exact absurd hfu (Nat.not_lt_zero _)
        | succ fu40 ih40 =>
          intro i a ν hi ha hν hfu H locs ls hW hl
          refine lv_iload X.x X.b d_X_fits_40 (lv_at hl 0 rfl) ?_
          refine lv_bipush (v := nI 16) X.x X.b d_X_fits_42 (by decide) ?_
          refine lv_icmp_ge (tgt := 109) X.x X.b d_X_fits_44 (by decide) (fun c44 => ?_) (fun c44 => ?_)
          · have c44 : 16 ≤ i := (nI_leI (a := 16) (b := i) (by omega) (by omega)).mp c44
            refine lv_iload X.x X.b d_X_fits_109 (lv_at hl 1 rfl) ?_
            exact q_pzret X rfl hW ⟨by rw [ha, show i = 16 by omega]; rfl, ⟨_, hν, rfl⟩⟩ d_X_fits_111
          · have c44 : ¬ 16 ≤ i := fun z => c44 ((nI_leI (a := 16) (b := i) (by omega) (by omega)).mpr z)
            refine lv_aload_n X.x X.b d_X_fits_47 rfl (lv_at hl 3 rfl) ?_
            refine q_getr X hW qj3 rfl _ ds_X 2 (by decide) mw_185 rfl (c1 := cB 2) rfl d_X_fits_48 ?_
            refine lv_aload_n X.x X.b d_X_fits_51 rfl (lv_at hl 3 rfl) ?_
            refine q_getr X hW qj3 rfl _ ds_X 0 (by decide) mw_183 rfl (c1 := cB 0) rfl d_X_fits_52 ?_
            refine q_cvv X (c_Cm_become l E 2 0 (by decide) (by decide) (by decide) (qr S 2 ν) ν ρ (by rw [qr_at]) (by rw [qr_ne (by omega), hρ]) hwf) hW (q_recv X hW (ds_cm (k := 2) (by decide)) rfl) ok_Cm_become mw_371 ⟨by decide, by decide⟩ (As := [.ref (eA E (cB 0))]) rfl rfl (Nat.le_of_ble_eq_true rfl) (lv := [(5, .int (nI i)), (4, .int a), (3, .int (nI 0)), (0, .ref (eA E 0)), (1, .int (nI j)), (2, .int (nI w))]) hl ⟨Nat.le_refl 0, Nat.le_refl 0⟩ d_X_fits_55 (fun H locs hW => ?_)
            have hW : qWH E (qr S 2 (becS ν ρ)) s H locs := (by have h := hW; rw [qr_qr] at h; exact h)
            refine lv_aload_n X.x X.b d_X_fits_58 rfl (lv_at hl 3 rfl) ?_
            refine q_getr X hW qj3 rfl _ ds_X 2 (by decide) mw_185 rfl (c1 := cB 2) rfl d_X_fits_59 ?_
            refine q_getr X hW qj0 rfl _ (ds_cm (k := 2) (by decide)) 2 (by decide) mw_106 rfl (c1 := cB 2 + 3) rfl d_X_fits_62 ?_
            refine lv_iload_n X.x X.b d_X_fits_65 rfl (lv_at hl 5 rfl) ?_
            refine g_wk (show 2 < 3 by decide) X hW (show w < 6 by omega) d_X_fits_66 ?_
            refine lv_iconst (v := nI 0) X.x X.b d_X_fits_67 (by decide) ?_
            refine lv_iload X.x X.b d_X_fits_68 (lv_at hl 0 rfl) ?_
            refine g_ast X hW (ds_w (w := w) (k := 2) (by decide) (by omega)) (q_in (by omega) (by decide)) (p0 := 44 + 6 * w) (q_tn (by omega) (by omega)) (ρ := becS ν ρ) (by rw [qr_at]) d_X_fits_70 (fun H locs hW => ?_)
            obtain ⟨r70, er70⟩ : ∃ z, z = upd (becS ν ρ) (44 + 6 * w) (nI i) := ⟨_, rfl⟩
            rw [← er70] at hW
            rw [qr_qr] at hW
            have her70 : eqv r70 (upd ρ (44 + 6 * w) (nI i)) := by rw [er70]; exact (becS_e hwf).up _ (by omega) (by omega)
            have hwr : WF r70 := WF_e her70 (WF_wc hwf (by omega) (by omega))
            have hnr : nW r70 = nW ρ ∧ nT r70 = nT ρ := ⟨by rw [her70.nW, nW_up (by omega)], by rw [her70.nT, nT_up (by omega)]⟩
            refine lv_aload_n X.x X.b d_X_fits_71 rfl (lv_at hl 3 rfl) ?_
            refine lv_aload_n X.x X.b d_X_fits_72 rfl (lv_at hl 3 rfl) ?_
            refine q_getr X hW qj3 rfl _ ds_X 5 (by decide) mw_188 rfl (c1 := 60) rfl d_X_fits_73 ?_
            refine lv_iload_n X.x X.b d_X_fits_76 rfl (lv_at hl 4 rfl) ?_
            refine g_ss X hW (show j < 4 by omega) d_X_fits_77 ?_
            refine lv_aload_n X.x X.b d_X_fits_78 rfl (lv_at hl 3 rfl) ?_
            refine q_getr X hW qj3 rfl _ ds_X 2 (by decide) mw_185 rfl (c1 := cB 2) rfl d_X_fits_79 ?_
            refine q_getr X hW qj0 rfl _ (ds_cm (k := 2) (by decide)) 2 (by decide) mw_106 rfl (c1 := cB 2 + 3) rfl d_X_fits_82 ?_
            refine lv_iload_n X.x X.b d_X_fits_85 rfl (lv_at hl 5 rfl) ?_
            refine g_wk (show 2 < 3 by decide) X hW (show w < 6 by omega) d_X_fits_86 ?_
            refine lv_iconst (v := nI 0) X.x X.b d_X_fits_87 (by decide) ?_
            refine q_cvip X (c_X_goesAsTold_w l E (qr S 2 r70) r70 (by rw [qr_at]) hwr j sz β σ (by omega) (by rw [qr_ne (by omega), hβ]) (by rw [qr_ne (by omega), hσ]) hs2 hsz w (by omega)) hW (q_recv X hW ds_X rfl) ok_X_goesAsTold mw_442 ⟨by decide, by decide⟩ (As := [.ref (eA E (61 + j)), .ref (eA E (cB 2 + 13 + w)), .int (nI 0)]) rfl rfl (Nat.le_of_ble_eq_true rfl) (lv := [(5, .int (nI i)), (4, .int a), (3, .int (nI 0)), (0, .ref (eA E 0)), (1, .int (nI j)), (2, .int (nI w))]) hl ⟨Nat.le_refl 0, Nat.le_refl 0⟩ d_X_fits_88 (fun H locs Sq88 hP88 hW => ?_)
            obtain ⟨τ88, hτ88, rfl⟩ := hP88
            have hW : qWH E (qr S 2 τ88) s H locs := (by have h := hW; rw [qr_qr] at h; exact h)
            rw [show b2i (goesS r70 sz σ (44 + 6 * w)) = b2i (goesS (upd ρ (44 + 6 * w) (nI i)) sz σ (44 + 6 * w)) from b2i_c (goesS_w her70 hwr (by omega))]
            refine lv_if_eq (tgt := 103) X.x X.b d_X_fits_91 (by decide) (fun c91 => ?_) (fun c91 => ?_)
            · have c91 := b2i_e c91
              refine lv_iinc (v := nI (i + 1)) (lv' := [(5, .int (nI (i + 1))), (4, .int a), (3, .int (nI 0)), (0, .ref (eA E 0)), (1, .int (nI j)), (2, .int (nI w))]) X.x X.b d_X_fits_103 hl (k := 0) rfl (by rw [show Int32.ofInt 1 = nI 1 from by decide, nI_add]) (by decide) rfl (fun ls hl => ?_)
              refine lv_goto (tgt := 40) X.x X.b d_X_fits_106 (by decide) ?_
              exact ih40 (i + 1) a τ88 (by omega) (by rw [fo_succ, ← ha]; first | exact (if_pos c91).symm | exact (if_neg c91).symm) hτ88 (by omega) _ _ _ hW (lv_sub hl [0, 1, 2, 3, 4, 5] rfl)
            · have c91 := b2i_n c91
              refine lv_iload X.x X.b d_X_fits_94 (lv_at hl 1 rfl) ?_
              refine lv_iconst (v := nI 1) X.x X.b d_X_fits_96 (by decide) ?_
              refine lv_iload X.x X.b d_X_fits_97 (lv_at hl 0 rfl) ?_
              refine lv_ishl X.x X.b d_X_fits_99 ?_
              refine lv_ior X.x X.b d_X_fits_100 ?_
              refine lv_istore (lv' := [(4, .int (a ||| ((nI 1) <<< ((nI i) &&& 31)))), (5, .int (nI i)), (3, .int (nI 0)), (0, .ref (eA E 0)), (1, .int (nI j)), (2, .int (nI w))]) X.x X.b d_X_fits_101 hl (by decide) rfl (fun ls hl => ?_)
              refine lv_iinc (v := nI (i + 1)) (lv' := [(5, .int (nI (i + 1))), (4, .int (a ||| ((nI 1) <<< ((nI i) &&& 31)))), (3, .int (nI 0)), (0, .ref (eA E 0)), (1, .int (nI j)), (2, .int (nI w))]) X.x X.b d_X_fits_103 hl (k := 1) rfl (by rw [show Int32.ofInt 1 = nI 1 from by decide, nI_add]) (by decide) rfl (fun ls hl => ?_)
              refine lv_goto (tgt := 40) X.x X.b d_X_fits_106 (by decide) ?_
              exact ih40 (i + 1) (a ||| ((nI 1) <<< ((nI i) &&& 31))) τ88 (by omega) (by rw [fo_succ, ← ha]; first | exact (if_pos c91).symm | exact (if_neg c91).symm) hτ88 (by omega) _ _ _ hW (lv_sub hl [0, 1, 2, 3, 4, 5] rfl)
      exact loop40 (16 - 0 + 1) 0 (nI 0) τ (by omega) rfl hτw (Nat.lt_succ_self _) _ _ _ hW (lv_sub hl [0, 1, 2, 3, 4, 5] rfl)
    · have c24 := b2i_e c24
      have c24 := mt (isW_i hwf (by omega)).mpr c24
      omega
  · exact absurd (by decide) c7
set_option maxHeartbeats 1000000 in
set_option maxRecDepth 20000 in
theorem c_X_fits_la (l : Launch) (E : QE) (S : QM) (ρ φ : Nat → Int32) (hρ : S 0 = ρ) (hφ : S 14 = φ) (hwf : WF ρ) (x : Int32) (y : Int32) (h : ¬ inR 0 3 x) : qCI E l y_X_fits prog_1_method_24_code 6 .int 3 [.ref (eA E 0), .int x, .int y] S (-1000001) (qr S 14 (fnS φ 0)) := by
  refine qCI_of (by decide) (Nat.le_of_ble_eq_true rfl) (fun p e s m below meth c ls X hW hl => ?_)
  have hl : lv_has ls 6 [(0, .ref (eA E 0)), (1, .int x), (2, .int y)] := hl
  have htl := hwf.tl
  have hwl := hwf.wl
  have hdl := hwf.dl
  refine lv_aload_n X.x X.b d_X_fits_0 rfl (lv_at hl 0 rfl) ?_
  refine lv_iload_n X.x X.b d_X_fits_1 rfl (lv_at hl 1 rfl) ?_
  refine q_cvi X (c_X_lackOf_a l E S x h) hW (q_recv X hW ds_X rfl) ok_X_lackOf mw_437 ⟨by decide, by decide⟩ (As := [.int x]) rfl rfl (Nat.le_of_ble_eq_true rfl) (lv := [(0, .ref (eA E 0)), (1, .int x), (2, .int y)]) hl ⟨Nat.le_refl 0, Nat.le_refl 0⟩ d_X_fits_2 (fun H locs hW => ?_)
  refine lv_istore_n (lv' := [(3, .int (-1000001)), (0, .ref (eA E 0)), (1, .int x), (2, .int y)]) X.x X.b d_X_fits_5 rfl hl (by decide) rfl (fun ls hl => ?_)
  refine lv_iload_n X.x X.b d_X_fits_6 rfl (lv_at hl 0 rfl) ?_
  refine lv_if_eq (tgt := 16) X.x X.b d_X_fits_7 (by decide) (fun c7 => ?_) (fun c7 => ?_)
  · exact absurd c7 (by decide)
  · refine lv_aload_n X.x X.b d_X_fits_10 rfl (lv_at hl 1 rfl) ?_
    refine lv_iload_n X.x X.b d_X_fits_11 rfl (lv_at hl 0 rfl) ?_
    refine q_cvi X (c_X_told_0 l E S φ (by rw [hφ])) hW (q_recv X hW ds_X rfl) ok_X_told mw_213 ⟨by decide, by decide⟩ (As := [.int (-1000001)]) rfl rfl (Nat.le_of_ble_eq_true rfl) (lv := [(3, .int (-1000001)), (0, .ref (eA E 0)), (1, .int x), (2, .int y)]) hl ⟨Nat.le_refl 0, Nat.le_refl 0⟩ d_X_fits_12 (fun H locs hW => ?_)
    have hW : qWH E (qr S 14 (fnS φ 0)) s H locs := hW
    exact q_zret X rfl hW ⟨rfl, rfl⟩ d_X_fits_15
set_option maxHeartbeats 1000000 in
set_option maxRecDepth 20000 in
theorem c_X_fits_lb (l : Launch) (E : QE) (S : QM) (ρ φ : Nat → Int32) (hρ : S 0 = ρ) (hφ : S 14 = φ) (hwf : WF ρ) (j : Nat) (β : Nat → Int32) (hj : j < 4) (hβ : S (6 + j) = β) (hb : β 1 = 0) (y : Int32) : qCI E l y_X_fits prog_1_method_24_code 6 .int 3 [.ref (eA E 0), .int (nI j), .int y] S (-1000006) (qr S 14 (fnS φ 5)) := by
  refine qCI_of (by decide) (Nat.le_of_ble_eq_true rfl) (fun p e s m below meth c ls X hW hl => ?_)
  have hl : lv_has ls 6 [(0, .ref (eA E 0)), (1, .int (nI j)), (2, .int y)] := hl
  have htl := hwf.tl
  have hwl := hwf.wl
  have hdl := hwf.dl
  refine lv_aload_n X.x X.b d_X_fits_0 rfl (lv_at hl 0 rfl) ?_
  refine lv_iload_n X.x X.b d_X_fits_1 rfl (lv_at hl 1 rfl) ?_
  refine q_cvi X (c_X_lackOf_b l E S j β hj (by rw [hβ]) hb) hW (q_recv X hW ds_X rfl) ok_X_lackOf mw_437 ⟨by decide, by decide⟩ (As := [.int (nI j)]) rfl rfl (Nat.le_of_ble_eq_true rfl) (lv := [(0, .ref (eA E 0)), (1, .int (nI j)), (2, .int y)]) hl ⟨Nat.le_refl 0, Nat.le_refl 0⟩ d_X_fits_2 (fun H locs hW => ?_)
  refine lv_istore_n (lv' := [(3, .int (-1000006)), (0, .ref (eA E 0)), (1, .int (nI j)), (2, .int y)]) X.x X.b d_X_fits_5 rfl hl (by decide) rfl (fun ls hl => ?_)
  refine lv_iload_n X.x X.b d_X_fits_6 rfl (lv_at hl 0 rfl) ?_
  refine lv_if_eq (tgt := 16) X.x X.b d_X_fits_7 (by decide) (fun c7 => ?_) (fun c7 => ?_)
  · exact absurd c7 (by decide)
  · refine lv_aload_n X.x X.b d_X_fits_10 rfl (lv_at hl 1 rfl) ?_
    refine lv_iload_n X.x X.b d_X_fits_11 rfl (lv_at hl 0 rfl) ?_
    refine q_cvi X (c_X_told_5 l E S φ (by rw [hφ])) hW (q_recv X hW ds_X rfl) ok_X_told mw_213 ⟨by decide, by decide⟩ (As := [.int (-1000006)]) rfl rfl (Nat.le_of_ble_eq_true rfl) (lv := [(3, .int (-1000006)), (0, .ref (eA E 0)), (1, .int (nI j)), (2, .int y)]) hl ⟨Nat.le_refl 0, Nat.le_refl 0⟩ d_X_fits_12 (fun H locs hW => ?_)
    have hW : qWH E (qr S 14 (fnS φ 5)) s H locs := hW
    exact q_zret X rfl hW ⟨rfl, rfl⟩ d_X_fits_15
set_option maxHeartbeats 1000000 in
set_option maxRecDepth 20000 in
theorem c_X_fits_b (l : Launch) (E : QE) (S : QM) (ρ φ : Nat → Int32) (hρ : S 0 = ρ) (hφ : S 14 = φ) (hwf : WF ρ) (j sz : Nat) (β σ : Nat → Int32) (hj : j < 4) (hβ : S (6 + j) = β) (hσ : S (10 + j) = σ) (hb : ¬ β 1 = 0) (hs2 : β 2 = nI sz) (hsz : sz ≤ 40) (y : Int32) (h : ¬ isW ρ y) : qCI E l y_X_fits prog_1_method_24_code 6 .int 3 [.ref (eA E 0), .int (nI j), .int y] S (-1000001) (qr S 14 (fnS φ 0)) := by
  refine qCI_of (by decide) (Nat.le_of_ble_eq_true rfl) (fun p e s m below meth c ls X hW hl => ?_)
  have hl : lv_has ls 6 [(0, .ref (eA E 0)), (1, .int (nI j)), (2, .int y)] := hl
  have htl := hwf.tl
  have hwl := hwf.wl
  have hdl := hwf.dl
  refine lv_aload_n X.x X.b d_X_fits_0 rfl (lv_at hl 0 rfl) ?_
  refine lv_iload_n X.x X.b d_X_fits_1 rfl (lv_at hl 1 rfl) ?_
  refine q_cvi X (c_X_lackOf_c l E S j β hj (by rw [hβ]) hb) hW (q_recv X hW ds_X rfl) ok_X_lackOf mw_437 ⟨by decide, by decide⟩ (As := [.int (nI j)]) rfl rfl (Nat.le_of_ble_eq_true rfl) (lv := [(0, .ref (eA E 0)), (1, .int (nI j)), (2, .int y)]) hl ⟨Nat.le_refl 0, Nat.le_refl 0⟩ d_X_fits_2 (fun H locs hW => ?_)
  refine lv_istore_n (lv' := [(3, .int (nI 0)), (0, .ref (eA E 0)), (1, .int (nI j)), (2, .int y)]) X.x X.b d_X_fits_5 rfl hl (by decide) rfl (fun ls hl => ?_)
  refine lv_iload_n X.x X.b d_X_fits_6 rfl (lv_at hl 0 rfl) ?_
  refine lv_if_eq (tgt := 16) X.x X.b d_X_fits_7 (by decide) (fun c7 => ?_) (fun c7 => ?_)
  · have c7 : 0 = 0 := (nI_eq (a := 0) (b := 0) (by omega) (by omega)).mp c7
    refine lv_aload_n X.x X.b d_X_fits_16 rfl (lv_at hl 1 rfl) ?_
    refine q_getr X hW qj3 rfl _ ds_X 0 (by decide) mw_183 rfl (c1 := cB 0) rfl d_X_fits_17 ?_
    refine lv_iload_n X.x X.b d_X_fits_20 rfl (lv_at hl 3 rfl) ?_
    refine q_cvi X (c_Cm_hasWalker l E 0 (by decide) S ρ (by rw [hρ]) hwf y) hW (q_recv X hW (ds_cm (k := 0) (by decide)) rfl) ok_Cm_hasWalker mw_265 ⟨by decide, by decide⟩ (As := [.int y]) rfl rfl (Nat.le_of_ble_eq_true rfl) (lv := [(3, .int (nI 0)), (0, .ref (eA E 0)), (1, .int (nI j)), (2, .int y)]) hl ⟨Nat.le_refl 0, Nat.le_refl 0⟩ d_X_fits_21 (fun H locs hW => ?_)
    refine lv_if_ne (tgt := 34) X.x X.b d_X_fits_24 (by decide) (fun c24 => ?_) (fun c24 => ?_)
    · have c24 := b2i_n c24
      exact absurd c24 h
    · have c24 := b2i_e c24
      refine lv_aload_n X.x X.b d_X_fits_27 rfl (lv_at hl 1 rfl) ?_
      refine lv_ldc (v := (-1000001)) X.x X.b X.ow (X.ts _ mw_212) d_X_fits_28 ?_
      refine q_cvi X (c_X_told_0 l E S φ (by rw [hφ])) hW (q_recv X hW ds_X rfl) ok_X_told mw_213 ⟨by decide, by decide⟩ (As := [.int (-1000001)]) rfl rfl (Nat.le_of_ble_eq_true rfl) (lv := [(3, .int (nI 0)), (0, .ref (eA E 0)), (1, .int (nI j)), (2, .int y)]) hl ⟨Nat.le_refl 0, Nat.le_refl 0⟩ d_X_fits_30 (fun H locs hW => ?_)
      have hW : qWH E (qr S 14 (fnS φ 0)) s H locs := hW
      exact q_zret X rfl hW ⟨rfl, rfl⟩ d_X_fits_33
  · exact absurd (by decide) c7
set_option maxHeartbeats 1000000 in
set_option maxRecDepth 20000 in
theorem c_X_kinds_g (l : Launch) (E : QE) (S : QM) (ρ φ τ : Nat → Int32) (hρ : S 0 = ρ) (hφ : S 14 = φ) (hτ : S 2 = τ) (hwf : WF ρ) (j sz : Nat) (β σ : Nat → Int32) (hj : j < 4) (hβ : S (6 + j) = β) (hσ : S (10 + j) = σ) (hb : ¬ β 1 = 0) (hs2 : β 2 = nI sz) (hsz : sz ≤ 40) (t : Nat) (ht : t < nT ρ) (hτw : WF τ) : qCPi E l y_X_kinds prog_1_method_25_code 6 .int 6 [.ref (eA E 0), .int (nI j), .int (nI t)] S (setS (fun i => goesS (upd ρ (20 + 3 * t) (nI i)) sz σ (20 + 3 * t + 1)) 7) (any S 2 WF) := by
  refine qCPi_of (by decide) (Nat.le_of_ble_eq_true rfl) (fun p e s m below meth c ls X hW hl => ?_)
  have hl : lv_has ls 6 [(0, .ref (eA E 0)), (1, .int (nI j)), (2, .int (nI t))] := hl
  have htl := hwf.tl
  have hwl := hwf.wl
  have hdl := hwf.dl
  refine lv_aload_n X.x X.b d_X_kinds_0 rfl (lv_at hl 0 rfl) ?_
  refine lv_iload_n X.x X.b d_X_kinds_1 rfl (lv_at hl 1 rfl) ?_
  refine q_cvi X (c_X_lackOf_c l E S j β hj (by rw [hβ]) hb) hW (q_recv X hW ds_X rfl) ok_X_lackOf mw_437 ⟨by decide, by decide⟩ (As := [.int (nI j)]) rfl rfl (Nat.le_of_ble_eq_true rfl) (lv := [(0, .ref (eA E 0)), (1, .int (nI j)), (2, .int (nI t))]) hl ⟨Nat.le_refl 0, Nat.le_refl 0⟩ d_X_kinds_2 (fun H locs hW => ?_)
  refine lv_istore_n (lv' := [(3, .int (nI 0)), (0, .ref (eA E 0)), (1, .int (nI j)), (2, .int (nI t))]) X.x X.b d_X_kinds_5 rfl hl (by decide) rfl (fun ls hl => ?_)
  refine lv_iload_n X.x X.b d_X_kinds_6 rfl (lv_at hl 0 rfl) ?_
  refine lv_if_eq (tgt := 16) X.x X.b d_X_kinds_7 (by decide) (fun c7 => ?_) (fun c7 => ?_)
  · have c7 : 0 = 0 := (nI_eq (a := 0) (b := 0) (by omega) (by omega)).mp c7
    refine lv_aload_n X.x X.b d_X_kinds_16 rfl (lv_at hl 1 rfl) ?_
    refine q_getr X hW qj3 rfl _ ds_X 0 (by decide) mw_183 rfl (c1 := cB 0) rfl d_X_kinds_17 ?_
    refine lv_iload_n X.x X.b d_X_kinds_20 rfl (lv_at hl 3 rfl) ?_
    refine q_cvi X (c_Cm_hasThing l E 0 (by decide) S ρ (by rw [hρ]) hwf (nI t)) hW (q_recv X hW (ds_cm (k := 0) (by decide)) rfl) ok_Cm_hasThing mw_244 ⟨by decide, by decide⟩ (As := [.int (nI t)]) rfl rfl (Nat.le_of_ble_eq_true rfl) (lv := [(3, .int (nI 0)), (0, .ref (eA E 0)), (1, .int (nI j)), (2, .int (nI t))]) hl ⟨Nat.le_refl 0, Nat.le_refl 0⟩ d_X_kinds_21 (fun H locs hW => ?_)
    refine lv_if_ne (tgt := 34) X.x X.b d_X_kinds_24 (by decide) (fun c24 => ?_) (fun c24 => ?_)
    · have c24 := b2i_n c24
      have c24 := (isT_i hwf (by omega)).mp c24
      refine lv_iconst (v := nI 0) X.x X.b d_X_kinds_34 (by decide) ?_
      refine lv_istore (lv' := [(4, .int (nI 0)), (3, .int (nI 0)), (0, .ref (eA E 0)), (1, .int (nI j)), (2, .int (nI t))]) X.x X.b d_X_kinds_35 hl (by decide) rfl (fun ls hl => ?_)
      refine lv_iconst (v := nI 0) X.x X.b d_X_kinds_37 (by decide) ?_
      refine lv_istore (lv' := [(5, .int (nI 0)), (4, .int (nI 0)), (3, .int (nI 0)), (0, .ref (eA E 0)), (1, .int (nI j)), (2, .int (nI t))]) X.x X.b d_X_kinds_38 hl (by decide) rfl (fun ls hl => ?_)
      have hW : qWH E (qr S 2 τ) s H locs := by rw [← hτ, qr_self]; exact hW
      have loop40 : ∀ (fu40 : Nat) (i : Nat) (a : Int32) (ν : Nat → Int32), i ≤ 7 → a = fo (fun i a => if goesS (upd ρ (20 + 3 * t) (nI i)) sz σ (20 + 3 * t + 1) then a ||| bt i else a) i (nI 0) → WF ν → 7 - i < fu40 → ∀ (H : Heap) (locs : List Loc) (ls : Array Slot), qWH E (qr S 2 ν) s H locs → lv_has ls 6 [(5, .int (nI i)), (4, .int a), (3, .int (nI 0)), (0, .ref (eA E 0)), (1, .int (nI j)), (2, .int (nI t))] → W p l e (qRm 6) s m ([.ref (eA E 0), .int (nI j), .int (nI t)] : List Value).toArray below meth c H locs 0 0 (MQ below (qQpi E (setS (fun i => goesS (upd ρ (20 + 3 * t) (nI i)) sz σ (20 + 3 * t + 1)) 7) (any S 2 WF) s.heap.size) ([.ref (eA E 0), .int (nI j), .int (nI t)] : List Value).toArray s 0 0 (qAA E s.heap.size)) (F0 m 40 ls []) := by
        intro fu40
        induction fu40 with
        | zero =>
          intro i a ν hi ha hν hfu
          exact absurd hfu (Nat.not_lt_zero _)
        | succ fu40 ih40 =>
          intro i a ν hi ha hν hfu H locs ls hW hl
          refine lv_iload X.x X.b d_X_kinds_40 (lv_at hl 0 rfl) ?_
          refine q_gets X hW X.Z.1 mw_225 d_X_kinds_42 ?_
          refine lv_iconst (v := nI 0) X.x X.b d_X_kinds_45 (by decide) ?_
          refine g_zald X hW X.Z.1 (q_in (show 0 < 3 by omega) (by decide)) (q_tn (by omega) (Nat.zero_add _)) d_X_kinds_46 ?_
          rw [show zt0.getD 0 0 = nI 6 from by decide]
          refine lv_icmp_gt (tgt := 112) X.x X.b d_X_kinds_47 (by decide) (fun c47 => ?_) (fun c47 => ?_)
          · have c47 : 6 < i := (nI_ltI (a := 6) (b := i) (by omega) (by omega)).mp c47
            refine lv_iload X.x X.b d_X_kinds_112 (lv_at hl 1 rfl) ?_
            exact q_pzret X rfl hW ⟨by rw [ha, show i = 7 by omega]; rfl, ⟨_, hν, rfl⟩⟩ d_X_kinds_114
          · have c47 : ¬ 6 < i := fun z => c47 ((nI_ltI (a := 6) (b := i) (by omega) (by omega)).mpr z)
            refine lv_aload_n X.x X.b d_X_kinds_50 rfl (lv_at hl 3 rfl) ?_
            refine q_getr X hW qj3 rfl _ ds_X 2 (by decide) mw_185 rfl (c1 := cB 2) rfl d_X_kinds_51 ?_
            refine lv_aload_n X.x X.b d_X_kinds_54 rfl (lv_at hl 3 rfl) ?_
            refine q_getr X hW qj3 rfl _ ds_X 0 (by decide) mw_183 rfl (c1 := cB 0) rfl d_X_kinds_55 ?_
            refine q_cvv X (c_Cm_become l E 2 0 (by decide) (by decide) (by decide) (qr S 2 ν) ν ρ (by rw [qr_at]) (by rw [qr_ne (by omega), hρ]) hwf) hW (q_recv X hW (ds_cm (k := 2) (by decide)) rfl) ok_Cm_become mw_371 ⟨by decide, by decide⟩ (As := [.ref (eA E (cB 0))]) rfl rfl (Nat.le_of_ble_eq_true rfl) (lv := [(5, .int (nI i)), (4, .int a), (3, .int (nI 0)), (0, .ref (eA E 0)), (1, .int (nI j)), (2, .int (nI t))]) hl ⟨Nat.le_refl 0, Nat.le_refl 0⟩ d_X_kinds_58 (fun H locs hW => ?_)
            have hW : qWH E (qr S 2 (becS ν ρ)) s H locs := (by have h := hW; rw [qr_qr] at h; exact h)
            refine lv_aload_n X.x X.b d_X_kinds_61 rfl (lv_at hl 3 rfl) ?_
            refine q_getr X hW qj3 rfl _ ds_X 2 (by decide) mw_185 rfl (c1 := cB 2) rfl d_X_kinds_62 ?_
            refine q_getr X hW qj0 rfl _ (ds_cm (k := 2) (by decide)) 1 (by decide) mw_103 rfl (c1 := cB 2 + 2) rfl d_X_kinds_65 ?_
            refine lv_iload_n X.x X.b d_X_kinds_68 rfl (lv_at hl 5 rfl) ?_
            refine g_th (show 2 < 3 by decide) X hW (show t < 8 by omega) d_X_kinds_69 ?_
            refine lv_iconst (v := nI 0) X.x X.b d_X_kinds_70 (by decide) ?_
            refine lv_iload X.x X.b d_X_kinds_71 (lv_at hl 0 rfl) ?_
            refine g_ast X hW (ds_t (t := t) (k := 2) (by decide) (by omega)) (q_in (by omega) (by decide)) (p0 := 20 + 3 * t) (q_tn (by omega) (by omega)) (ρ := becS ν ρ) (by rw [qr_at]) d_X_kinds_73 (fun H locs hW => ?_)
            obtain ⟨r73, er73⟩ : ∃ z, z = upd (becS ν ρ) (20 + 3 * t) (nI i) := ⟨_, rfl⟩
            rw [← er73] at hW
            rw [qr_qr] at hW
            have her73 : eqv r73 (upd ρ (20 + 3 * t) (nI i)) := by rw [er73]; exact (becS_e hwf).up _ (by omega) (by omega)
            have hwr : WF r73 := WF_e her73 (WF_tk hwf (by omega) (by omega))
            have hnr : nW r73 = nW ρ ∧ nT r73 = nT ρ := ⟨by rw [her73.nW, nW_up (by omega)], by rw [her73.nT, nT_up (by omega)]⟩
            refine lv_aload_n X.x X.b d_X_kinds_74 rfl (lv_at hl 3 rfl) ?_
            refine lv_aload_n X.x X.b d_X_kinds_75 rfl (lv_at hl 3 rfl) ?_
            refine q_getr X hW qj3 rfl _ ds_X 5 (by decide) mw_188 rfl (c1 := 60) rfl d_X_kinds_76 ?_
            refine lv_iload_n X.x X.b d_X_kinds_79 rfl (lv_at hl 4 rfl) ?_
            refine g_ss X hW (show j < 4 by omega) d_X_kinds_80 ?_
            refine lv_aload_n X.x X.b d_X_kinds_81 rfl (lv_at hl 3 rfl) ?_
            refine q_getr X hW qj3 rfl _ ds_X 2 (by decide) mw_185 rfl (c1 := cB 2) rfl d_X_kinds_82 ?_
            refine q_getr X hW qj0 rfl _ (ds_cm (k := 2) (by decide)) 1 (by decide) mw_103 rfl (c1 := cB 2 + 2) rfl d_X_kinds_85 ?_
            refine lv_iload_n X.x X.b d_X_kinds_88 rfl (lv_at hl 5 rfl) ?_
            refine g_th (show 2 < 3 by decide) X hW (show t < 8 by omega) d_X_kinds_89 ?_
            refine lv_iconst (v := nI 1) X.x X.b d_X_kinds_90 (by decide) ?_
            refine q_cvip X (c_X_goesAsTold_t l E (qr S 2 r73) r73 (by rw [qr_at]) hwr j sz β σ (by omega) (by rw [qr_ne (by omega), hβ]) (by rw [qr_ne (by omega), hσ]) hs2 hsz t (by omega)) hW (q_recv X hW ds_X rfl) ok_X_goesAsTold mw_442 ⟨by decide, by decide⟩ (As := [.ref (eA E (61 + j)), .ref (eA E (cB 2 + 5 + t)), .int (nI 1)]) rfl rfl (Nat.le_of_ble_eq_true rfl) (lv := [(5, .int (nI i)), (4, .int a), (3, .int (nI 0)), (0, .ref (eA E 0)), (1, .int (nI j)), (2, .int (nI t))]) hl ⟨Nat.le_refl 0, Nat.le_refl 0⟩ d_X_kinds_91 (fun H locs Sq91 hP91 hW => ?_)
            obtain ⟨τ91, hτ91, rfl⟩ := hP91
            have hW : qWH E (qr S 2 τ91) s H locs := (by have h := hW; rw [qr_qr] at h; exact h)
            rw [show b2i (goesS r73 sz σ (20 + 3 * t + 1)) = b2i (goesS (upd ρ (20 + 3 * t) (nI i)) sz σ (20 + 3 * t + 1)) from b2i_c (goesS_t her73 hwr (by omega))]
            refine lv_if_eq (tgt := 106) X.x X.b d_X_kinds_94 (by decide) (fun c94 => ?_) (fun c94 => ?_)
            · have c94 := b2i_e c94
              refine lv_iinc (v := nI (i + 1)) (lv' := [(5, .int (nI (i + 1))), (4, .int a), (3, .int (nI 0)), (0, .ref (eA E 0)), (1, .int (nI j)), (2, .int (nI t))]) X.x X.b d_X_kinds_106 hl (k := 0) rfl (by rw [show Int32.ofInt 1 = nI 1 from by decide, nI_add]) (by decide) rfl (fun ls hl => ?_)
              refine lv_goto (tgt := 40) X.x X.b d_X_kinds_109 (by decide) ?_
              exact ih40 (i + 1) a τ91 (by omega) (by rw [fo_succ, ← ha]; first | exact (if_pos c94).symm | exact (if_neg c94).symm) hτ91 (by omega) _ _ _ hW (lv_sub hl [0, 1, 2, 3, 4, 5] rfl)
            · have c94 := b2i_n c94
              refine lv_iload X.x X.b d_X_kinds_97 (lv_at hl 1 rfl) ?_
              refine lv_iconst (v := nI 1) X.x X.b d_X_kinds_99 (by decide) ?_
              refine lv_iload X.x X.b d_X_kinds_100 (lv_at hl 0 rfl) ?_
              refine lv_ishl X.x X.b d_X_kinds_102 ?_
              refine lv_ior X.x X.b d_X_kinds_103 ?_
              refine lv_istore (lv' := [(4, .int (a ||| ((nI 1) <<< ((nI i) &&& 31)))), (5, .int (nI i)), (3, .int (nI 0)), (0, .ref (eA E 0)), (1, .int (nI j)), (2, .int (nI t))]) X.x X.b d_X_kinds_104 hl (by decide) rfl (fun ls hl => ?_)
              refine lv_iinc (v := nI (i + 1)) (lv' := [(5, .int (nI (i + 1))), (4, .int (a ||| ((nI 1) <<< ((nI i) &&& 31)))), (3, .int (nI 0)), (0, .ref (eA E 0)), (1, .int (nI j)), (2, .int (nI t))]) X.x X.b d_X_kinds_106 hl (k := 1) rfl (by rw [show Int32.ofInt 1 = nI 1 from by decide, nI_add]) (by decide) rfl (fun ls hl => ?_)
              refine lv_goto (tgt := 40) X.x X.b d_X_kinds_109 (by decide) ?_
              exact ih40 (i + 1) (a ||| ((nI 1) <<< ((nI i) &&& 31))) τ91 (by omega) (by rw [fo_succ, ← ha]; first | exact (if_pos c94).symm | exact (if_neg c94).symm) hτ91 (by omega) _ _ _ hW (lv_sub hl [0, 1, 2, 3, 4, 5] rfl)
      exact loop40 (7 - 0 + 1) 0 (nI 0) τ (by omega) rfl hτw (Nat.lt_succ_self _) _ _ _ hW (lv_sub hl [0, 1, 2, 3, 4, 5] rfl)
    · have c24 := b2i_e c24
      have c24 := mt (isT_i hwf (by omega)).mpr c24
      omega
  · exact absurd (by decide) c7
set_option maxHeartbeats 1000000 in
set_option maxRecDepth 20000 in
theorem c_X_kinds_la (l : Launch) (E : QE) (S : QM) (ρ φ : Nat → Int32) (hρ : S 0 = ρ) (hφ : S 14 = φ) (hwf : WF ρ) (x : Int32) (y : Int32) (h : ¬ inR 0 3 x) : qCI E l y_X_kinds prog_1_method_25_code 6 .int 3 [.ref (eA E 0), .int x, .int y] S (-1000001) (qr S 14 (fnS φ 0)) := by
  refine qCI_of (by decide) (Nat.le_of_ble_eq_true rfl) (fun p e s m below meth c ls X hW hl => ?_)
  have hl : lv_has ls 6 [(0, .ref (eA E 0)), (1, .int x), (2, .int y)] := hl
  have htl := hwf.tl
  have hwl := hwf.wl
  have hdl := hwf.dl
  refine lv_aload_n X.x X.b d_X_kinds_0 rfl (lv_at hl 0 rfl) ?_
  refine lv_iload_n X.x X.b d_X_kinds_1 rfl (lv_at hl 1 rfl) ?_
  refine q_cvi X (c_X_lackOf_a l E S x h) hW (q_recv X hW ds_X rfl) ok_X_lackOf mw_437 ⟨by decide, by decide⟩ (As := [.int x]) rfl rfl (Nat.le_of_ble_eq_true rfl) (lv := [(0, .ref (eA E 0)), (1, .int x), (2, .int y)]) hl ⟨Nat.le_refl 0, Nat.le_refl 0⟩ d_X_kinds_2 (fun H locs hW => ?_)
  refine lv_istore_n (lv' := [(3, .int (-1000001)), (0, .ref (eA E 0)), (1, .int x), (2, .int y)]) X.x X.b d_X_kinds_5 rfl hl (by decide) rfl (fun ls hl => ?_)
  refine lv_iload_n X.x X.b d_X_kinds_6 rfl (lv_at hl 0 rfl) ?_
  refine lv_if_eq (tgt := 16) X.x X.b d_X_kinds_7 (by decide) (fun c7 => ?_) (fun c7 => ?_)
  · exact absurd c7 (by decide)
  · refine lv_aload_n X.x X.b d_X_kinds_10 rfl (lv_at hl 1 rfl) ?_
    refine lv_iload_n X.x X.b d_X_kinds_11 rfl (lv_at hl 0 rfl) ?_
    refine q_cvi X (c_X_told_0 l E S φ (by rw [hφ])) hW (q_recv X hW ds_X rfl) ok_X_told mw_213 ⟨by decide, by decide⟩ (As := [.int (-1000001)]) rfl rfl (Nat.le_of_ble_eq_true rfl) (lv := [(3, .int (-1000001)), (0, .ref (eA E 0)), (1, .int x), (2, .int y)]) hl ⟨Nat.le_refl 0, Nat.le_refl 0⟩ d_X_kinds_12 (fun H locs hW => ?_)
    have hW : qWH E (qr S 14 (fnS φ 0)) s H locs := hW
    exact q_zret X rfl hW ⟨rfl, rfl⟩ d_X_kinds_15
set_option maxHeartbeats 1000000 in
set_option maxRecDepth 20000 in
theorem c_X_kinds_lb (l : Launch) (E : QE) (S : QM) (ρ φ : Nat → Int32) (hρ : S 0 = ρ) (hφ : S 14 = φ) (hwf : WF ρ) (j : Nat) (β : Nat → Int32) (hj : j < 4) (hβ : S (6 + j) = β) (hb : β 1 = 0) (y : Int32) : qCI E l y_X_kinds prog_1_method_25_code 6 .int 3 [.ref (eA E 0), .int (nI j), .int y] S (-1000006) (qr S 14 (fnS φ 5)) := by
  refine qCI_of (by decide) (Nat.le_of_ble_eq_true rfl) (fun p e s m below meth c ls X hW hl => ?_)
  have hl : lv_has ls 6 [(0, .ref (eA E 0)), (1, .int (nI j)), (2, .int y)] := hl
  have htl := hwf.tl
  have hwl := hwf.wl
  have hdl := hwf.dl
  refine lv_aload_n X.x X.b d_X_kinds_0 rfl (lv_at hl 0 rfl) ?_
  refine lv_iload_n X.x X.b d_X_kinds_1 rfl (lv_at hl 1 rfl) ?_
  refine q_cvi X (c_X_lackOf_b l E S j β hj (by rw [hβ]) hb) hW (q_recv X hW ds_X rfl) ok_X_lackOf mw_437 ⟨by decide, by decide⟩ (As := [.int (nI j)]) rfl rfl (Nat.le_of_ble_eq_true rfl) (lv := [(0, .ref (eA E 0)), (1, .int (nI j)), (2, .int y)]) hl ⟨Nat.le_refl 0, Nat.le_refl 0⟩ d_X_kinds_2 (fun H locs hW => ?_)
  refine lv_istore_n (lv' := [(3, .int (-1000006)), (0, .ref (eA E 0)), (1, .int (nI j)), (2, .int y)]) X.x X.b d_X_kinds_5 rfl hl (by decide) rfl (fun ls hl => ?_)
  refine lv_iload_n X.x X.b d_X_kinds_6 rfl (lv_at hl 0 rfl) ?_
  refine lv_if_eq (tgt := 16) X.x X.b d_X_kinds_7 (by decide) (fun c7 => ?_) (fun c7 => ?_)
  · exact absurd c7 (by decide)
  · refine lv_aload_n X.x X.b d_X_kinds_10 rfl (lv_at hl 1 rfl) ?_
    refine lv_iload_n X.x X.b d_X_kinds_11 rfl (lv_at hl 0 rfl) ?_
    refine q_cvi X (c_X_told_5 l E S φ (by rw [hφ])) hW (q_recv X hW ds_X rfl) ok_X_told mw_213 ⟨by decide, by decide⟩ (As := [.int (-1000006)]) rfl rfl (Nat.le_of_ble_eq_true rfl) (lv := [(3, .int (-1000006)), (0, .ref (eA E 0)), (1, .int (nI j)), (2, .int y)]) hl ⟨Nat.le_refl 0, Nat.le_refl 0⟩ d_X_kinds_12 (fun H locs hW => ?_)
    have hW : qWH E (qr S 14 (fnS φ 5)) s H locs := hW
    exact q_zret X rfl hW ⟨rfl, rfl⟩ d_X_kinds_15
set_option maxHeartbeats 1000000 in
set_option maxRecDepth 20000 in
theorem c_X_kinds_b (l : Launch) (E : QE) (S : QM) (ρ φ : Nat → Int32) (hρ : S 0 = ρ) (hφ : S 14 = φ) (hwf : WF ρ) (j sz : Nat) (β σ : Nat → Int32) (hj : j < 4) (hβ : S (6 + j) = β) (hσ : S (10 + j) = σ) (hb : ¬ β 1 = 0) (hs2 : β 2 = nI sz) (hsz : sz ≤ 40) (y : Int32) (h : ¬ isT ρ y) : qCI E l y_X_kinds prog_1_method_25_code 6 .int 3 [.ref (eA E 0), .int (nI j), .int y] S (-1000001) (qr S 14 (fnS φ 0)) := by
  refine qCI_of (by decide) (Nat.le_of_ble_eq_true rfl) (fun p e s m below meth c ls X hW hl => ?_)
  have hl : lv_has ls 6 [(0, .ref (eA E 0)), (1, .int (nI j)), (2, .int y)] := hl
  have htl := hwf.tl
  have hwl := hwf.wl
  have hdl := hwf.dl
  refine lv_aload_n X.x X.b d_X_kinds_0 rfl (lv_at hl 0 rfl) ?_
  refine lv_iload_n X.x X.b d_X_kinds_1 rfl (lv_at hl 1 rfl) ?_
  refine q_cvi X (c_X_lackOf_c l E S j β hj (by rw [hβ]) hb) hW (q_recv X hW ds_X rfl) ok_X_lackOf mw_437 ⟨by decide, by decide⟩ (As := [.int (nI j)]) rfl rfl (Nat.le_of_ble_eq_true rfl) (lv := [(0, .ref (eA E 0)), (1, .int (nI j)), (2, .int y)]) hl ⟨Nat.le_refl 0, Nat.le_refl 0⟩ d_X_kinds_2 (fun H locs hW => ?_)
  refine lv_istore_n (lv' := [(3, .int (nI 0)), (0, .ref (eA E 0)), (1, .int (nI j)), (2, .int y)]) X.x X.b d_X_kinds_5 rfl hl (by decide) rfl (fun ls hl => ?_)
  refine lv_iload_n X.x X.b d_X_kinds_6 rfl (lv_at hl 0 rfl) ?_
  refine lv_if_eq (tgt := 16) X.x X.b d_X_kinds_7 (by decide) (fun c7 => ?_) (fun c7 => ?_)
  · have c7 : 0 = 0 := (nI_eq (a := 0) (b := 0) (by omega) (by omega)).mp c7
    refine lv_aload_n X.x X.b d_X_kinds_16 rfl (lv_at hl 1 rfl) ?_
    refine q_getr X hW qj3 rfl _ ds_X 0 (by decide) mw_183 rfl (c1 := cB 0) rfl d_X_kinds_17 ?_
    refine lv_iload_n X.x X.b d_X_kinds_20 rfl (lv_at hl 3 rfl) ?_
    refine q_cvi X (c_Cm_hasThing l E 0 (by decide) S ρ (by rw [hρ]) hwf y) hW (q_recv X hW (ds_cm (k := 0) (by decide)) rfl) ok_Cm_hasThing mw_244 ⟨by decide, by decide⟩ (As := [.int y]) rfl rfl (Nat.le_of_ble_eq_true rfl) (lv := [(3, .int (nI 0)), (0, .ref (eA E 0)), (1, .int (nI j)), (2, .int y)]) hl ⟨Nat.le_refl 0, Nat.le_refl 0⟩ d_X_kinds_21 (fun H locs hW => ?_)
    refine lv_if_ne (tgt := 34) X.x X.b d_X_kinds_24 (by decide) (fun c24 => ?_) (fun c24 => ?_)
    · have c24 := b2i_n c24
      exact absurd c24 h
    · have c24 := b2i_e c24
      refine lv_aload_n X.x X.b d_X_kinds_27 rfl (lv_at hl 1 rfl) ?_
      refine lv_ldc (v := (-1000001)) X.x X.b X.ow (X.ts _ mw_212) d_X_kinds_28 ?_
      refine q_cvi X (c_X_told_0 l E S φ (by rw [hφ])) hW (q_recv X hW ds_X rfl) ok_X_told mw_213 ⟨by decide, by decide⟩ (As := [.int (-1000001)]) rfl rfl (Nat.le_of_ble_eq_true rfl) (lv := [(3, .int (nI 0)), (0, .ref (eA E 0)), (1, .int (nI j)), (2, .int y)]) hl ⟨Nat.le_refl 0, Nat.le_refl 0⟩ d_X_kinds_30 (fun H locs hW => ?_)
      have hW : qWH E (qr S 14 (fnS φ 0)) s H locs := hW
      exact q_zret X rfl hW ⟨rfl, rfl⟩ d_X_kinds_33
  · exact absurd (by decide) c7
