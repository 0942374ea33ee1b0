theorem d_R_hold_0 : decode prog_7_method_96_code 0 = .ok (.iload_n 1, 1) := by decide +kernel
theorem d_R_hold_1 : decode prog_7_method_96_code 1 = .ok (.invokestatic 330, 3) := by decide +kernel
theorem d_R_hold_4 : decode prog_7_method_96_code 4 = .ok (.ifCond .eq 16, 3) := by decide +kernel
theorem d_R_hold_7 : decode prog_7_method_96_code 7 = .ok (.iload_n 2, 1) := by decide +kernel
theorem d_R_hold_8 : decode prog_7_method_96_code 8 = .ok (.iconst (-1), 1) := by decide +kernel
theorem d_R_hold_9 : decode prog_7_method_96_code 9 = .ok (.if_icmp .eq 18, 3) := by decide +kernel
theorem d_R_hold_12 : decode prog_7_method_96_code 12 = .ok (.aload_n 0, 1) := by decide +kernel
theorem d_R_hold_13 : decode prog_7_method_96_code 13 = .ok (.iload_n 2, 1) := by decide +kernel
theorem d_R_hold_14 : decode prog_7_method_96_code 14 = .ok (.invokevirtual 116, 3) := by decide +kernel
theorem d_R_hold_17 : decode prog_7_method_96_code 17 = .ok (.ifCond .ne 10, 3) := by decide +kernel
theorem d_R_hold_27 : decode prog_7_method_96_code 27 = .ok (.aload_n 0, 1) := by decide +kernel
theorem d_R_hold_28 : decode prog_7_method_96_code 28 = .ok (.getfield 9, 3) := by decide +kernel
theorem d_R_hold_31 : decode prog_7_method_96_code 31 = .ok (.bipush 10, 2) := by decide +kernel
theorem d_R_hold_33 : decode prog_7_method_96_code 33 = .ok (.iload_n 1, 1) := by decide +kernel
theorem d_R_hold_34 : decode prog_7_method_96_code 34 = .ok (.iadd, 1) := by decide +kernel
theorem d_R_hold_35 : decode prog_7_method_96_code 35 = .ok (.iload_n 2, 1) := by decide +kernel
theorem d_R_hold_36 : decode prog_7_method_96_code 36 = .ok (.iastore, 1) := by decide +kernel
theorem d_R_hold_37 : decode prog_7_method_96_code 37 = .ok (.iconst 1, 1) := by decide +kernel
theorem d_R_hold_38 : decode prog_7_method_96_code 38 = .ok (.ireturn, 1) := by decide +kernel
theorem d_R_hold_20 : decode prog_7_method_96_code 20 = .ok (.aload_n 0, 1) := by decide +kernel
theorem d_R_hold_21 : decode prog_7_method_96_code 21 = .ok (.ldc 60, 2) := by decide +kernel
theorem d_R_hold_23 : decode prog_7_method_96_code 23 = .ok (.invokevirtual 66, 3) := by decide +kernel
theorem d_R_hold_26 : decode prog_7_method_96_code 26 = .ok (.ireturn, 1) := by decide +kernel
theorem d_R_above_0 : decode prog_7_method_103_code 0 = .ok (.iload_n 0, 1) := by decide +kernel
theorem d_R_above_1 : decode prog_7_method_103_code 1 = .ok (.ifCond .ne 7, 3) := by decide +kernel
theorem d_R_above_4 : decode prog_7_method_103_code 4 = .ok (.iconst (-1), 1) := by decide +kernel
theorem d_R_above_5 : decode prog_7_method_103_code 5 = .ok (.goto 32, 3) := by decide +kernel
theorem d_R_above_37 : decode prog_7_method_103_code 37 = .ok (.ireturn, 1) := by decide +kernel
theorem d_R_above_8 : decode prog_7_method_103_code 8 = .ok (.iload_n 0, 1) := by decide +kernel
theorem d_R_above_9 : decode prog_7_method_103_code 9 = .ok (.iconst 3, 1) := by decide +kernel
theorem d_R_above_10 : decode prog_7_method_103_code 10 = .ok (.if_icmp .ne 7, 3) := by decide +kernel
theorem d_R_above_17 : decode prog_7_method_103_code 17 = .ok (.iload_n 0, 1) := by decide +kernel
theorem d_R_above_18 : decode prog_7_method_103_code 18 = .ok (.iconst 4, 1) := by decide +kernel
theorem d_R_above_19 : decode prog_7_method_103_code 19 = .ok (.if_icmp .ne 7, 3) := by decide +kernel
theorem d_R_above_26 : decode prog_7_method_103_code 26 = .ok (.iload_n 0, 1) := by decide +kernel
theorem d_R_above_27 : decode prog_7_method_103_code 27 = .ok (.bipush 6, 2) := by decide +kernel
theorem d_R_above_29 : decode prog_7_method_103_code 29 = .ok (.if_icmp .ne 7, 3) := by decide +kernel
theorem d_R_above_36 : decode prog_7_method_103_code 36 = .ok (.iconst 0, 1) := by decide +kernel
theorem d_R_above_13 : decode prog_7_method_103_code 13 = .ok (.iconst 2, 1) := by decide +kernel
theorem d_R_above_14 : decode prog_7_method_103_code 14 = .ok (.goto 23, 3) := by decide +kernel
theorem d_R_above_22 : decode prog_7_method_103_code 22 = .ok (.iconst 3, 1) := by decide +kernel
theorem d_R_above_23 : decode prog_7_method_103_code 23 = .ok (.goto 14, 3) := by decide +kernel
theorem d_R_above_32 : decode prog_7_method_103_code 32 = .ok (.iconst 1, 1) := by decide +kernel
theorem d_R_above_33 : decode prog_7_method_103_code 33 = .ok (.goto 4, 3) := by decide +kernel
theorem d_R_isUnder_0 : decode prog_7_method_104_code 0 = .ok (.iload_n 0, 1) := by decide +kernel
theorem d_R_isUnder_1 : decode prog_7_method_104_code 1 = .ok (.istore_n 2, 1) := by decide +kernel
theorem d_R_isUnder_2 : decode prog_7_method_104_code 2 = .ok (.iload_n 2, 1) := by decide +kernel
theorem d_R_isUnder_3 : decode prog_7_method_104_code 3 = .ok (.ifCond .lt 16, 3) := by decide +kernel
theorem d_R_isUnder_6 : decode prog_7_method_104_code 6 = .ok (.iload_n 2, 1) := by decide +kernel
theorem d_R_isUnder_7 : decode prog_7_method_104_code 7 = .ok (.iload_n 1, 1) := by decide +kernel
theorem d_R_isUnder_8 : decode prog_7_method_104_code 8 = .ok (.if_icmp .eq 11, 3) := by decide +kernel
theorem d_R_isUnder_11 : decode prog_7_method_104_code 11 = .ok (.iload_n 2, 1) := by decide +kernel
theorem d_R_isUnder_12 : decode prog_7_method_104_code 12 = .ok (.invokestatic 341, 3) := by decide +kernel
theorem d_R_isUnder_15 : decode prog_7_method_104_code 15 = .ok (.istore_n 2, 1) := by decide +kernel
theorem d_R_isUnder_16 : decode prog_7_method_104_code 16 = .ok (.goto (-14), 3) := by decide +kernel
theorem d_R_isUnder_19 : decode prog_7_method_104_code 19 = .ok (.iload_n 2, 1) := by decide +kernel
theorem d_R_isUnder_20 : decode prog_7_method_104_code 20 = .ok (.ifCond .lt 7, 3) := by decide +kernel
theorem d_R_isUnder_23 : decode prog_7_method_104_code 23 = .ok (.iconst 1, 1) := by decide +kernel
theorem d_R_isUnder_24 : decode prog_7_method_104_code 24 = .ok (.goto 4, 3) := by decide +kernel
theorem d_R_isUnder_27 : decode prog_7_method_104_code 27 = .ok (.iconst 0, 1) := by decide +kernel
theorem d_R_isUnder_28 : decode prog_7_method_104_code 28 = .ok (.ireturn, 1) := by decide +kernel
theorem d_R_as_0 : decode prog_7_method_97_code 0 = .ok (.iload_n 1, 1) := by decide +kernel
theorem d_R_as_1 : decode prog_7_method_97_code 1 = .ok (.invokestatic 330, 3) := by decide +kernel
theorem d_R_as_4 : decode prog_7_method_97_code 4 = .ok (.ifCond .eq 10, 3) := by decide +kernel
theorem d_R_as_7 : decode prog_7_method_97_code 7 = .ok (.iload_n 2, 1) := by decide +kernel
theorem d_R_as_8 : decode prog_7_method_97_code 8 = .ok (.invokestatic 91, 3) := by decide +kernel
theorem d_R_as_11 : decode prog_7_method_97_code 11 = .ok (.ifCond .ne 10, 3) := by decide +kernel
theorem d_R_as_21 : decode prog_7_method_97_code 21 = .ok (.aload_n 0, 1) := by decide +kernel
theorem d_R_as_22 : decode prog_7_method_97_code 22 = .ok (.getfield 9, 3) := by decide +kernel
theorem d_R_as_25 : decode prog_7_method_97_code 25 = .ok (.bipush 10, 2) := by decide +kernel
theorem d_R_as_27 : decode prog_7_method_97_code 27 = .ok (.iload_n 1, 1) := by decide +kernel
theorem d_R_as_28 : decode prog_7_method_97_code 28 = .ok (.iadd, 1) := by decide +kernel
theorem d_R_as_29 : decode prog_7_method_97_code 29 = .ok (.iaload, 1) := by decide +kernel
theorem d_R_as_30 : decode prog_7_method_97_code 30 = .ok (.istore_n 3, 1) := by decide +kernel
theorem d_R_as_31 : decode prog_7_method_97_code 31 = .ok (.iload_n 3, 1) := by decide +kernel
theorem d_R_as_32 : decode prog_7_method_97_code 32 = .ok (.ifCond .ge 10, 3) := by decide +kernel
theorem d_R_as_42 : decode prog_7_method_97_code 42 = .ok (.aload_n 0, 1) := by decide +kernel
theorem d_R_as_43 : decode prog_7_method_97_code 43 = .ok (.iload_n 3, 1) := by decide +kernel
theorem d_R_as_44 : decode prog_7_method_97_code 44 = .ok (.iconst 0, 1) := by decide +kernel
theorem d_R_as_45 : decode prog_7_method_97_code 45 = .ok (.invokevirtual 104, 3) := by decide +kernel
theorem d_R_as_48 : decode prog_7_method_97_code 48 = .ok (.iload_n 2, 1) := by decide +kernel
theorem d_R_as_49 : decode prog_7_method_97_code 49 = .ok (.invokestatic 333, 3) := by decide +kernel
theorem d_R_as_52 : decode prog_7_method_97_code 52 = .ok (.ifCond .eq 7, 3) := by decide +kernel
theorem d_R_as_55 : decode prog_7_method_97_code 55 = .ok (.iload_n 3, 1) := by decide +kernel
theorem d_R_as_56 : decode prog_7_method_97_code 56 = .ok (.goto 10, 3) := by decide +kernel
theorem d_R_as_66 : decode prog_7_method_97_code 66 = .ok (.ireturn, 1) := by decide +kernel
theorem d_R_as_59 : decode prog_7_method_97_code 59 = .ok (.aload_n 0, 1) := by decide +kernel
theorem d_R_as_60 : decode prog_7_method_97_code 60 = .ok (.ldc_w 336, 3) := by decide +kernel
theorem d_R_as_63 : decode prog_7_method_97_code 63 = .ok (.invokevirtual 66, 3) := by decide +kernel
theorem d_R_as_35 : decode prog_7_method_97_code 35 = .ok (.aload_n 0, 1) := by decide +kernel
theorem d_R_as_36 : decode prog_7_method_97_code 36 = .ok (.ldc 236, 2) := by decide +kernel
theorem d_R_as_38 : decode prog_7_method_97_code 38 = .ok (.invokevirtual 66, 3) := by decide +kernel
theorem d_R_as_41 : decode prog_7_method_97_code 41 = .ok (.ireturn, 1) := by decide +kernel
theorem d_R_as_14 : decode prog_7_method_97_code 14 = .ok (.aload_n 0, 1) := by decide +kernel
theorem d_R_as_15 : decode prog_7_method_97_code 15 = .ok (.ldc 60, 2) := by decide +kernel
theorem d_R_as_17 : decode prog_7_method_97_code 17 = .ok (.invokevirtual 66, 3) := by decide +kernel
theorem d_R_as_20 : decode prog_7_method_97_code 20 = .ok (.ireturn, 1) := by decide +kernel
theorem d_R_cutTo_0 : decode prog_7_method_99_code 0 = .ok (.iload_n 1, 1) := by decide +kernel
theorem d_R_cutTo_1 : decode prog_7_method_99_code 1 = .ok (.bipush 8, 2) := by decide +kernel
theorem d_R_cutTo_3 : decode prog_7_method_99_code 3 = .ok (.if_icmp .ne 8, 3) := by decide +kernel
theorem d_R_cutTo_6 : decode prog_7_method_99_code 6 = .ok (.iload_n 0, 1) := by decide +kernel
theorem d_R_cutTo_7 : decode prog_7_method_99_code 7 = .ok (.i2b, 1) := by decide +kernel
theorem d_R_cutTo_8 : decode prog_7_method_99_code 8 = .ok (.goto 15, 3) := by decide +kernel
theorem d_R_cutTo_11 : decode prog_7_method_99_code 11 = .ok (.iload_n 1, 1) := by decide +kernel
theorem d_R_cutTo_12 : decode prog_7_method_99_code 12 = .ok (.bipush 16, 2) := by decide +kernel
theorem d_R_cutTo_14 : decode prog_7_method_99_code 14 = .ok (.if_icmp .ne 8, 3) := by decide +kernel
theorem d_R_cutTo_17 : decode prog_7_method_99_code 17 = .ok (.iload_n 0, 1) := by decide +kernel
theorem d_R_cutTo_18 : decode prog_7_method_99_code 18 = .ok (.i2s, 1) := by decide +kernel
theorem d_R_cutTo_19 : decode prog_7_method_99_code 19 = .ok (.goto 4, 3) := by decide +kernel
theorem d_R_cutTo_22 : decode prog_7_method_99_code 22 = .ok (.iload_n 0, 1) := by decide +kernel
theorem d_R_cutTo_23 : decode prog_7_method_99_code 23 = .ok (.ireturn, 1) := by decide +kernel
theorem d_R_sheet_0 : decode prog_7_method_100_code 0 = .ok (.iload_n 1, 1) := by decide +kernel
theorem d_R_sheet_1 : decode prog_7_method_100_code 1 = .ok (.invokestatic 233, 3) := by decide +kernel
theorem d_R_sheet_4 : decode prog_7_method_100_code 4 = .ok (.ifCond .eq 25, 3) := by decide +kernel
theorem d_R_sheet_7 : decode prog_7_method_100_code 7 = .ok (.iload_n 2, 1) := by decide +kernel
theorem d_R_sheet_8 : decode prog_7_method_100_code 8 = .ok (.ifCond .eq 28, 3) := by decide +kernel
theorem d_R_sheet_11 : decode prog_7_method_100_code 11 = .ok (.iload_n 2, 1) := by decide +kernel
theorem d_R_sheet_12 : decode prog_7_method_100_code 12 = .ok (.bipush 8, 2) := by decide +kernel
theorem d_R_sheet_14 : decode prog_7_method_100_code 14 = .ok (.if_icmp .eq 22, 3) := by decide +kernel
theorem d_R_sheet_17 : decode prog_7_method_100_code 17 = .ok (.iload_n 2, 1) := by decide +kernel
theorem d_R_sheet_18 : decode prog_7_method_100_code 18 = .ok (.bipush 16, 2) := by decide +kernel
theorem d_R_sheet_20 : decode prog_7_method_100_code 20 = .ok (.if_icmp .eq 16, 3) := by decide +kernel
theorem d_R_sheet_23 : decode prog_7_method_100_code 23 = .ok (.iload_n 2, 1) := by decide +kernel
theorem d_R_sheet_24 : decode prog_7_method_100_code 24 = .ok (.bipush 32, 2) := by decide +kernel
theorem d_R_sheet_26 : decode prog_7_method_100_code 26 = .ok (.if_icmp .eq 10, 3) := by decide +kernel
theorem d_R_sheet_36 : decode prog_7_method_100_code 36 = .ok (.iload_n 3, 1) := by decide +kernel
theorem d_R_sheet_37 : decode prog_7_method_100_code 37 = .ok (.ifCond .ge 11, 3) := by decide +kernel
theorem d_R_sheet_48 : decode prog_7_method_100_code 48 = .ok (.iload_n 3, 1) := by decide +kernel
theorem d_R_sheet_49 : decode prog_7_method_100_code 49 = .ok (.bipush 40, 2) := by decide +kernel
theorem d_R_sheet_51 : decode prog_7_method_100_code 51 = .ok (.if_icmp .le 10, 3) := by decide +kernel
theorem d_R_sheet_61 : decode prog_7_method_100_code 61 = .ok (.aload_n 0, 1) := by decide +kernel
theorem d_R_sheet_62 : decode prog_7_method_100_code 62 = .ok (.getfield 48, 3) := by decide +kernel
theorem d_R_sheet_65 : decode prog_7_method_100_code 65 = .ok (.iload_n 1, 1) := by decide +kernel
theorem d_R_sheet_66 : decode prog_7_method_100_code 66 = .ok (.iload_n 2, 1) := by decide +kernel
theorem d_R_sheet_67 : decode prog_7_method_100_code 67 = .ok (.iastore, 1) := by decide +kernel
theorem d_R_sheet_68 : decode prog_7_method_100_code 68 = .ok (.aload_n 0, 1) := by decide +kernel
theorem d_R_sheet_69 : decode prog_7_method_100_code 69 = .ok (.getfield 51, 3) := by decide +kernel
theorem d_R_sheet_72 : decode prog_7_method_100_code 72 = .ok (.iload_n 1, 1) := by decide +kernel
theorem d_R_sheet_73 : decode prog_7_method_100_code 73 = .ok (.iload_n 2, 1) := by decide +kernel
theorem d_R_sheet_74 : decode prog_7_method_100_code 74 = .ok (.ifCond .ne 7, 3) := by decide +kernel
theorem d_R_sheet_81 : decode prog_7_method_100_code 81 = .ok (.iload_n 3, 1) := by decide +kernel
theorem d_R_sheet_82 : decode prog_7_method_100_code 82 = .ok (.iastore, 1) := by decide +kernel
theorem d_R_sheet_83 : decode prog_7_method_100_code 83 = .ok (.iconst 0, 1) := by decide +kernel
theorem d_R_sheet_84 : decode prog_7_method_100_code 84 = .ok (.istore 4, 2) := by decide +kernel
theorem d_R_sheet_86 : decode prog_7_method_100_code 86 = .ok (.iload 4, 2) := by decide +kernel
theorem d_R_sheet_88 : decode prog_7_method_100_code 88 = .ok (.bipush 40, 2) := by decide +kernel
theorem d_R_sheet_90 : decode prog_7_method_100_code 90 = .ok (.if_icmp .ge 22, 3) := by decide +kernel
theorem d_R_sheet_93 : decode prog_7_method_100_code 93 = .ok (.aload_n 0, 1) := by decide +kernel
theorem d_R_sheet_94 : decode prog_7_method_100_code 94 = .ok (.getfield 54, 3) := by decide +kernel
theorem d_R_sheet_97 : decode prog_7_method_100_code 97 = .ok (.bipush 40, 2) := by decide +kernel
theorem d_R_sheet_99 : decode prog_7_method_100_code 99 = .ok (.iload_n 1, 1) := by decide +kernel
theorem d_R_sheet_100 : decode prog_7_method_100_code 100 = .ok (.imul, 1) := by decide +kernel
theorem d_R_sheet_101 : decode prog_7_method_100_code 101 = .ok (.iload 4, 2) := by decide +kernel
theorem d_R_sheet_103 : decode prog_7_method_100_code 103 = .ok (.iadd, 1) := by decide +kernel
theorem d_R_sheet_104 : decode prog_7_method_100_code 104 = .ok (.iconst 0, 1) := by decide +kernel
theorem d_R_sheet_105 : decode prog_7_method_100_code 105 = .ok (.iastore, 1) := by decide +kernel
theorem d_R_sheet_106 : decode prog_7_method_100_code 106 = .ok (.iinc 4 1, 3) := by decide +kernel
theorem d_R_sheet_109 : decode prog_7_method_100_code 109 = .ok (.goto (-23), 3) := by decide +kernel
theorem d_R_sheet_112 : decode prog_7_method_100_code 112 = .ok (.aload_n 0, 1) := by decide +kernel
theorem d_R_sheet_113 : decode prog_7_method_100_code 113 = .ok (.getfield 51, 3) := by decide +kernel
theorem d_R_sheet_116 : decode prog_7_method_100_code 116 = .ok (.iload_n 1, 1) := by decide +kernel
theorem d_R_sheet_117 : decode prog_7_method_100_code 117 = .ok (.iaload, 1) := by decide +kernel
theorem d_R_sheet_118 : decode prog_7_method_100_code 118 = .ok (.ireturn, 1) := by decide +kernel
theorem d_R_sheet_77 : decode prog_7_method_100_code 77 = .ok (.iconst 0, 1) := by decide +kernel
theorem d_R_sheet_78 : decode prog_7_method_100_code 78 = .ok (.goto 4, 3) := by decide +kernel
theorem d_R_sheet_40 : decode prog_7_method_100_code 40 = .ok (.aload_n 0, 1) := by decide +kernel
theorem d_R_sheet_41 : decode prog_7_method_100_code 41 = .ok (.ldc_w 337, 3) := by decide +kernel
theorem d_R_sheet_44 : decode prog_7_method_100_code 44 = .ok (.invokevirtual 66, 3) := by decide +kernel
theorem d_R_sheet_47 : decode prog_7_method_100_code 47 = .ok (.ireturn, 1) := by decide +kernel
theorem d_R_sheet_54 : decode prog_7_method_100_code 54 = .ok (.aload_n 0, 1) := by decide +kernel
theorem d_R_sheet_55 : decode prog_7_method_100_code 55 = .ok (.ldc 60, 2) := by decide +kernel
theorem d_R_sheet_57 : decode prog_7_method_100_code 57 = .ok (.invokevirtual 66, 3) := by decide +kernel
theorem d_R_sheet_60 : decode prog_7_method_100_code 60 = .ok (.ireturn, 1) := by decide +kernel
theorem d_R_sheet_29 : decode prog_7_method_100_code 29 = .ok (.aload_n 0, 1) := by decide +kernel
theorem d_R_sheet_30 : decode prog_7_method_100_code 30 = .ok (.ldc 60, 2) := by decide +kernel
theorem d_R_sheet_32 : decode prog_7_method_100_code 32 = .ok (.invokevirtual 66, 3) := by decide +kernel
theorem d_R_sheet_35 : decode prog_7_method_100_code 35 = .ok (.ireturn, 1) := by decide +kernel
theorem d_R_write_0 : decode prog_7_method_101_code 0 = .ok (.iload_n 1, 1) := by decide +kernel
theorem d_R_write_1 : decode prog_7_method_101_code 1 = .ok (.invokestatic 233, 3) := by decide +kernel
theorem d_R_write_4 : decode prog_7_method_101_code 4 = .ok (.ifCond .ne 10, 3) := by decide +kernel
theorem d_R_write_14 : decode prog_7_method_101_code 14 = .ok (.aload_n 0, 1) := by decide +kernel
theorem d_R_write_15 : decode prog_7_method_101_code 15 = .ok (.getfield 48, 3) := by decide +kernel
theorem d_R_write_18 : decode prog_7_method_101_code 18 = .ok (.iload_n 1, 1) := by decide +kernel
theorem d_R_write_19 : decode prog_7_method_101_code 19 = .ok (.iaload, 1) := by decide +kernel
theorem d_R_write_20 : decode prog_7_method_101_code 20 = .ok (.ifCond .ne 10, 3) := by decide +kernel
theorem d_R_write_30 : decode prog_7_method_101_code 30 = .ok (.iload_n 2, 1) := by decide +kernel
theorem d_R_write_31 : decode prog_7_method_101_code 31 = .ok (.iconst 0, 1) := by decide +kernel
theorem d_R_write_32 : decode prog_7_method_101_code 32 = .ok (.aload_n 0, 1) := by decide +kernel
theorem d_R_write_33 : decode prog_7_method_101_code 33 = .ok (.getfield 51, 3) := by decide +kernel
theorem d_R_write_36 : decode prog_7_method_101_code 36 = .ok (.iload_n 1, 1) := by decide +kernel
theorem d_R_write_37 : decode prog_7_method_101_code 37 = .ok (.iaload, 1) := by decide +kernel
theorem d_R_write_38 : decode prog_7_method_101_code 38 = .ok (.iconst 1, 1) := by decide +kernel
theorem d_R_write_39 : decode prog_7_method_101_code 39 = .ok (.isub, 1) := by decide +kernel
theorem d_R_write_40 : decode prog_7_method_101_code 40 = .ok (.invokestatic 70, 3) := by decide +kernel
theorem d_R_write_43 : decode prog_7_method_101_code 43 = .ok (.ifCond .ne 10, 3) := by decide +kernel
theorem d_R_write_53 : decode prog_7_method_101_code 53 = .ok (.aload_n 0, 1) := by decide +kernel
theorem d_R_write_54 : decode prog_7_method_101_code 54 = .ok (.getfield 54, 3) := by decide +kernel
theorem d_R_write_57 : decode prog_7_method_101_code 57 = .ok (.bipush 40, 2) := by decide +kernel
theorem d_R_write_59 : decode prog_7_method_101_code 59 = .ok (.iload_n 1, 1) := by decide +kernel
theorem d_R_write_60 : decode prog_7_method_101_code 60 = .ok (.imul, 1) := by decide +kernel
theorem d_R_write_61 : decode prog_7_method_101_code 61 = .ok (.iload_n 2, 1) := by decide +kernel
theorem d_R_write_62 : decode prog_7_method_101_code 62 = .ok (.iadd, 1) := by decide +kernel
theorem d_R_write_63 : decode prog_7_method_101_code 63 = .ok (.iload_n 3, 1) := by decide +kernel
theorem d_R_write_64 : decode prog_7_method_101_code 64 = .ok (.aload_n 0, 1) := by decide +kernel
theorem d_R_write_65 : decode prog_7_method_101_code 65 = .ok (.getfield 48, 3) := by decide +kernel
theorem d_R_write_68 : decode prog_7_method_101_code 68 = .ok (.iload_n 1, 1) := by decide +kernel
theorem d_R_write_69 : decode prog_7_method_101_code 69 = .ok (.iaload, 1) := by decide +kernel
theorem d_R_write_70 : decode prog_7_method_101_code 70 = .ok (.invokestatic 338, 3) := by decide +kernel
theorem d_R_write_73 : decode prog_7_method_101_code 73 = .ok (.iastore, 1) := by decide +kernel
theorem d_R_write_74 : decode prog_7_method_101_code 74 = .ok (.iconst 1, 1) := by decide +kernel
theorem d_R_write_75 : decode prog_7_method_101_code 75 = .ok (.ireturn, 1) := by decide +kernel
theorem d_R_write_46 : decode prog_7_method_101_code 46 = .ok (.aload_n 0, 1) := by decide +kernel
theorem d_R_write_47 : decode prog_7_method_101_code 47 = .ok (.ldc 60, 2) := by decide +kernel
theorem d_R_write_49 : decode prog_7_method_101_code 49 = .ok (.invokevirtual 66, 3) := by decide +kernel
theorem d_R_write_52 : decode prog_7_method_101_code 52 = .ok (.ireturn, 1) := by decide +kernel
theorem d_R_write_23 : decode prog_7_method_101_code 23 = .ok (.aload_n 0, 1) := by decide +kernel
theorem d_R_write_24 : decode prog_7_method_101_code 24 = .ok (.ldc 236, 2) := by decide +kernel
theorem d_R_write_26 : decode prog_7_method_101_code 26 = .ok (.invokevirtual 66, 3) := by decide +kernel
theorem d_R_write_29 : decode prog_7_method_101_code 29 = .ok (.ireturn, 1) := by decide +kernel
theorem d_R_write_7 : decode prog_7_method_101_code 7 = .ok (.aload_n 0, 1) := by decide +kernel
theorem d_R_write_8 : decode prog_7_method_101_code 8 = .ok (.ldc 60, 2) := by decide +kernel
theorem d_R_write_10 : decode prog_7_method_101_code 10 = .ok (.invokevirtual 66, 3) := by decide +kernel
theorem d_R_write_13 : decode prog_7_method_101_code 13 = .ok (.ireturn, 1) := by decide +kernel
theorem d_R_copy_0 : decode prog_7_method_102_code 0 = .ok (.iload_n 1, 1) := by decide +kernel
theorem d_R_copy_1 : decode prog_7_method_102_code 1 = .ok (.invokestatic 233, 3) := by decide +kernel
theorem d_R_copy_4 : decode prog_7_method_102_code 4 = .ok (.ifCond .eq 10, 3) := by decide +kernel
theorem d_R_copy_7 : decode prog_7_method_102_code 7 = .ok (.iload_n 3, 1) := by decide +kernel
theorem d_R_copy_8 : decode prog_7_method_102_code 8 = .ok (.invokestatic 233, 3) := by decide +kernel
theorem d_R_copy_11 : decode prog_7_method_102_code 11 = .ok (.ifCond .ne 10, 3) := by decide +kernel
theorem d_R_copy_21 : decode prog_7_method_102_code 21 = .ok (.aload_n 0, 1) := by decide +kernel
theorem d_R_copy_22 : decode prog_7_method_102_code 22 = .ok (.getfield 48, 3) := by decide +kernel
theorem d_R_copy_25 : decode prog_7_method_102_code 25 = .ok (.iload_n 1, 1) := by decide +kernel
theorem d_R_copy_26 : decode prog_7_method_102_code 26 = .ok (.iaload, 1) := by decide +kernel
theorem d_R_copy_27 : decode prog_7_method_102_code 27 = .ok (.ifCond .eq 12, 3) := by decide +kernel
theorem d_R_copy_30 : decode prog_7_method_102_code 30 = .ok (.aload_n 0, 1) := by decide +kernel
theorem d_R_copy_31 : decode prog_7_method_102_code 31 = .ok (.getfield 48, 3) := by decide +kernel
theorem d_R_copy_34 : decode prog_7_method_102_code 34 = .ok (.iload_n 3, 1) := by decide +kernel
theorem d_R_copy_35 : decode prog_7_method_102_code 35 = .ok (.iaload, 1) := by decide +kernel
theorem d_R_copy_36 : decode prog_7_method_102_code 36 = .ok (.ifCond .ne 10, 3) := by decide +kernel
theorem d_R_copy_39 : decode prog_7_method_102_code 39 = .ok (.aload_n 0, 1) := by decide +kernel
theorem d_R_copy_40 : decode prog_7_method_102_code 40 = .ok (.ldc 236, 2) := by decide +kernel
theorem d_R_copy_42 : decode prog_7_method_102_code 42 = .ok (.invokevirtual 66, 3) := by decide +kernel
theorem d_R_copy_45 : decode prog_7_method_102_code 45 = .ok (.ireturn, 1) := by decide +kernel
theorem d_R_copy_46 : decode prog_7_method_102_code 46 = .ok (.aload_n 0, 1) := by decide +kernel
theorem d_R_copy_47 : decode prog_7_method_102_code 47 = .ok (.getfield 48, 3) := by decide +kernel
theorem d_R_copy_50 : decode prog_7_method_102_code 50 = .ok (.iload_n 1, 1) := by decide +kernel
theorem d_R_copy_51 : decode prog_7_method_102_code 51 = .ok (.iaload, 1) := by decide +kernel
theorem d_R_copy_52 : decode prog_7_method_102_code 52 = .ok (.aload_n 0, 1) := by decide +kernel
theorem d_R_copy_53 : decode prog_7_method_102_code 53 = .ok (.getfield 48, 3) := by decide +kernel
theorem d_R_copy_56 : decode prog_7_method_102_code 56 = .ok (.iload_n 3, 1) := by decide +kernel
theorem d_R_copy_57 : decode prog_7_method_102_code 57 = .ok (.iaload, 1) := by decide +kernel
theorem d_R_copy_58 : decode prog_7_method_102_code 58 = .ok (.if_icmp .eq 11, 3) := by decide +kernel
theorem d_R_copy_61 : decode prog_7_method_102_code 61 = .ok (.aload_n 0, 1) := by decide +kernel
theorem d_R_copy_62 : decode prog_7_method_102_code 62 = .ok (.ldc_w 336, 3) := by decide +kernel
theorem d_R_copy_65 : decode prog_7_method_102_code 65 = .ok (.invokevirtual 66, 3) := by decide +kernel
theorem d_R_copy_68 : decode prog_7_method_102_code 68 = .ok (.ireturn, 1) := by decide +kernel
theorem d_R_copy_69 : decode prog_7_method_102_code 69 = .ok (.iload_n 2, 1) := by decide +kernel
theorem d_R_copy_70 : decode prog_7_method_102_code 70 = .ok (.ifCond .lt 48, 3) := by decide +kernel
theorem d_R_copy_73 : decode prog_7_method_102_code 73 = .ok (.iload 4, 2) := by decide +kernel
theorem d_R_copy_75 : decode prog_7_method_102_code 75 = .ok (.ifCond .lt 43, 3) := by decide +kernel
theorem d_R_copy_78 : decode prog_7_method_102_code 78 = .ok (.iload 5, 2) := by decide +kernel
theorem d_R_copy_80 : decode prog_7_method_102_code 80 = .ok (.ifCond .lt 38, 3) := by decide +kernel
theorem d_R_copy_83 : decode prog_7_method_102_code 83 = .ok (.iload_n 2, 1) := by decide +kernel
theorem d_R_copy_84 : decode prog_7_method_102_code 84 = .ok (.i2l, 1) := by decide +kernel
theorem d_R_copy_85 : decode prog_7_method_102_code 85 = .ok (.iload 5, 2) := by decide +kernel
theorem d_R_copy_87 : decode prog_7_method_102_code 87 = .ok (.i2l, 1) := by decide +kernel
theorem d_R_copy_88 : decode prog_7_method_102_code 88 = .ok (.ladd, 1) := by decide +kernel
theorem d_R_copy_89 : decode prog_7_method_102_code 89 = .ok (.aload_n 0, 1) := by decide +kernel
theorem d_R_copy_90 : decode prog_7_method_102_code 90 = .ok (.getfield 51, 3) := by decide +kernel
theorem d_R_copy_93 : decode prog_7_method_102_code 93 = .ok (.iload_n 1, 1) := by decide +kernel
theorem d_R_copy_94 : decode prog_7_method_102_code 94 = .ok (.iaload, 1) := by decide +kernel
theorem d_R_copy_95 : decode prog_7_method_102_code 95 = .ok (.i2l, 1) := by decide +kernel
theorem d_R_copy_96 : decode prog_7_method_102_code 96 = .ok (.lcmp, 1) := by decide +kernel
theorem d_R_copy_97 : decode prog_7_method_102_code 97 = .ok (.ifCond .gt 21, 3) := by decide +kernel
theorem d_R_copy_100 : decode prog_7_method_102_code 100 = .ok (.iload 4, 2) := by decide +kernel
theorem d_R_copy_102 : decode prog_7_method_102_code 102 = .ok (.i2l, 1) := by decide +kernel
theorem d_R_copy_103 : decode prog_7_method_102_code 103 = .ok (.iload 5, 2) := by decide +kernel
theorem d_R_copy_105 : decode prog_7_method_102_code 105 = .ok (.i2l, 1) := by decide +kernel
theorem d_R_copy_106 : decode prog_7_method_102_code 106 = .ok (.ladd, 1) := by decide +kernel
theorem d_R_copy_107 : decode prog_7_method_102_code 107 = .ok (.aload_n 0, 1) := by decide +kernel
theorem d_R_copy_108 : decode prog_7_method_102_code 108 = .ok (.getfield 51, 3) := by decide +kernel
theorem d_R_copy_111 : decode prog_7_method_102_code 111 = .ok (.iload_n 3, 1) := by decide +kernel
theorem d_R_copy_112 : decode prog_7_method_102_code 112 = .ok (.iaload, 1) := by decide +kernel
theorem d_R_copy_113 : decode prog_7_method_102_code 113 = .ok (.i2l, 1) := by decide +kernel
theorem d_R_copy_114 : decode prog_7_method_102_code 114 = .ok (.lcmp, 1) := by decide +kernel
theorem d_R_copy_115 : decode prog_7_method_102_code 115 = .ok (.ifCond .le 10, 3) := by decide +kernel
theorem d_R_copy_118 : decode prog_7_method_102_code 118 = .ok (.aload_n 0, 1) := by decide +kernel
theorem d_R_copy_119 : decode prog_7_method_102_code 119 = .ok (.ldc 60, 2) := by decide +kernel
theorem d_R_copy_121 : decode prog_7_method_102_code 121 = .ok (.invokevirtual 66, 3) := by decide +kernel
theorem d_R_copy_124 : decode prog_7_method_102_code 124 = .ok (.ireturn, 1) := by decide +kernel
theorem d_R_copy_125 : decode prog_7_method_102_code 125 = .ok (.iconst 0, 1) := by decide +kernel
theorem d_R_copy_126 : decode prog_7_method_102_code 126 = .ok (.istore 6, 2) := by decide +kernel
theorem d_R_copy_128 : decode prog_7_method_102_code 128 = .ok (.iload 6, 2) := by decide +kernel
theorem d_R_copy_130 : decode prog_7_method_102_code 130 = .ok (.iload 5, 2) := by decide +kernel
theorem d_R_copy_132 : decode prog_7_method_102_code 132 = .ok (.if_icmp .ge 30, 3) := by decide +kernel
theorem d_R_copy_135 : decode prog_7_method_102_code 135 = .ok (.aload_n 0, 1) := by decide +kernel
theorem d_R_copy_136 : decode prog_7_method_102_code 136 = .ok (.getfield 57, 3) := by decide +kernel
theorem d_R_copy_139 : decode prog_7_method_102_code 139 = .ok (.iload 6, 2) := by decide +kernel
theorem d_R_copy_141 : decode prog_7_method_102_code 141 = .ok (.aload_n 0, 1) := by decide +kernel
theorem d_R_copy_142 : decode prog_7_method_102_code 142 = .ok (.getfield 54, 3) := by decide +kernel
theorem d_R_copy_145 : decode prog_7_method_102_code 145 = .ok (.bipush 40, 2) := by decide +kernel
theorem d_R_copy_147 : decode prog_7_method_102_code 147 = .ok (.iload_n 1, 1) := by decide +kernel
theorem d_R_copy_148 : decode prog_7_method_102_code 148 = .ok (.imul, 1) := by decide +kernel
theorem d_R_copy_149 : decode prog_7_method_102_code 149 = .ok (.iload_n 2, 1) := by decide +kernel
theorem d_R_copy_150 : decode prog_7_method_102_code 150 = .ok (.iadd, 1) := by decide +kernel
theorem d_R_copy_151 : decode prog_7_method_102_code 151 = .ok (.iload 6, 2) := by decide +kernel
theorem d_R_copy_153 : decode prog_7_method_102_code 153 = .ok (.iadd, 1) := by decide +kernel
theorem d_R_copy_154 : decode prog_7_method_102_code 154 = .ok (.iaload, 1) := by decide +kernel
theorem d_R_copy_155 : decode prog_7_method_102_code 155 = .ok (.iastore, 1) := by decide +kernel
theorem d_R_copy_156 : decode prog_7_method_102_code 156 = .ok (.iinc 6 1, 3) := by decide +kernel
theorem d_R_copy_159 : decode prog_7_method_102_code 159 = .ok (.goto (-31), 3) := by decide +kernel
theorem d_R_copy_162 : decode prog_7_method_102_code 162 = .ok (.iconst 0, 1) := by decide +kernel
theorem d_R_copy_163 : decode prog_7_method_102_code 163 = .ok (.istore 6, 2) := by decide +kernel
theorem d_R_copy_165 : decode prog_7_method_102_code 165 = .ok (.iload 6, 2) := by decide +kernel
theorem d_R_copy_167 : decode prog_7_method_102_code 167 = .ok (.iload 5, 2) := by decide +kernel
theorem d_R_copy_169 : decode prog_7_method_102_code 169 = .ok (.if_icmp .ge 31, 3) := by decide +kernel
theorem d_R_copy_172 : decode prog_7_method_102_code 172 = .ok (.aload_n 0, 1) := by decide +kernel
theorem d_R_copy_173 : decode prog_7_method_102_code 173 = .ok (.getfield 54, 3) := by decide +kernel
theorem d_R_copy_176 : decode prog_7_method_102_code 176 = .ok (.bipush 40, 2) := by decide +kernel
theorem d_R_copy_178 : decode prog_7_method_102_code 178 = .ok (.iload_n 3, 1) := by decide +kernel
theorem d_R_copy_179 : decode prog_7_method_102_code 179 = .ok (.imul, 1) := by decide +kernel
theorem d_R_copy_180 : decode prog_7_method_102_code 180 = .ok (.iload 4, 2) := by decide +kernel
theorem d_R_copy_182 : decode prog_7_method_102_code 182 = .ok (.iadd, 1) := by decide +kernel
theorem d_R_copy_183 : decode prog_7_method_102_code 183 = .ok (.iload 6, 2) := by decide +kernel
theorem d_R_copy_185 : decode prog_7_method_102_code 185 = .ok (.iadd, 1) := by decide +kernel
theorem d_R_copy_186 : decode prog_7_method_102_code 186 = .ok (.aload_n 0, 1) := by decide +kernel
theorem d_R_copy_187 : decode prog_7_method_102_code 187 = .ok (.getfield 57, 3) := by decide +kernel
theorem d_R_copy_190 : decode prog_7_method_102_code 190 = .ok (.iload 6, 2) := by decide +kernel
theorem d_R_copy_192 : decode prog_7_method_102_code 192 = .ok (.iaload, 1) := by decide +kernel
theorem d_R_copy_193 : decode prog_7_method_102_code 193 = .ok (.iastore, 1) := by decide +kernel
theorem d_R_copy_194 : decode prog_7_method_102_code 194 = .ok (.iinc 6 1, 3) := by decide +kernel
theorem d_R_copy_197 : decode prog_7_method_102_code 197 = .ok (.goto (-32), 3) := by decide +kernel
theorem d_R_copy_200 : decode prog_7_method_102_code 200 = .ok (.iload 5, 2) := by decide +kernel
theorem d_R_copy_202 : decode prog_7_method_102_code 202 = .ok (.ireturn, 1) := by decide +kernel
theorem d_R_copy_14 : decode prog_7_method_102_code 14 = .ok (.aload_n 0, 1) := by decide +kernel
theorem d_R_copy_15 : decode prog_7_method_102_code 15 = .ok (.ldc 60, 2) := by decide +kernel
theorem d_R_copy_17 : decode prog_7_method_102_code 17 = .ok (.invokevirtual 66, 3) := by decide +kernel
theorem d_R_copy_20 : decode prog_7_method_102_code 20 = .ok (.ireturn, 1) := by decide +kernel
theorem d_R_lacks_0 : decode prog_7_method_72_code 0 = .ok (.iload_n 1, 1) := by decide +kernel
theorem d_R_lacks_1 : decode prog_7_method_72_code 1 = .ok (.invokestatic 233, 3) := by decide +kernel
theorem d_R_lacks_4 : decode prog_7_method_72_code 4 = .ok (.ifCond .ne 8, 3) := by decide +kernel
theorem d_R_lacks_7 : decode prog_7_method_72_code 7 = .ok (.ldc 60, 2) := by decide +kernel
theorem d_R_lacks_9 : decode prog_7_method_72_code 9 = .ok (.goto 27, 3) := by decide +kernel
theorem d_R_lacks_36 : decode prog_7_method_72_code 36 = .ok (.ireturn, 1) := by decide +kernel
theorem d_R_lacks_12 : decode prog_7_method_72_code 12 = .ok (.aload_n 0, 1) := by decide +kernel
theorem d_R_lacks_13 : decode prog_7_method_72_code 13 = .ok (.getfield 48, 3) := by decide +kernel
theorem d_R_lacks_16 : decode prog_7_method_72_code 16 = .ok (.iload_n 1, 1) := by decide +kernel
theorem d_R_lacks_17 : decode prog_7_method_72_code 17 = .ok (.iaload, 1) := by decide +kernel
theorem d_R_lacks_18 : decode prog_7_method_72_code 18 = .ok (.ifCond .ne 8, 3) := by decide +kernel
theorem d_R_lacks_21 : decode prog_7_method_72_code 21 = .ok (.ldc 236, 2) := by decide +kernel
theorem d_R_lacks_23 : decode prog_7_method_72_code 23 = .ok (.goto 13, 3) := by decide +kernel
theorem d_R_lacks_26 : decode prog_7_method_72_code 26 = .ok (.iload_n 2, 1) := by decide +kernel
theorem d_R_lacks_27 : decode prog_7_method_72_code 27 = .ok (.ifCond .eq 7, 3) := by decide +kernel
theorem d_R_lacks_30 : decode prog_7_method_72_code 30 = .ok (.iconst 0, 1) := by decide +kernel
theorem d_R_lacks_31 : decode prog_7_method_72_code 31 = .ok (.goto 5, 3) := by decide +kernel
theorem d_R_lacks_34 : decode prog_7_method_72_code 34 = .ok (.ldc 60, 2) := by decide +kernel
theorem d_R_load_0 : decode prog_7_method_105_code 0 = .ok (.aload_n 0, 1) := by decide +kernel
theorem d_R_load_1 : decode prog_7_method_105_code 1 = .ok (.iload_n 1, 1) := by decide +kernel
theorem d_R_load_2 : decode prog_7_method_105_code 2 = .ok (.iconst 1, 1) := by decide +kernel
theorem d_R_load_3 : decode prog_7_method_105_code 3 = .ok (.invokevirtual 240, 3) := by decide +kernel
theorem d_R_load_6 : decode prog_7_method_105_code 6 = .ok (.ifCond .eq 14, 3) := by decide +kernel
theorem d_R_load_9 : decode prog_7_method_105_code 9 = .ok (.aload_n 0, 1) := by decide +kernel
theorem d_R_load_10 : decode prog_7_method_105_code 10 = .ok (.aload_n 0, 1) := by decide +kernel
theorem d_R_load_11 : decode prog_7_method_105_code 11 = .ok (.iload_n 1, 1) := by decide +kernel
theorem d_R_load_12 : decode prog_7_method_105_code 12 = .ok (.iconst 1, 1) := by decide +kernel
theorem d_R_load_13 : decode prog_7_method_105_code 13 = .ok (.invokevirtual 240, 3) := by decide +kernel
theorem d_R_load_16 : decode prog_7_method_105_code 16 = .ok (.invokevirtual 66, 3) := by decide +kernel
theorem d_R_load_19 : decode prog_7_method_105_code 19 = .ok (.ireturn, 1) := by decide +kernel
theorem d_R_judge_0 : decode prog_7_method_106_code 0 = .ok (.aload_n 0, 1) := by decide +kernel
theorem d_R_judge_1 : decode prog_7_method_106_code 1 = .ok (.iload_n 1, 1) := by decide +kernel
theorem d_R_judge_2 : decode prog_7_method_106_code 2 = .ok (.iconst 1, 1) := by decide +kernel
theorem d_R_judge_3 : decode prog_7_method_106_code 3 = .ok (.invokevirtual 240, 3) := by decide +kernel
theorem d_R_judge_6 : decode prog_7_method_106_code 6 = .ok (.ifCond .eq 14, 3) := by decide +kernel
theorem d_R_judge_9 : decode prog_7_method_106_code 9 = .ok (.aload_n 0, 1) := by decide +kernel
theorem d_R_judge_10 : decode prog_7_method_106_code 10 = .ok (.aload_n 0, 1) := by decide +kernel
theorem d_R_judge_11 : decode prog_7_method_106_code 11 = .ok (.iload_n 1, 1) := by decide +kernel
theorem d_R_judge_12 : decode prog_7_method_106_code 12 = .ok (.iconst 1, 1) := by decide +kernel
theorem d_R_judge_13 : decode prog_7_method_106_code 13 = .ok (.invokevirtual 240, 3) := by decide +kernel
theorem d_R_judge_16 : decode prog_7_method_106_code 16 = .ok (.invokevirtual 66, 3) := by decide +kernel
theorem d_R_judge_19 : decode prog_7_method_106_code 19 = .ok (.ireturn, 1) := by decide +kernel
theorem d_R_load_20 : decode prog_7_method_105_code 20 = .ok (.iconst 0, 1) := by decide +kernel
theorem d_R_load_21 : decode prog_7_method_105_code 21 = .ok (.istore_n 2, 1) := by decide +kernel
theorem d_R_load_22 : decode prog_7_method_105_code 22 = .ok (.iload_n 2, 1) := by decide +kernel
theorem d_R_load_23 : decode prog_7_method_105_code 23 = .ok (.aload_n 0, 1) := by decide +kernel
theorem d_R_load_24 : decode prog_7_method_105_code 24 = .ok (.getfield 51, 3) := by decide +kernel
theorem d_R_load_27 : decode prog_7_method_105_code 27 = .ok (.iload_n 1, 1) := by decide +kernel
theorem d_R_load_28 : decode prog_7_method_105_code 28 = .ok (.iaload, 1) := by decide +kernel
theorem d_R_load_29 : decode prog_7_method_105_code 29 = .ok (.if_icmp .ge 55, 3) := by decide +kernel
theorem d_R_load_32 : decode prog_7_method_105_code 32 = .ok (.aload_n 0, 1) := by decide +kernel
theorem d_R_load_33 : decode prog_7_method_105_code 33 = .ok (.iload_n 2, 1) := by decide +kernel
theorem d_R_load_34 : decode prog_7_method_105_code 34 = .ok (.invokevirtual 122, 3) := by decide +kernel
theorem d_R_load_37 : decode prog_7_method_105_code 37 = .ok (.ifCond .eq 47, 3) := by decide +kernel
theorem d_R_load_40 : decode prog_7_method_105_code 40 = .ok (.aload_n 0, 1) := by decide +kernel
theorem d_R_load_41 : decode prog_7_method_105_code 41 = .ok (.getfield 54, 3) := by decide +kernel
theorem d_R_load_44 : decode prog_7_method_105_code 44 = .ok (.bipush 40, 2) := by decide +kernel
theorem d_R_load_46 : decode prog_7_method_105_code 46 = .ok (.iload_n 1, 1) := by decide +kernel
theorem d_R_load_47 : decode prog_7_method_105_code 47 = .ok (.imul, 1) := by decide +kernel
theorem d_R_load_48 : decode prog_7_method_105_code 48 = .ok (.iload_n 2, 1) := by decide +kernel
theorem d_R_load_49 : decode prog_7_method_105_code 49 = .ok (.iadd, 1) := by decide +kernel
theorem d_R_load_50 : decode prog_7_method_105_code 50 = .ok (.iaload, 1) := by decide +kernel
theorem d_R_load_51 : decode prog_7_method_105_code 51 = .ok (.invokestatic 131, 3) := by decide +kernel
theorem d_R_load_54 : decode prog_7_method_105_code 54 = .ok (.ifCond .eq 30, 3) := by decide +kernel
theorem d_R_load_57 : decode prog_7_method_105_code 57 = .ok (.aload_n 0, 1) := by decide +kernel
theorem d_R_load_58 : decode prog_7_method_105_code 58 = .ok (.getfield 9, 3) := by decide +kernel
theorem d_R_load_61 : decode prog_7_method_105_code 61 = .ok (.iload_n 2, 1) := by decide +kernel
theorem d_R_load_62 : decode prog_7_method_105_code 62 = .ok (.iconst 3, 1) := by decide +kernel
theorem d_R_load_63 : decode prog_7_method_105_code 63 = .ok (.invokestatic 88, 3) := by decide +kernel
theorem d_R_load_66 : decode prog_7_method_105_code 66 = .ok (.aload_n 0, 1) := by decide +kernel
theorem d_R_load_67 : decode prog_7_method_105_code 67 = .ok (.getfield 54, 3) := by decide +kernel
theorem d_R_load_70 : decode prog_7_method_105_code 70 = .ok (.bipush 40, 2) := by decide +kernel
theorem d_R_load_72 : decode prog_7_method_105_code 72 = .ok (.iload_n 1, 1) := by decide +kernel
theorem d_R_load_73 : decode prog_7_method_105_code 73 = .ok (.imul, 1) := by decide +kernel
theorem d_R_load_74 : decode prog_7_method_105_code 74 = .ok (.iload_n 2, 1) := by decide +kernel
theorem d_R_load_75 : decode prog_7_method_105_code 75 = .ok (.iadd, 1) := by decide +kernel
theorem d_R_load_76 : decode prog_7_method_105_code 76 = .ok (.iaload, 1) := by decide +kernel
theorem d_R_load_77 : decode prog_7_method_105_code 77 = .ok (.iastore, 1) := by decide +kernel
theorem d_R_load_78 : decode prog_7_method_105_code 78 = .ok (.iinc 2 1, 3) := by decide +kernel
theorem d_R_load_81 : decode prog_7_method_105_code 81 = .ok (.goto (-59), 3) := by decide +kernel
theorem d_R_load_84 : decode prog_7_method_105_code 84 = .ok (.iload_n 2, 1) := by decide +kernel
theorem d_R_load_85 : decode prog_7_method_105_code 85 = .ok (.ireturn, 1) := by decide +kernel
theorem d_R_judge_20 : decode prog_7_method_106_code 20 = .ok (.iconst 0, 1) := by decide +kernel
theorem d_R_judge_21 : decode prog_7_method_106_code 21 = .ok (.istore_n 2, 1) := by decide +kernel
theorem d_R_judge_22 : decode prog_7_method_106_code 22 = .ok (.iload_n 2, 1) := by decide +kernel
theorem d_R_judge_23 : decode prog_7_method_106_code 23 = .ok (.aload_n 0, 1) := by decide +kernel
theorem d_R_judge_24 : decode prog_7_method_106_code 24 = .ok (.getfield 51, 3) := by decide +kernel
theorem d_R_judge_27 : decode prog_7_method_106_code 27 = .ok (.iload_n 1, 1) := by decide +kernel
theorem d_R_judge_28 : decode prog_7_method_106_code 28 = .ok (.iaload, 1) := by decide +kernel
theorem d_R_judge_29 : decode prog_7_method_106_code 29 = .ok (.if_icmp .ge 37, 3) := by decide +kernel
theorem d_R_judge_32 : decode prog_7_method_106_code 32 = .ok (.aload_n 0, 1) := by decide +kernel
theorem d_R_judge_33 : decode prog_7_method_106_code 33 = .ok (.iload_n 2, 1) := by decide +kernel
theorem d_R_judge_34 : decode prog_7_method_106_code 34 = .ok (.invokevirtual 122, 3) := by decide +kernel
theorem d_R_judge_37 : decode prog_7_method_106_code 37 = .ok (.ifCond .eq 29, 3) := by decide +kernel
theorem d_R_judge_40 : decode prog_7_method_106_code 40 = .ok (.aload_n 0, 1) := by decide +kernel
theorem d_R_judge_41 : decode prog_7_method_106_code 41 = .ok (.getfield 54, 3) := by decide +kernel
theorem d_R_judge_44 : decode prog_7_method_106_code 44 = .ok (.bipush 40, 2) := by decide +kernel
theorem d_R_judge_46 : decode prog_7_method_106_code 46 = .ok (.iload_n 1, 1) := by decide +kernel
theorem d_R_judge_47 : decode prog_7_method_106_code 47 = .ok (.imul, 1) := by decide +kernel
theorem d_R_judge_48 : decode prog_7_method_106_code 48 = .ok (.iload_n 2, 1) := by decide +kernel
theorem d_R_judge_49 : decode prog_7_method_106_code 49 = .ok (.iadd, 1) := by decide +kernel
theorem d_R_judge_50 : decode prog_7_method_106_code 50 = .ok (.iaload, 1) := by decide +kernel
theorem d_R_judge_51 : decode prog_7_method_106_code 51 = .ok (.aload_n 0, 1) := by decide +kernel
theorem d_R_judge_52 : decode prog_7_method_106_code 52 = .ok (.iload_n 2, 1) := by decide +kernel
theorem d_R_judge_53 : decode prog_7_method_106_code 53 = .ok (.iconst 0, 1) := by decide +kernel
theorem d_R_judge_54 : decode prog_7_method_106_code 54 = .ok (.invokevirtual 125, 3) := by decide +kernel
theorem d_R_judge_57 : decode prog_7_method_106_code 57 = .ok (.if_icmp .ne 9, 3) := by decide +kernel
theorem d_R_judge_60 : decode prog_7_method_106_code 60 = .ok (.iinc 2 1, 3) := by decide +kernel
theorem d_R_judge_63 : decode prog_7_method_106_code 63 = .ok (.goto (-41), 3) := by decide +kernel
theorem d_R_judge_66 : decode prog_7_method_106_code 66 = .ok (.iload_n 2, 1) := by decide +kernel
theorem d_R_judge_67 : decode prog_7_method_106_code 67 = .ok (.aload_n 0, 1) := by decide +kernel
theorem d_R_judge_68 : decode prog_7_method_106_code 68 = .ok (.getfield 51, 3) := by decide +kernel
theorem d_R_judge_71 : decode prog_7_method_106_code 71 = .ok (.iload_n 1, 1) := by decide +kernel
theorem d_R_judge_72 : decode prog_7_method_106_code 72 = .ok (.iaload, 1) := by decide +kernel
theorem d_R_judge_73 : decode prog_7_method_106_code 73 = .ok (.if_icmp .ne 7, 3) := by decide +kernel
theorem d_R_judge_76 : decode prog_7_method_106_code 76 = .ok (.iconst 0, 1) := by decide +kernel
theorem d_R_judge_77 : decode prog_7_method_106_code 77 = .ok (.goto 6, 3) := by decide +kernel
theorem d_R_judge_80 : decode prog_7_method_106_code 80 = .ok (.iconst 1, 1) := by decide +kernel
theorem d_R_judge_81 : decode prog_7_method_106_code 81 = .ok (.iload_n 2, 1) := by decide +kernel
theorem d_R_judge_82 : decode prog_7_method_106_code 82 = .ok (.iadd, 1) := by decide +kernel
theorem d_R_judge_83 : decode prog_7_method_106_code 83 = .ok (.ireturn, 1) := by decide +kernel
set_option maxHeartbeats 1000000 in
set_option maxRecDepth 20000 in
theorem c_R_hold_g (l : Launch) (E : QE) (S : QM) (ν : Nat → Int32) (hν : S 16 = ν) (hwf : WF ν) (i t : Nat) (hi : i ≤ 9) (ht : t < nT ν) : qCI E l y_R_hold prog_7_method_96_code 3 .int 3 [.ref (eA E 70), .int (nI i), .int (nI t)] S (nI 1) (qr S 16 (upd ν (10 + i) (nI t))) := by
  refine qCI_of (by decide) (Nat.le_of_ble_eq_true rfl) (fun p e s m below meth c ls X hW hl => ?_)
  have hl : lv_has ls 3 [(0, .ref (eA E 70)), (1, .int (nI i)), (2, .int (nI t))] := hl
  have htl := hwf.tl
  have hwl := hwf.wl
  have hdl := hwf.dl
  refine lv_iload_n X.x X.b d_R_hold_0 rfl (lv_at hl 1 rfl) ?_
  refine q_csi X (c_R_isSpot l E S (nI i)) hW ok_R_isSpot mw_1132 ⟨by decide, by decide⟩ (As := [.int (nI i)]) rfl rfl (Nat.le_of_ble_eq_true rfl) (lv := [(0, .ref (eA E 70)), (1, .int (nI i)), (2, .int (nI t))]) hl ⟨Nat.le_refl 0, Nat.le_refl 0⟩ d_R_hold_1 (fun H locs hW => ?_)
  refine lv_if_eq (tgt := 20) X.x X.b d_R_hold_4 (by decide) (fun c4 => ?_) (fun c4 => ?_)
  · have c4 := b2i_e c4
    have c4 := mt (inR_i (by omega) (by decide)).mpr c4
    omega
  · have c4 := b2i_n c4
    have c4 := (inR_i (by omega) (by decide)).mp c4
    refine lv_iload_n X.x X.b d_R_hold_7 rfl (lv_at hl 2 rfl) ?_
    refine lv_iconst (v := (-1)) X.x X.b d_R_hold_8 (by decide) ?_
    refine lv_icmp_eq (tgt := 27) X.x X.b d_R_hold_9 (by decide) (fun c9 => ?_) (fun c9 => ?_)
    · exact absurd c9 (nI_nm (by omega))
    · refine lv_aload_n X.x X.b d_R_hold_12 rfl (lv_at hl 0 rfl) ?_
      refine lv_iload_n X.x X.b d_R_hold_13 rfl (lv_at hl 2 rfl) ?_
      refine q_cvi X (c_R_isThing l E S ν (by rw [hν]) hwf (nI t)) hW (q_recv X hW ds_R rfl) ok_R_isThing mw_809 ⟨by decide, by decide⟩ (As := [.int (nI t)]) rfl rfl (Nat.le_of_ble_eq_true rfl) (lv := [(0, .ref (eA E 70)), (1, .int (nI i)), (2, .int (nI t))]) hl ⟨Nat.le_refl 0, Nat.le_refl 0⟩ d_R_hold_14 (fun H locs hW => ?_)
      refine lv_if_ne (tgt := 27) X.x X.b d_R_hold_17 (by decide) (fun c17 => ?_) (fun c17 => ?_)
      · have c17 := b2i_n c17
        have c17 := (isT_i hwf (by omega)).mp c17
        refine lv_aload_n X.x X.b d_R_hold_27 rfl (lv_at hl 0 rfl) ?_
        refine q_getr X hW qj4 rfl _ ds_R 0 (by decide) mw_686 rfl (c1 := 71) rfl d_R_hold_28 ?_
        refine lv_bipush (v := nI 10) X.x X.b d_R_hold_31 (by decide) ?_
        refine lv_iload_n X.x X.b d_R_hold_33 rfl (lv_at hl 1 rfl) ?_
        refine lv_iadd X.x X.b d_R_hold_34 ?_
        rw [nI_add]
        refine lv_iload_n X.x X.b d_R_hold_35 rfl (lv_at hl 2 rfl) ?_
        refine g_ast X hW ds_71 (q_in (by omega) (by decide)) (p0 := 10 + i) (q_tn (by omega) (by omega)) (ρ := ν) (by rw [hν]) d_R_hold_36 (fun H locs hW => ?_)
        obtain ⟨r36, er36⟩ : ∃ z, z = upd ν (10 + i) (nI t) := ⟨_, rfl⟩
        rw [← er36] at hW
        refine lv_iconst (v := nI 1) X.x X.b d_R_hold_37 (by decide) ?_
        exact q_zret X rfl hW ⟨rfl, by rw [er36]⟩ d_R_hold_38
      · have c17 := b2i_e c17
        have c17 := mt (isT_i hwf (by omega)).mpr c17
        omega
set_option maxHeartbeats 1000000 in
set_option maxRecDepth 20000 in
theorem c_R_hold_m (l : Launch) (E : QE) (S : QM) (ν : Nat → Int32) (hν : S 16 = ν) (hwf : WF ν) (i : Nat) (hi : i ≤ 9) : qCI E l y_R_hold prog_7_method_96_code 3 .int 3 [.ref (eA E 70), .int (nI i), .int (-1)] S (nI 1) (qr S 16 (upd ν (10 + i) (-1))) := by
  refine qCI_of (by decide) (Nat.le_of_ble_eq_true rfl) (fun p e s m below meth c ls X hW hl => ?_)
  have hl : lv_has ls 3 [(0, .ref (eA E 70)), (1, .int (nI i)), (2, .int (-1))] := hl
  have htl := hwf.tl
  have hwl := hwf.wl
  have hdl := hwf.dl
  refine lv_iload_n X.x X.b d_R_hold_0 rfl (lv_at hl 1 rfl) ?_
  refine q_csi X (c_R_isSpot l E S (nI i)) hW ok_R_isSpot mw_1132 ⟨by decide, by decide⟩ (As := [.int (nI i)]) rfl rfl (Nat.le_of_ble_eq_true rfl) (lv := [(0, .ref (eA E 70)), (1, .int (nI i)), (2, .int (-1))]) hl ⟨Nat.le_refl 0, Nat.le_refl 0⟩ d_R_hold_1 (fun H locs hW => ?_)
  refine lv_if_eq (tgt := 20) X.x X.b d_R_hold_4 (by decide) (fun c4 => ?_) (fun c4 => ?_)
  · have c4 := b2i_e c4
    have c4 := mt (inR_i (by omega) (by decide)).mpr c4
    omega
  · have c4 := b2i_n c4
    have c4 := (inR_i (by omega) (by decide)).mp c4
    refine lv_iload_n X.x X.b d_R_hold_7 rfl (lv_at hl 2 rfl) ?_
    refine lv_iconst (v := (-1)) X.x X.b d_R_hold_8 (by decide) ?_
    refine lv_icmp_eq (tgt := 27) X.x X.b d_R_hold_9 (by decide) (fun c9 => ?_) (fun c9 => ?_)
    · refine lv_aload_n X.x X.b d_R_hold_27 rfl (lv_at hl 0 rfl) ?_
      refine q_getr X hW qj4 rfl _ ds_R 0 (by decide) mw_686 rfl (c1 := 71) rfl d_R_hold_28 ?_
      refine lv_bipush (v := nI 10) X.x X.b d_R_hold_31 (by decide) ?_
      refine lv_iload_n X.x X.b d_R_hold_33 rfl (lv_at hl 1 rfl) ?_
      refine lv_iadd X.x X.b d_R_hold_34 ?_
      rw [nI_add]
      refine lv_iload_n X.x X.b d_R_hold_35 rfl (lv_at hl 2 rfl) ?_
      refine g_ast X hW ds_71 (q_in (by omega) (by decide)) (p0 := 10 + i) (q_tn (by omega) (by omega)) (ρ := ν) (by rw [hν]) d_R_hold_36 (fun H locs hW => ?_)
      obtain ⟨r36, er36⟩ : ∃ z, z = upd ν (10 + i) (-1) := ⟨_, rfl⟩
      rw [← er36] at hW
      refine lv_iconst (v := nI 1) X.x X.b d_R_hold_37 (by decide) ?_
      exact q_zret X rfl hW ⟨rfl, by rw [er36]⟩ d_R_hold_38
    · exact absurd rfl c9
set_option maxHeartbeats 1000000 in
set_option maxRecDepth 20000 in
theorem c_R_hold_b (l : Launch) (E : QE) (S : QM) (ν : Nat → Int32) (hν : S 16 = ν) (hwf : WF ν) (ψ : Nat → Int32) (hψ : S 19 = ψ) (x y : Int32) (h : ¬ (inR 0 9 x ∧ (y = -1 ∨ isT ν y))) : qCI E l y_R_hold prog_7_method_96_code 3 .int 3 [.ref (eA E 70), .int x, .int y] S (-1000001) (qr S 19 (fnR ψ 0)) := by
  refine qCI_of (by decide) (Nat.le_of_ble_eq_true rfl) (fun p e s m below meth c ls X hW hl => ?_)
  have hl : lv_has ls 3 [(0, .ref (eA E 70)), (1, .int x), (2, .int y)] := hl
  have htl := hwf.tl
  have hwl := hwf.wl
  have hdl := hwf.dl
  refine lv_iload_n X.x X.b d_R_hold_0 rfl (lv_at hl 1 rfl) ?_
  refine q_csi X (c_R_isSpot l E S x) hW ok_R_isSpot mw_1132 ⟨by decide, by decide⟩ (As := [.int x]) rfl rfl (Nat.le_of_ble_eq_true rfl) (lv := [(0, .ref (eA E 70)), (1, .int x), (2, .int y)]) hl ⟨Nat.le_refl 0, Nat.le_refl 0⟩ d_R_hold_1 (fun H locs hW => ?_)
  refine lv_if_eq (tgt := 20) X.x X.b d_R_hold_4 (by decide) (fun c4 => ?_) (fun c4 => ?_)
  · have c4 := b2i_e c4
    refine lv_aload_n X.x X.b d_R_hold_20 rfl (lv_at hl 0 rfl) ?_
    refine lv_ldc (v := (-1000001)) X.x X.b X.ow (X.ts _ mw_767) d_R_hold_21 ?_
    refine q_cvi X (c_R_finding_0 l E S ψ (by rw [hψ])) hW (q_recv X hW ds_R rfl) ok_R_finding mw_768 ⟨by decide, by decide⟩ (As := [.int (-1000001)]) rfl rfl (Nat.le_of_ble_eq_true rfl) (lv := [(0, .ref (eA E 70)), (1, .int x), (2, .int y)]) hl ⟨Nat.le_refl 0, Nat.le_refl 0⟩ d_R_hold_23 (fun H locs hW => ?_)
    have hW : qWH E (qr S 19 (fnR ψ 0)) s H locs := hW
    exact q_zret X rfl hW ⟨rfl, rfl⟩ d_R_hold_26
  · have c4 := b2i_n c4
    refine lv_iload_n X.x X.b d_R_hold_7 rfl (lv_at hl 2 rfl) ?_
    refine lv_iconst (v := (-1)) X.x X.b d_R_hold_8 (by decide) ?_
    refine lv_icmp_eq (tgt := 27) X.x X.b d_R_hold_9 (by decide) (fun c9 => ?_) (fun c9 => ?_)
    · exact absurd ⟨c4, Or.inl c9⟩ h
    · refine lv_aload_n X.x X.b d_R_hold_12 rfl (lv_at hl 0 rfl) ?_
      refine lv_iload_n X.x X.b d_R_hold_13 rfl (lv_at hl 2 rfl) ?_
      refine q_cvi X (c_R_isThing l E S ν (by rw [hν]) hwf y) hW (q_recv X hW ds_R rfl) ok_R_isThing mw_809 ⟨by decide, by decide⟩ (As := [.int y]) rfl rfl (Nat.le_of_ble_eq_true rfl) (lv := [(0, .ref (eA E 70)), (1, .int x), (2, .int y)]) hl ⟨Nat.le_refl 0, Nat.le_refl 0⟩ d_R_hold_14 (fun H locs hW => ?_)
      refine lv_if_ne (tgt := 27) X.x X.b d_R_hold_17 (by decide) (fun c17 => ?_) (fun c17 => ?_)
      · have c17 := b2i_n c17
        exact absurd ⟨c4, Or.inr c17⟩ h
      · have c17 := b2i_e c17
        refine lv_aload_n X.x X.b d_R_hold_20 rfl (lv_at hl 0 rfl) ?_
        refine lv_ldc (v := (-1000001)) X.x X.b X.ow (X.ts _ mw_767) d_R_hold_21 ?_
        refine q_cvi X (c_R_finding_0 l E S ψ (by rw [hψ])) hW (q_recv X hW ds_R rfl) ok_R_finding mw_768 ⟨by decide, by decide⟩ (As := [.int (-1000001)]) rfl rfl (Nat.le_of_ble_eq_true rfl) (lv := [(0, .ref (eA E 70)), (1, .int x), (2, .int y)]) hl ⟨Nat.le_refl 0, Nat.le_refl 0⟩ d_R_hold_23 (fun H locs hW => ?_)
        have hW : qWH E (qr S 19 (fnR ψ 0)) s H locs := hW
        exact q_zret X rfl hW ⟨rfl, rfl⟩ d_R_hold_26
set_option maxHeartbeats 1000000 in
set_option maxRecDepth 20000 in
theorem c_R_above_0 (l : Launch) (E : QE) (S : QM) : qCI E l y_R_above prog_7_method_103_code 1 .int 1 [.int (nI 0)] S (-1) S := by
  refine qCI_of (by decide) (Nat.le_of_ble_eq_true rfl) (fun p e s m below meth c ls X hW hl => ?_)
  have hl : lv_has ls 1 [(0, .int (nI 0))] := hl
  refine lv_iload_n X.x X.b d_R_above_0 rfl (lv_at hl 0 rfl) ?_
  refine lv_if_ne (tgt := 8) X.x X.b d_R_above_1 (by decide) (fun c1 => ?_) (fun c1 => ?_)
  · exact absurd (by decide) c1
  · have c1 : 0 = 0 := (nI_eq (a := 0) (b := 0) (by omega) (by omega)).mp c1
    refine lv_iconst (v := (-1)) X.x X.b d_R_above_4 (by decide) ?_
    refine lv_goto (tgt := 37) X.x X.b d_R_above_5 (by decide) ?_
    exact q_zret X rfl hW ⟨rfl, rfl⟩ d_R_above_37
set_option maxHeartbeats 1000000 in
set_option maxRecDepth 20000 in
theorem c_R_above_1 (l : Launch) (E : QE) (S : QM) : qCI E l y_R_above prog_7_method_103_code 1 .int 1 [.int (nI 1)] S (nI 0) S := by
  refine qCI_of (by decide) (Nat.le_of_ble_eq_true rfl) (fun p e s m below meth c ls X hW hl => ?_)
  have hl : lv_has ls 1 [(0, .int (nI 1))] := hl
  refine lv_iload_n X.x X.b d_R_above_0 rfl (lv_at hl 0 rfl) ?_
  refine lv_if_ne (tgt := 8) X.x X.b d_R_above_1 (by decide) (fun c1 => ?_) (fun c1 => ?_)
  · have c1 : ¬ 1 = 0 := fun z => c1 ((nI_eq (a := 1) (b := 0) (by omega) (by omega)).mpr z)
    refine lv_iload_n X.x X.b d_R_above_8 rfl (lv_at hl 0 rfl) ?_
    refine lv_iconst (v := nI 3) X.x X.b d_R_above_9 (by decide) ?_
    refine lv_icmp_ne (tgt := 17) X.x X.b d_R_above_10 (by decide) (fun c10 => ?_) (fun c10 => ?_)
    · have c10 : ¬ 1 = 3 := fun z => c10 ((nI_eq (a := 1) (b := 3) (by omega) (by omega)).mpr z)
      refine lv_iload_n X.x X.b d_R_above_17 rfl (lv_at hl 0 rfl) ?_
      refine lv_iconst (v := nI 4) X.x X.b d_R_above_18 (by decide) ?_
      refine lv_icmp_ne (tgt := 26) X.x X.b d_R_above_19 (by decide) (fun c19 => ?_) (fun c19 => ?_)
      · have c19 : ¬ 1 = 4 := fun z => c19 ((nI_eq (a := 1) (b := 4) (by omega) (by omega)).mpr z)
        refine lv_iload_n X.x X.b d_R_above_26 rfl (lv_at hl 0 rfl) ?_
        refine lv_bipush (v := nI 6) X.x X.b d_R_above_27 (by decide) ?_
        refine lv_icmp_ne (tgt := 36) X.x X.b d_R_above_29 (by decide) (fun c29 => ?_) (fun c29 => ?_)
        · have c29 : ¬ 1 = 6 := fun z => c29 ((nI_eq (a := 1) (b := 6) (by omega) (by omega)).mpr z)
          refine lv_iconst (v := nI 0) X.x X.b d_R_above_36 (by decide) ?_
          exact q_zret X rfl hW ⟨rfl, rfl⟩ d_R_above_37
        · exact absurd c29 (by decide)
      · exact absurd c19 (by decide)
    · exact absurd c10 (by decide)
  · exact absurd c1 (by decide)
set_option maxHeartbeats 1000000 in
set_option maxRecDepth 20000 in
theorem c_R_above_2 (l : Launch) (E : QE) (S : QM) : qCI E l y_R_above prog_7_method_103_code 1 .int 1 [.int (nI 2)] S (nI 0) S := by
  refine qCI_of (by decide) (Nat.le_of_ble_eq_true rfl) (fun p e s m below meth c ls X hW hl => ?_)
  have hl : lv_has ls 1 [(0, .int (nI 2))] := hl
  refine lv_iload_n X.x X.b d_R_above_0 rfl (lv_at hl 0 rfl) ?_
  refine lv_if_ne (tgt := 8) X.x X.b d_R_above_1 (by decide) (fun c1 => ?_) (fun c1 => ?_)
  · have c1 : ¬ 2 = 0 := fun z => c1 ((nI_eq (a := 2) (b := 0) (by omega) (by omega)).mpr z)
    refine lv_iload_n X.x X.b d_R_above_8 rfl (lv_at hl 0 rfl) ?_
    refine lv_iconst (v := nI 3) X.x X.b d_R_above_9 (by decide) ?_
    refine lv_icmp_ne (tgt := 17) X.x X.b d_R_above_10 (by decide) (fun c10 => ?_) (fun c10 => ?_)
    · have c10 : ¬ 2 = 3 := fun z => c10 ((nI_eq (a := 2) (b := 3) (by omega) (by omega)).mpr z)
      refine lv_iload_n X.x X.b d_R_above_17 rfl (lv_at hl 0 rfl) ?_
      refine lv_iconst (v := nI 4) X.x X.b d_R_above_18 (by decide) ?_
      refine lv_icmp_ne (tgt := 26) X.x X.b d_R_above_19 (by decide) (fun c19 => ?_) (fun c19 => ?_)
      · have c19 : ¬ 2 = 4 := fun z => c19 ((nI_eq (a := 2) (b := 4) (by omega) (by omega)).mpr z)
        refine lv_iload_n X.x X.b d_R_above_26 rfl (lv_at hl 0 rfl) ?_
        refine lv_bipush (v := nI 6) X.x X.b d_R_above_27 (by decide) ?_
        refine lv_icmp_ne (tgt := 36) X.x X.b d_R_above_29 (by decide) (fun c29 => ?_) (fun c29 => ?_)
        · have c29 : ¬ 2 = 6 := fun z => c29 ((nI_eq (a := 2) (b := 6) (by omega) (by omega)).mpr z)
          refine lv_iconst (v := nI 0) X.x X.b d_R_above_36 (by decide) ?_
          exact q_zret X rfl hW ⟨rfl, rfl⟩ d_R_above_37
        · exact absurd c29 (by decide)
      · exact absurd c19 (by decide)
    · exact absurd c10 (by decide)
  · exact absurd c1 (by decide)
set_option maxHeartbeats 1000000 in
set_option maxRecDepth 20000 in
theorem c_R_above_3 (l : Launch) (E : QE) (S : QM) : qCI E l y_R_above prog_7_method_103_code 1 .int 1 [.int (nI 3)] S (nI 2) S := by
  refine qCI_of (by decide) (Nat.le_of_ble_eq_true rfl) (fun p e s m below meth c ls X hW hl => ?_)
  have hl : lv_has ls 1 [(0, .int (nI 3))] := hl
  refine lv_iload_n X.x X.b d_R_above_0 rfl (lv_at hl 0 rfl) ?_
  refine lv_if_ne (tgt := 8) X.x X.b d_R_above_1 (by decide) (fun c1 => ?_) (fun c1 => ?_)
  · have c1 : ¬ 3 = 0 := fun z => c1 ((nI_eq (a := 3) (b := 0) (by omega) (by omega)).mpr z)
    refine lv_iload_n X.x X.b d_R_above_8 rfl (lv_at hl 0 rfl) ?_
    refine lv_iconst (v := nI 3) X.x X.b d_R_above_9 (by decide) ?_
    refine lv_icmp_ne (tgt := 17) X.x X.b d_R_above_10 (by decide) (fun c10 => ?_) (fun c10 => ?_)
    · exact absurd (by decide) c10
    · have c10 : 3 = 3 := (nI_eq (a := 3) (b := 3) (by omega) (by omega)).mp c10
      refine lv_iconst (v := nI 2) X.x X.b d_R_above_13 (by decide) ?_
      refine lv_goto (tgt := 37) X.x X.b d_R_above_14 (by decide) ?_
      exact q_zret X rfl hW ⟨rfl, rfl⟩ d_R_above_37
  · exact absurd c1 (by decide)
set_option maxHeartbeats 1000000 in
set_option maxRecDepth 20000 in
theorem c_R_above_4 (l : Launch) (E : QE) (S : QM) : qCI E l y_R_above prog_7_method_103_code 1 .int 1 [.int (nI 4)] S (nI 3) S := by
  refine qCI_of (by decide) (Nat.le_of_ble_eq_true rfl) (fun p e s m below meth c ls X hW hl => ?_)
  have hl : lv_has ls 1 [(0, .int (nI 4))] := hl
  refine lv_iload_n X.x X.b d_R_above_0 rfl (lv_at hl 0 rfl) ?_
  refine lv_if_ne (tgt := 8) X.x X.b d_R_above_1 (by decide) (fun c1 => ?_) (fun c1 => ?_)
  · have c1 : ¬ 4 = 0 := fun z => c1 ((nI_eq (a := 4) (b := 0) (by omega) (by omega)).mpr z)
    refine lv_iload_n X.x X.b d_R_above_8 rfl (lv_at hl 0 rfl) ?_
    refine lv_iconst (v := nI 3) X.x X.b d_R_above_9 (by decide) ?_
    refine lv_icmp_ne (tgt := 17) X.x X.b d_R_above_10 (by decide) (fun c10 => ?_) (fun c10 => ?_)
    · have c10 : ¬ 4 = 3 := fun z => c10 ((nI_eq (a := 4) (b := 3) (by omega) (by omega)).mpr z)
      refine lv_iload_n X.x X.b d_R_above_17 rfl (lv_at hl 0 rfl) ?_
      refine lv_iconst (v := nI 4) X.x X.b d_R_above_18 (by decide) ?_
      refine lv_icmp_ne (tgt := 26) X.x X.b d_R_above_19 (by decide) (fun c19 => ?_) (fun c19 => ?_)
      · exact absurd (by decide) c19
      · have c19 : 4 = 4 := (nI_eq (a := 4) (b := 4) (by omega) (by omega)).mp c19
        refine lv_iconst (v := nI 3) X.x X.b d_R_above_22 (by decide) ?_
        refine lv_goto (tgt := 37) X.x X.b d_R_above_23 (by decide) ?_
        exact q_zret X rfl hW ⟨rfl, rfl⟩ d_R_above_37
    · exact absurd c10 (by decide)
  · exact absurd c1 (by decide)
set_option maxHeartbeats 1000000 in
set_option maxRecDepth 20000 in
theorem c_R_above_5 (l : Launch) (E : QE) (S : QM) : qCI E l y_R_above prog_7_method_103_code 1 .int 1 [.int (nI 5)] S (nI 0) S := by
  refine qCI_of (by decide) (Nat.le_of_ble_eq_true rfl) (fun p e s m below meth c ls X hW hl => ?_)
  have hl : lv_has ls 1 [(0, .int (nI 5))] := hl
  refine lv_iload_n X.x X.b d_R_above_0 rfl (lv_at hl 0 rfl) ?_
  refine lv_if_ne (tgt := 8) X.x X.b d_R_above_1 (by decide) (fun c1 => ?_) (fun c1 => ?_)
  · have c1 : ¬ 5 = 0 := fun z => c1 ((nI_eq (a := 5) (b := 0) (by omega) (by omega)).mpr z)
    refine lv_iload_n X.x X.b d_R_above_8 rfl (lv_at hl 0 rfl) ?_
    refine lv_iconst (v := nI 3) X.x X.b d_R_above_9 (by decide) ?_
    refine lv_icmp_ne (tgt := 17) X.x X.b d_R_above_10 (by decide) (fun c10 => ?_) (fun c10 => ?_)
    · have c10 : ¬ 5 = 3 := fun z => c10 ((nI_eq (a := 5) (b := 3) (by omega) (by omega)).mpr z)
      refine lv_iload_n X.x X.b d_R_above_17 rfl (lv_at hl 0 rfl) ?_
      refine lv_iconst (v := nI 4) X.x X.b d_R_above_18 (by decide) ?_
      refine lv_icmp_ne (tgt := 26) X.x X.b d_R_above_19 (by decide) (fun c19 => ?_) (fun c19 => ?_)
      · have c19 : ¬ 5 = 4 := fun z => c19 ((nI_eq (a := 5) (b := 4) (by omega) (by omega)).mpr z)
        refine lv_iload_n X.x X.b d_R_above_26 rfl (lv_at hl 0 rfl) ?_
        refine lv_bipush (v := nI 6) X.x X.b d_R_above_27 (by decide) ?_
        refine lv_icmp_ne (tgt := 36) X.x X.b d_R_above_29 (by decide) (fun c29 => ?_) (fun c29 => ?_)
        · have c29 : ¬ 5 = 6 := fun z => c29 ((nI_eq (a := 5) (b := 6) (by omega) (by omega)).mpr z)
          refine lv_iconst (v := nI 0) X.x X.b d_R_above_36 (by decide) ?_
          exact q_zret X rfl hW ⟨rfl, rfl⟩ d_R_above_37
        · exact absurd c29 (by decide)
      · exact absurd c19 (by decide)
    · exact absurd c10 (by decide)
  · exact absurd c1 (by decide)
set_option maxHeartbeats 1000000 in
set_option maxRecDepth 20000 in
theorem c_R_above_6 (l : Launch) (E : QE) (S : QM) : qCI E l y_R_above prog_7_method_103_code 1 .int 1 [.int (nI 6)] S (nI 1) S := by
  refine qCI_of (by decide) (Nat.le_of_ble_eq_true rfl) (fun p e s m below meth c ls X hW hl => ?_)
  have hl : lv_has ls 1 [(0, .int (nI 6))] := hl
  refine lv_iload_n X.x X.b d_R_above_0 rfl (lv_at hl 0 rfl) ?_
  refine lv_if_ne (tgt := 8) X.x X.b d_R_above_1 (by decide) (fun c1 => ?_) (fun c1 => ?_)
  · have c1 : ¬ 6 = 0 := fun z => c1 ((nI_eq (a := 6) (b := 0) (by omega) (by omega)).mpr z)
    refine lv_iload_n X.x X.b d_R_above_8 rfl (lv_at hl 0 rfl) ?_
    refine lv_iconst (v := nI 3) X.x X.b d_R_above_9 (by decide) ?_
    refine lv_icmp_ne (tgt := 17) X.x X.b d_R_above_10 (by decide) (fun c10 => ?_) (fun c10 => ?_)
    · have c10 : ¬ 6 = 3 := fun z => c10 ((nI_eq (a := 6) (b := 3) (by omega) (by omega)).mpr z)
      refine lv_iload_n X.x X.b d_R_above_17 rfl (lv_at hl 0 rfl) ?_
      refine lv_iconst (v := nI 4) X.x X.b d_R_above_18 (by decide) ?_
      refine lv_icmp_ne (tgt := 26) X.x X.b d_R_above_19 (by decide) (fun c19 => ?_) (fun c19 => ?_)
      · have c19 : ¬ 6 = 4 := fun z => c19 ((nI_eq (a := 6) (b := 4) (by omega) (by omega)).mpr z)
        refine lv_iload_n X.x X.b d_R_above_26 rfl (lv_at hl 0 rfl) ?_
        refine lv_bipush (v := nI 6) X.x X.b d_R_above_27 (by decide) ?_
        refine lv_icmp_ne (tgt := 36) X.x X.b d_R_above_29 (by decide) (fun c29 => ?_) (fun c29 => ?_)
        · exact absurd (by decide) c29
        · have c29 : 6 = 6 := (nI_eq (a := 6) (b := 6) (by omega) (by omega)).mp c29
          refine lv_iconst (v := nI 1) X.x X.b d_R_above_32 (by decide) ?_
          refine lv_goto (tgt := 37) X.x X.b d_R_above_33 (by decide) ?_
          exact q_zret X rfl hW ⟨rfl, rfl⟩ d_R_above_37
      · exact absurd c19 (by decide)
    · exact absurd c10 (by decide)
  · exact absurd c1 (by decide)
set_option maxHeartbeats 1000000 in
set_option maxRecDepth 20000 in
theorem c_R_isUnder_0 (l : Launch) (E : QE) (S : QM) (b : Nat) (hb : b ≤ 6) : qCI E l y_R_isUnder prog_7_method_104_code 3 .boolean 2 [.int (nI 0), .int (nI b)] S (b2i (und 0 b)) S := by
  refine qCI_of (by decide) (Nat.le_of_ble_eq_true rfl) (fun p e s m below meth c ls X hW hl => ?_)
  have hl : lv_has ls 3 [(0, .int (nI 0)), (1, .int (nI b))] := hl
  refine lv_iload_n X.x X.b d_R_isUnder_0 rfl (lv_at hl 0 rfl) ?_
  refine lv_istore_n (lv' := [(2, .int (nI 0)), (0, .int (nI 0)), (1, .int (nI b))]) X.x X.b d_R_isUnder_1 rfl hl (by decide) rfl (fun ls hl => ?_)
  refine lv_iload_n X.x X.b d_R_isUnder_2 rfl (lv_at hl 0 rfl) ?_
  refine lv_if_lt (tgt := 19) X.x X.b d_R_isUnder_3 (by decide) (fun c3 => ?_) (fun c3 => ?_)
  · exact absurd c3 (by decide)
  · have c3 : ¬ 0 < 0 := fun z => c3 ((nI_ltI (a := 0) (b := 0) (by omega) (by omega)).mpr z)
    refine lv_iload_n X.x X.b d_R_isUnder_6 rfl (lv_at hl 0 rfl) ?_
    refine lv_iload_n X.x X.b d_R_isUnder_7 rfl (lv_at hl 2 rfl) ?_
    refine lv_icmp_eq (tgt := 19) X.x X.b d_R_isUnder_8 (by decide) (fun c8 => ?_) (fun c8 => ?_)
    · have c8 : 0 = b := (nI_eq (a := 0) (b := b) (by omega) (by omega)).mp c8
      refine lv_iload_n X.x X.b d_R_isUnder_19 rfl (lv_at hl 0 rfl) ?_
      refine lv_if_lt (tgt := 27) X.x X.b d_R_isUnder_20 (by decide) (fun c20 => ?_) (fun c20 => ?_)
      · exact absurd c20 (by decide)
      · have c20 : ¬ 0 < 0 := fun z => c20 ((nI_ltI (a := 0) (b := 0) (by omega) (by omega)).mpr z)
        refine lv_iconst (v := nI 1) X.x X.b d_R_isUnder_23 (by decide) ?_
        refine lv_goto (tgt := 28) X.x X.b d_R_isUnder_24 (by decide) ?_
        exact q_zret X (by decide) hW ⟨(b2i_t (by rw [← c8]; decide)).symm, rfl⟩ d_R_isUnder_28
    · have c8 : ¬ 0 = b := fun z => c8 ((nI_eq (a := 0) (b := b) (by omega) (by omega)).mpr z)
      refine lv_iload_n X.x X.b d_R_isUnder_11 rfl (lv_at hl 0 rfl) ?_
      refine q_csi X (c_R_above_0 l E S) hW ok_R_above mw_1142 ⟨by decide, by decide⟩ (As := [.int (nI 0)]) rfl rfl (Nat.le_of_ble_eq_true rfl) (lv := [(2, .int (nI 0)), (0, .int (nI 0)), (1, .int (nI b))]) hl ⟨Nat.le_refl 0, Nat.le_refl 0⟩ d_R_isUnder_12 (fun H locs hW => ?_)
      refine lv_istore_n (lv' := [(2, .int (-1)), (0, .int (nI 0)), (1, .int (nI b))]) X.x X.b d_R_isUnder_15 rfl hl (by decide) rfl (fun ls hl => ?_)
      refine lv_goto (tgt := 2) X.x X.b d_R_isUnder_16 (by decide) ?_
      refine lv_iload_n X.x X.b d_R_isUnder_2 rfl (lv_at hl 0 rfl) ?_
      refine lv_if_lt (tgt := 19) X.x X.b d_R_isUnder_3 (by decide) (fun c3 => ?_) (fun c3 => ?_)
      · refine lv_iload_n X.x X.b d_R_isUnder_19 rfl (lv_at hl 0 rfl) ?_
        refine lv_if_lt (tgt := 27) X.x X.b d_R_isUnder_20 (by decide) (fun c20 => ?_) (fun c20 => ?_)
        · refine lv_iconst (v := nI 0) X.x X.b d_R_isUnder_27 (by decide) ?_
          exact q_zret X (by decide) hW ⟨(b2i_f (by simp only [und, anc, List.getD]; simp; omega)).symm, rfl⟩ d_R_isUnder_28
        · exact absurd (by decide) c20
      · exact absurd (by decide) c3
set_option maxHeartbeats 1000000 in
set_option maxRecDepth 20000 in
theorem c_R_isUnder_1 (l : Launch) (E : QE) (S : QM) (b : Nat) (hb : b ≤ 6) : qCI E l y_R_isUnder prog_7_method_104_code 3 .boolean 2 [.int (nI 1), .int (nI b)] S (b2i (und 1 b)) S := by
  refine qCI_of (by decide) (Nat.le_of_ble_eq_true rfl) (fun p e s m below meth c ls X hW hl => ?_)
  have hl : lv_has ls 3 [(0, .int (nI 1)), (1, .int (nI b))] := hl
  refine lv_iload_n X.x X.b d_R_isUnder_0 rfl (lv_at hl 0 rfl) ?_
  refine lv_istore_n (lv' := [(2, .int (nI 1)), (0, .int (nI 1)), (1, .int (nI b))]) X.x X.b d_R_isUnder_1 rfl hl (by decide) rfl (fun ls hl => ?_)
  refine lv_iload_n X.x X.b d_R_isUnder_2 rfl (lv_at hl 0 rfl) ?_
  refine lv_if_lt (tgt := 19) X.x X.b d_R_isUnder_3 (by decide) (fun c3 => ?_) (fun c3 => ?_)
  · exact absurd c3 (by decide)
  · have c3 : ¬ 1 < 0 := fun z => c3 ((nI_ltI (a := 1) (b := 0) (by omega) (by omega)).mpr z)
    refine lv_iload_n X.x X.b d_R_isUnder_6 rfl (lv_at hl 0 rfl) ?_
    refine lv_iload_n X.x X.b d_R_isUnder_7 rfl (lv_at hl 2 rfl) ?_
    refine lv_icmp_eq (tgt := 19) X.x X.b d_R_isUnder_8 (by decide) (fun c8 => ?_) (fun c8 => ?_)
    · have c8 : 1 = b := (nI_eq (a := 1) (b := b) (by omega) (by omega)).mp c8
      refine lv_iload_n X.x X.b d_R_isUnder_19 rfl (lv_at hl 0 rfl) ?_
      refine lv_if_lt (tgt := 27) X.x X.b d_R_isUnder_20 (by decide) (fun c20 => ?_) (fun c20 => ?_)
      · exact absurd c20 (by decide)
      · have c20 : ¬ 1 < 0 := fun z => c20 ((nI_ltI (a := 1) (b := 0) (by omega) (by omega)).mpr z)
        refine lv_iconst (v := nI 1) X.x X.b d_R_isUnder_23 (by decide) ?_
        refine lv_goto (tgt := 28) X.x X.b d_R_isUnder_24 (by decide) ?_
        exact q_zret X (by decide) hW ⟨(b2i_t (by rw [← c8]; decide)).symm, rfl⟩ d_R_isUnder_28
    · have c8 : ¬ 1 = b := fun z => c8 ((nI_eq (a := 1) (b := b) (by omega) (by omega)).mpr z)
      refine lv_iload_n X.x X.b d_R_isUnder_11 rfl (lv_at hl 0 rfl) ?_
      refine q_csi X (c_R_above_1 l E S) hW ok_R_above mw_1142 ⟨by decide, by decide⟩ (As := [.int (nI 1)]) rfl rfl (Nat.le_of_ble_eq_true rfl) (lv := [(2, .int (nI 1)), (0, .int (nI 1)), (1, .int (nI b))]) hl ⟨Nat.le_refl 0, Nat.le_refl 0⟩ d_R_isUnder_12 (fun H locs hW => ?_)
      refine lv_istore_n (lv' := [(2, .int (nI 0)), (0, .int (nI 1)), (1, .int (nI b))]) X.x X.b d_R_isUnder_15 rfl hl (by decide) rfl (fun ls hl => ?_)
      refine lv_goto (tgt := 2) X.x X.b d_R_isUnder_16 (by decide) ?_
      refine lv_iload_n X.x X.b d_R_isUnder_2 rfl (lv_at hl 0 rfl) ?_
      refine lv_if_lt (tgt := 19) X.x X.b d_R_isUnder_3 (by decide) (fun c3 => ?_) (fun c3 => ?_)
      · exact absurd c3 (by decide)
      · have c3 : ¬ 0 < 0 := fun z => c3 ((nI_ltI (a := 0) (b := 0) (by omega) (by omega)).mpr z)
        refine lv_iload_n X.x X.b d_R_isUnder_6 rfl (lv_at hl 0 rfl) ?_
        refine lv_iload_n X.x X.b d_R_isUnder_7 rfl (lv_at hl 2 rfl) ?_
        refine lv_icmp_eq (tgt := 19) X.x X.b d_R_isUnder_8 (by decide) (fun c8 => ?_) (fun c8 => ?_)
        · have c8 : 0 = b := (nI_eq (a := 0) (b := b) (by omega) (by omega)).mp c8
          refine lv_iload_n X.x X.b d_R_isUnder_19 rfl (lv_at hl 0 rfl) ?_
          refine lv_if_lt (tgt := 27) X.x X.b d_R_isUnder_20 (by decide) (fun c20 => ?_) (fun c20 => ?_)
          · exact absurd c20 (by decide)
          · have c20 : ¬ 0 < 0 := fun z => c20 ((nI_ltI (a := 0) (b := 0) (by omega) (by omega)).mpr z)
            refine lv_iconst (v := nI 1) X.x X.b d_R_isUnder_23 (by decide) ?_
            refine lv_goto (tgt := 28) X.x X.b d_R_isUnder_24 (by decide) ?_
            exact q_zret X (by decide) hW ⟨(b2i_t (by rw [← c8]; decide)).symm, rfl⟩ d_R_isUnder_28
        · have c8 : ¬ 0 = b := fun z => c8 ((nI_eq (a := 0) (b := b) (by omega) (by omega)).mpr z)
          refine lv_iload_n X.x X.b d_R_isUnder_11 rfl (lv_at hl 0 rfl) ?_
          refine q_csi X (c_R_above_0 l E S) hW ok_R_above mw_1142 ⟨by decide, by decide⟩ (As := [.int (nI 0)]) rfl rfl (Nat.le_of_ble_eq_true rfl) (lv := [(2, .int (nI 0)), (0, .int (nI 1)), (1, .int (nI b))]) hl ⟨Nat.le_refl 0, Nat.le_refl 0⟩ d_R_isUnder_12 (fun H locs hW => ?_)
          refine lv_istore_n (lv' := [(2, .int (-1)), (0, .int (nI 1)), (1, .int (nI b))]) X.x X.b d_R_isUnder_15 rfl hl (by decide) rfl (fun ls hl => ?_)
          refine lv_goto (tgt := 2) X.x X.b d_R_isUnder_16 (by decide) ?_
          refine lv_iload_n X.x X.b d_R_isUnder_2 rfl (lv_at hl 0 rfl) ?_
          refine lv_if_lt (tgt := 19) X.x X.b d_R_isUnder_3 (by decide) (fun c3 => ?_) (fun c3 => ?_)
          · refine lv_iload_n X.x X.b d_R_isUnder_19 rfl (lv_at hl 0 rfl) ?_
            refine lv_if_lt (tgt := 27) X.x X.b d_R_isUnder_20 (by decide) (fun c20 => ?_) (fun c20 => ?_)
            · refine lv_iconst (v := nI 0) X.x X.b d_R_isUnder_27 (by decide) ?_
              exact q_zret X (by decide) hW ⟨(b2i_f (by simp only [und, anc, List.getD]; simp; omega)).symm, rfl⟩ d_R_isUnder_28
            · exact absurd (by decide) c20
          · exact absurd (by decide) c3
set_option maxHeartbeats 1000000 in
set_option maxRecDepth 20000 in
theorem c_R_isUnder_2 (l : Launch) (E : QE) (S : QM) (b : Nat) (hb : b ≤ 6) : qCI E l y_R_isUnder prog_7_method_104_code 3 .boolean 2 [.int (nI 2), .int (nI b)] S (b2i (und 2 b)) S := by
  refine qCI_of (by decide) (Nat.le_of_ble_eq_true rfl) (fun p e s m below meth c ls X hW hl => ?_)
  have hl : lv_has ls 3 [(0, .int (nI 2)), (1, .int (nI b))] := hl
  refine lv_iload_n X.x X.b d_R_isUnder_0 rfl (lv_at hl 0 rfl) ?_
  refine lv_istore_n (lv' := [(2, .int (nI 2)), (0, .int (nI 2)), (1, .int (nI b))]) X.x X.b d_R_isUnder_1 rfl hl (by decide) rfl (fun ls hl => ?_)
  refine lv_iload_n X.x X.b d_R_isUnder_2 rfl (lv_at hl 0 rfl) ?_
  refine lv_if_lt (tgt := 19) X.x X.b d_R_isUnder_3 (by decide) (fun c3 => ?_) (fun c3 => ?_)
  · exact absurd c3 (by decide)
  · have c3 : ¬ 2 < 0 := fun z => c3 ((nI_ltI (a := 2) (b := 0) (by omega) (by omega)).mpr z)
    refine lv_iload_n X.x X.b d_R_isUnder_6 rfl (lv_at hl 0 rfl) ?_
    refine lv_iload_n X.x X.b d_R_isUnder_7 rfl (lv_at hl 2 rfl) ?_
    refine lv_icmp_eq (tgt := 19) X.x X.b d_R_isUnder_8 (by decide) (fun c8 => ?_) (fun c8 => ?_)
    · have c8 : 2 = b := (nI_eq (a := 2) (b := b) (by omega) (by omega)).mp c8
      refine lv_iload_n X.x X.b d_R_isUnder_19 rfl (lv_at hl 0 rfl) ?_
      refine lv_if_lt (tgt := 27) X.x X.b d_R_isUnder_20 (by decide) (fun c20 => ?_) (fun c20 => ?_)
      · exact absurd c20 (by decide)
      · have c20 : ¬ 2 < 0 := fun z => c20 ((nI_ltI (a := 2) (b := 0) (by omega) (by omega)).mpr z)
        refine lv_iconst (v := nI 1) X.x X.b d_R_isUnder_23 (by decide) ?_
        refine lv_goto (tgt := 28) X.x X.b d_R_isUnder_24 (by decide) ?_
        exact q_zret X (by decide) hW ⟨(b2i_t (by rw [← c8]; decide)).symm, rfl⟩ d_R_isUnder_28
    · have c8 : ¬ 2 = b := fun z => c8 ((nI_eq (a := 2) (b := b) (by omega) (by omega)).mpr z)
      refine lv_iload_n X.x X.b d_R_isUnder_11 rfl (lv_at hl 0 rfl) ?_
      refine q_csi X (c_R_above_2 l E S) hW ok_R_above mw_1142 ⟨by decide, by decide⟩ (As := [.int (nI 2)]) rfl rfl (Nat.le_of_ble_eq_true rfl) (lv := [(2, .int (nI 2)), (0, .int (nI 2)), (1, .int (nI b))]) hl ⟨Nat.le_refl 0, Nat.le_refl 0⟩ d_R_isUnder_12 (fun H locs hW => ?_)
      refine lv_istore_n (lv' := [(2, .int (nI 0)), (0, .int (nI 2)), (1, .int (nI b))]) X.x X.b d_R_isUnder_15 rfl hl (by decide) rfl (fun ls hl => ?_)
      refine lv_goto (tgt := 2) X.x X.b d_R_isUnder_16 (by decide) ?_
      refine lv_iload_n X.x X.b d_R_isUnder_2 rfl (lv_at hl 0 rfl) ?_
      refine lv_if_lt (tgt := 19) X.x X.b d_R_isUnder_3 (by decide) (fun c3 => ?_) (fun c3 => ?_)
      · exact absurd c3 (by decide)
      · have c3 : ¬ 0 < 0 := fun z => c3 ((nI_ltI (a := 0) (b := 0) (by omega) (by omega)).mpr z)
        refine lv_iload_n X.x X.b d_R_isUnder_6 rfl (lv_at hl 0 rfl) ?_
        refine lv_iload_n X.x X.b d_R_isUnder_7 rfl (lv_at hl 2 rfl) ?_
        refine lv_icmp_eq (tgt := 19) X.x X.b d_R_isUnder_8 (by decide) (fun c8 => ?_) (fun c8 => ?_)
        · have c8 : 0 = b := (nI_eq (a := 0) (b := b) (by omega) (by omega)).mp c8
          refine lv_iload_n X.x X.b d_R_isUnder_19 rfl (lv_at hl 0 rfl) ?_
          refine lv_if_lt (tgt := 27) X.x X.b d_R_isUnder_20 (by decide) (fun c20 => ?_) (fun c20 => ?_)
          · exact absurd c20 (by decide)
          · have c20 : ¬ 0 < 0 := fun z => c20 ((nI_ltI (a := 0) (b := 0) (by omega) (by omega)).mpr z)
            refine lv_iconst (v := nI 1) X.x X.b d_R_isUnder_23 (by decide) ?_
            refine lv_goto (tgt := 28) X.x X.b d_R_isUnder_24 (by decide) ?_
            exact q_zret X (by decide) hW ⟨(b2i_t (by rw [← c8]; decide)).symm, rfl⟩ d_R_isUnder_28
        · have c8 : ¬ 0 = b := fun z => c8 ((nI_eq (a := 0) (b := b) (by omega) (by omega)).mpr z)
          refine lv_iload_n X.x X.b d_R_isUnder_11 rfl (lv_at hl 0 rfl) ?_
          refine q_csi X (c_R_above_0 l E S) hW ok_R_above mw_1142 ⟨by decide, by decide⟩ (As := [.int (nI 0)]) rfl rfl (Nat.le_of_ble_eq_true rfl) (lv := [(2, .int (nI 0)), (0, .int (nI 2)), (1, .int (nI b))]) hl ⟨Nat.le_refl 0, Nat.le_refl 0⟩ d_R_isUnder_12 (fun H locs hW => ?_)
          refine lv_istore_n (lv' := [(2, .int (-1)), (0, .int (nI 2)), (1, .int (nI b))]) X.x X.b d_R_isUnder_15 rfl hl (by decide) rfl (fun ls hl => ?_)
          refine lv_goto (tgt := 2) X.x X.b d_R_isUnder_16 (by decide) ?_
          refine lv_iload_n X.x X.b d_R_isUnder_2 rfl (lv_at hl 0 rfl) ?_
          refine lv_if_lt (tgt := 19) X.x X.b d_R_isUnder_3 (by decide) (fun c3 => ?_) (fun c3 => ?_)
          · refine lv_iload_n X.x X.b d_R_isUnder_19 rfl (lv_at hl 0 rfl) ?_
            refine lv_if_lt (tgt := 27) X.x X.b d_R_isUnder_20 (by decide) (fun c20 => ?_) (fun c20 => ?_)
            · refine lv_iconst (v := nI 0) X.x X.b d_R_isUnder_27 (by decide) ?_
              exact q_zret X (by decide) hW ⟨(b2i_f (by simp only [und, anc, List.getD]; simp; omega)).symm, rfl⟩ d_R_isUnder_28
            · exact absurd (by decide) c20
          · exact absurd (by decide) c3
set_option maxHeartbeats 1000000 in
set_option maxRecDepth 20000 in
theorem c_R_isUnder_3 (l : Launch) (E : QE) (S : QM) (b : Nat) (hb : b ≤ 6) : qCI E l y_R_isUnder prog_7_method_104_code 3 .boolean 2 [.int (nI 3), .int (nI b)] S (b2i (und 3 b)) S := by
  refine qCI_of (by decide) (Nat.le_of_ble_eq_true rfl) (fun p e s m below meth c ls X hW hl => ?_)
  have hl : lv_has ls 3 [(0, .int (nI 3)), (1, .int (nI b))] := hl
  refine lv_iload_n X.x X.b d_R_isUnder_0 rfl (lv_at hl 0 rfl) ?_
  refine lv_istore_n (lv' := [(2, .int (nI 3)), (0, .int (nI 3)), (1, .int (nI b))]) X.x X.b d_R_isUnder_1 rfl hl (by decide) rfl (fun ls hl => ?_)
  refine lv_iload_n X.x X.b d_R_isUnder_2 rfl (lv_at hl 0 rfl) ?_
  refine lv_if_lt (tgt := 19) X.x X.b d_R_isUnder_3 (by decide) (fun c3 => ?_) (fun c3 => ?_)
  · exact absurd c3 (by decide)
  · have c3 : ¬ 3 < 0 := fun z => c3 ((nI_ltI (a := 3) (b := 0) (by omega) (by omega)).mpr z)
    refine lv_iload_n X.x X.b d_R_isUnder_6 rfl (lv_at hl 0 rfl) ?_
    refine lv_iload_n X.x X.b d_R_isUnder_7 rfl (lv_at hl 2 rfl) ?_
    refine lv_icmp_eq (tgt := 19) X.x X.b d_R_isUnder_8 (by decide) (fun c8 => ?_) (fun c8 => ?_)
    · have c8 : 3 = b := (nI_eq (a := 3) (b := b) (by omega) (by omega)).mp c8
      refine lv_iload_n X.x X.b d_R_isUnder_19 rfl (lv_at hl 0 rfl) ?_
      refine lv_if_lt (tgt := 27) X.x X.b d_R_isUnder_20 (by decide) (fun c20 => ?_) (fun c20 => ?_)
      · exact absurd c20 (by decide)
      · have c20 : ¬ 3 < 0 := fun z => c20 ((nI_ltI (a := 3) (b := 0) (by omega) (by omega)).mpr z)
        refine lv_iconst (v := nI 1) X.x X.b d_R_isUnder_23 (by decide) ?_
        refine lv_goto (tgt := 28) X.x X.b d_R_isUnder_24 (by decide) ?_
        exact q_zret X (by decide) hW ⟨(b2i_t (by rw [← c8]; decide)).symm, rfl⟩ d_R_isUnder_28
    · have c8 : ¬ 3 = b := fun z => c8 ((nI_eq (a := 3) (b := b) (by omega) (by omega)).mpr z)
      refine lv_iload_n X.x X.b d_R_isUnder_11 rfl (lv_at hl 0 rfl) ?_
      refine q_csi X (c_R_above_3 l E S) hW ok_R_above mw_1142 ⟨by decide, by decide⟩ (As := [.int (nI 3)]) rfl rfl (Nat.le_of_ble_eq_true rfl) (lv := [(2, .int (nI 3)), (0, .int (nI 3)), (1, .int (nI b))]) hl ⟨Nat.le_refl 0, Nat.le_refl 0⟩ d_R_isUnder_12 (fun H locs hW => ?_)
      refine lv_istore_n (lv' := [(2, .int (nI 2)), (0, .int (nI 3)), (1, .int (nI b))]) X.x X.b d_R_isUnder_15 rfl hl (by decide) rfl (fun ls hl => ?_)
      refine lv_goto (tgt := 2) X.x X.b d_R_isUnder_16 (by decide) ?_
      refine lv_iload_n X.x X.b d_R_isUnder_2 rfl (lv_at hl 0 rfl) ?_
      refine lv_if_lt (tgt := 19) X.x X.b d_R_isUnder_3 (by decide) (fun c3 => ?_) (fun c3 => ?_)
      · exact absurd c3 (by decide)
      · have c3 : ¬ 2 < 0 := fun z => c3 ((nI_ltI (a := 2) (b := 0) (by omega) (by omega)).mpr z)
        refine lv_iload_n X.x X.b d_R_isUnder_6 rfl (lv_at hl 0 rfl) ?_
        refine lv_iload_n X.x X.b d_R_isUnder_7 rfl (lv_at hl 2 rfl) ?_
        refine lv_icmp_eq (tgt := 19) X.x X.b d_R_isUnder_8 (by decide) (fun c8 => ?_) (fun c8 => ?_)
        · have c8 : 2 = b := (nI_eq (a := 2) (b := b) (by omega) (by omega)).mp c8
          refine lv_iload_n X.x X.b d_R_isUnder_19 rfl (lv_at hl 0 rfl) ?_
          refine lv_if_lt (tgt := 27) X.x X.b d_R_isUnder_20 (by decide) (fun c20 => ?_) (fun c20 => ?_)
          · exact absurd c20 (by decide)
          · have c20 : ¬ 2 < 0 := fun z => c20 ((nI_ltI (a := 2) (b := 0) (by omega) (by omega)).mpr z)
            refine lv_iconst (v := nI 1) X.x X.b d_R_isUnder_23 (by decide) ?_
            refine lv_goto (tgt := 28) X.x X.b d_R_isUnder_24 (by decide) ?_
            exact q_zret X (by decide) hW ⟨(b2i_t (by rw [← c8]; decide)).symm, rfl⟩ d_R_isUnder_28
        · have c8 : ¬ 2 = b := fun z => c8 ((nI_eq (a := 2) (b := b) (by omega) (by omega)).mpr z)
          refine lv_iload_n X.x X.b d_R_isUnder_11 rfl (lv_at hl 0 rfl) ?_
          refine q_csi X (c_R_above_2 l E S) hW ok_R_above mw_1142 ⟨by decide, by decide⟩ (As := [.int (nI 2)]) rfl rfl (Nat.le_of_ble_eq_true rfl) (lv := [(2, .int (nI 2)), (0, .int (nI 3)), (1, .int (nI b))]) hl ⟨Nat.le_refl 0, Nat.le_refl 0⟩ d_R_isUnder_12 (fun H locs hW => ?_)
          refine lv_istore_n (lv' := [(2, .int (nI 0)), (0, .int (nI 3)), (1, .int (nI b))]) X.x X.b d_R_isUnder_15 rfl hl (by decide) rfl (fun ls hl => ?_)
          refine lv_goto (tgt := 2) X.x X.b d_R_isUnder_16 (by decide) ?_
          refine lv_iload_n X.x X.b d_R_isUnder_2 rfl (lv_at hl 0 rfl) ?_
          refine lv_if_lt (tgt := 19) X.x X.b d_R_isUnder_3 (by decide) (fun c3 => ?_) (fun c3 => ?_)
          · exact absurd c3 (by decide)
          · have c3 : ¬ 0 < 0 := fun z => c3 ((nI_ltI (a := 0) (b := 0) (by omega) (by omega)).mpr z)
            refine lv_iload_n X.x X.b d_R_isUnder_6 rfl (lv_at hl 0 rfl) ?_
            refine lv_iload_n X.x X.b d_R_isUnder_7 rfl (lv_at hl 2 rfl) ?_
            refine lv_icmp_eq (tgt := 19) X.x X.b d_R_isUnder_8 (by decide) (fun c8 => ?_) (fun c8 => ?_)
            · have c8 : 0 = b := (nI_eq (a := 0) (b := b) (by omega) (by omega)).mp c8
              refine lv_iload_n X.x X.b d_R_isUnder_19 rfl (lv_at hl 0 rfl) ?_
              refine lv_if_lt (tgt := 27) X.x X.b d_R_isUnder_20 (by decide) (fun c20 => ?_) (fun c20 => ?_)
              · exact absurd c20 (by decide)
              · have c20 : ¬ 0 < 0 := fun z => c20 ((nI_ltI (a := 0) (b := 0) (by omega) (by omega)).mpr z)
                refine lv_iconst (v := nI 1) X.x X.b d_R_isUnder_23 (by decide) ?_
                refine lv_goto (tgt := 28) X.x X.b d_R_isUnder_24 (by decide) ?_
                exact q_zret X (by decide) hW ⟨(b2i_t (by rw [← c8]; decide)).symm, rfl⟩ d_R_isUnder_28
            · have c8 : ¬ 0 = b := fun z => c8 ((nI_eq (a := 0) (b := b) (by omega) (by omega)).mpr z)
              refine lv_iload_n X.x X.b d_R_isUnder_11 rfl (lv_at hl 0 rfl) ?_
              refine q_csi X (c_R_above_0 l E S) hW ok_R_above mw_1142 ⟨by decide, by decide⟩ (As := [.int (nI 0)]) rfl rfl (Nat.le_of_ble_eq_true rfl) (lv := [(2, .int (nI 0)), (0, .int (nI 3)), (1, .int (nI b))]) hl ⟨Nat.le_refl 0, Nat.le_refl 0⟩ d_R_isUnder_12 (fun H locs hW => ?_)
              refine lv_istore_n (lv' := [(2, .int (-1)), (0, .int (nI 3)), (1, .int (nI b))]) X.x X.b d_R_isUnder_15 rfl hl (by decide) rfl (fun ls hl => ?_)
              refine lv_goto (tgt := 2) X.x X.b d_R_isUnder_16 (by decide) ?_
              refine lv_iload_n X.x X.b d_R_isUnder_2 rfl (lv_at hl 0 rfl) ?_
              refine lv_if_lt (tgt := 19) X.x X.b d_R_isUnder_3 (by decide) (fun c3 => ?_) (fun c3 => ?_)
              · refine lv_iload_n X.x X.b d_R_isUnder_19 rfl (lv_at hl 0 rfl) ?_
                refine lv_if_lt (tgt := 27) X.x X.b d_R_isUnder_20 (by decide) (fun c20 => ?_) (fun c20 => ?_)
                · refine lv_iconst (v := nI 0) X.x X.b d_R_isUnder_27 (by decide) ?_
                  exact q_zret X (by decide) hW ⟨(b2i_f (by simp only [und, anc, List.getD]; simp; omega)).symm, rfl⟩ d_R_isUnder_28
                · exact absurd (by decide) c20
              · exact absurd (by decide) c3
set_option maxHeartbeats 1000000 in
set_option maxRecDepth 20000 in
theorem c_R_isUnder_4 (l : Launch) (E : QE) (S : QM) (b : Nat) (hb : b ≤ 6) : qCI E l y_R_isUnder prog_7_method_104_code 3 .boolean 2 [.int (nI 4), .int (nI b)] S (b2i (und 4 b)) S := by
  refine qCI_of (by decide) (Nat.le_of_ble_eq_true rfl) (fun p e s m below meth c ls X hW hl => ?_)
  have hl : lv_has ls 3 [(0, .int (nI 4)), (1, .int (nI b))] := hl
  refine lv_iload_n X.x X.b d_R_isUnder_0 rfl (lv_at hl 0 rfl) ?_
  refine lv_istore_n (lv' := [(2, .int (nI 4)), (0, .int (nI 4)), (1, .int (nI b))]) X.x X.b d_R_isUnder_1 rfl hl (by decide) rfl (fun ls hl => ?_)
  refine lv_iload_n X.x X.b d_R_isUnder_2 rfl (lv_at hl 0 rfl) ?_
  refine lv_if_lt (tgt := 19) X.x X.b d_R_isUnder_3 (by decide) (fun c3 => ?_) (fun c3 => ?_)
  · exact absurd c3 (by decide)
  · have c3 : ¬ 4 < 0 := fun z => c3 ((nI_ltI (a := 4) (b := 0) (by omega) (by omega)).mpr z)
    refine lv_iload_n X.x X.b d_R_isUnder_6 rfl (lv_at hl 0 rfl) ?_
    refine lv_iload_n X.x X.b d_R_isUnder_7 rfl (lv_at hl 2 rfl) ?_
    refine lv_icmp_eq (tgt := 19) X.x X.b d_R_isUnder_8 (by decide) (fun c8 => ?_) (fun c8 => ?_)
    · have c8 : 4 = b := (nI_eq (a := 4) (b := b) (by omega) (by omega)).mp c8
      refine lv_iload_n X.x X.b d_R_isUnder_19 rfl (lv_at hl 0 rfl) ?_
      refine lv_if_lt (tgt := 27) X.x X.b d_R_isUnder_20 (by decide) (fun c20 => ?_) (fun c20 => ?_)
      · exact absurd c20 (by decide)
      · have c20 : ¬ 4 < 0 := fun z => c20 ((nI_ltI (a := 4) (b := 0) (by omega) (by omega)).mpr z)
        refine lv_iconst (v := nI 1) X.x X.b d_R_isUnder_23 (by decide) ?_
        refine lv_goto (tgt := 28) X.x X.b d_R_isUnder_24 (by decide) ?_
        exact q_zret X (by decide) hW ⟨(b2i_t (by rw [← c8]; decide)).symm, rfl⟩ d_R_isUnder_28
    · have c8 : ¬ 4 = b := fun z => c8 ((nI_eq (a := 4) (b := b) (by omega) (by omega)).mpr z)
      refine lv_iload_n X.x X.b d_R_isUnder_11 rfl (lv_at hl 0 rfl) ?_
      refine q_csi X (c_R_above_4 l E S) hW ok_R_above mw_1142 ⟨by decide, by decide⟩ (As := [.int (nI 4)]) rfl rfl (Nat.le_of_ble_eq_true rfl) (lv := [(2, .int (nI 4)), (0, .int (nI 4)), (1, .int (nI b))]) hl ⟨Nat.le_refl 0, Nat.le_refl 0⟩ d_R_isUnder_12 (fun H locs hW => ?_)
      refine lv_istore_n (lv' := [(2, .int (nI 3)), (0, .int (nI 4)), (1, .int (nI b))]) X.x X.b d_R_isUnder_15 rfl hl (by decide) rfl (fun ls hl => ?_)
      refine lv_goto (tgt := 2) X.x X.b d_R_isUnder_16 (by decide) ?_
      refine lv_iload_n X.x X.b d_R_isUnder_2 rfl (lv_at hl 0 rfl) ?_
      refine lv_if_lt (tgt := 19) X.x X.b d_R_isUnder_3 (by decide) (fun c3 => ?_) (fun c3 => ?_)
      · exact absurd c3 (by decide)
      · have c3 : ¬ 3 < 0 := fun z => c3 ((nI_ltI (a := 3) (b := 0) (by omega) (by omega)).mpr z)
        refine lv_iload_n X.x X.b d_R_isUnder_6 rfl (lv_at hl 0 rfl) ?_
        refine lv_iload_n X.x X.b d_R_isUnder_7 rfl (lv_at hl 2 rfl) ?_
        refine lv_icmp_eq (tgt := 19) X.x X.b d_R_isUnder_8 (by decide) (fun c8 => ?_) (fun c8 => ?_)
        · have c8 : 3 = b := (nI_eq (a := 3) (b := b) (by omega) (by omega)).mp c8
          refine lv_iload_n X.x X.b d_R_isUnder_19 rfl (lv_at hl 0 rfl) ?_
          refine lv_if_lt (tgt := 27) X.x X.b d_R_isUnder_20 (by decide) (fun c20 => ?_) (fun c20 => ?_)
          · exact absurd c20 (by decide)
          · have c20 : ¬ 3 < 0 := fun z => c20 ((nI_ltI (a := 3) (b := 0) (by omega) (by omega)).mpr z)
            refine lv_iconst (v := nI 1) X.x X.b d_R_isUnder_23 (by decide) ?_
            refine lv_goto (tgt := 28) X.x X.b d_R_isUnder_24 (by decide) ?_
            exact q_zret X (by decide) hW ⟨(b2i_t (by rw [← c8]; decide)).symm, rfl⟩ d_R_isUnder_28
        · have c8 : ¬ 3 = b := fun z => c8 ((nI_eq (a := 3) (b := b) (by omega) (by omega)).mpr z)
          refine lv_iload_n X.x X.b d_R_isUnder_11 rfl (lv_at hl 0 rfl) ?_
          refine q_csi X (c_R_above_3 l E S) hW ok_R_above mw_1142 ⟨by decide, by decide⟩ (As := [.int (nI 3)]) rfl rfl (Nat.le_of_ble_eq_true rfl) (lv := [(2, .int (nI 3)), (0, .int (nI 4)), (1, .int (nI b))]) hl ⟨Nat.le_refl 0, Nat.le_refl 0⟩ d_R_isUnder_12 (fun H locs hW => ?_)
          refine lv_istore_n (lv' := [(2, .int (nI 2)), (0, .int (nI 4)), (1, .int (nI b))]) X.x X.b d_R_isUnder_15 rfl hl (by decide) rfl (fun ls hl => ?_)
          refine lv_goto (tgt := 2) X.x X.b d_R_isUnder_16 (by decide) ?_
          refine lv_iload_n X.x X.b d_R_isUnder_2 rfl (lv_at hl 0 rfl) ?_
          refine lv_if_lt (tgt := 19) X.x X.b d_R_isUnder_3 (by decide) (fun c3 => ?_) (fun c3 => ?_)
          · exact absurd c3 (by decide)
          · have c3 : ¬ 2 < 0 := fun z => c3 ((nI_ltI (a := 2) (b := 0) (by omega) (by omega)).mpr z)
            refine lv_iload_n X.x X.b d_R_isUnder_6 rfl (lv_at hl 0 rfl) ?_
            refine lv_iload_n X.x X.b d_R_isUnder_7 rfl (lv_at hl 2 rfl) ?_
            refine lv_icmp_eq (tgt := 19) X.x X.b d_R_isUnder_8 (by decide) (fun c8 => ?_) (fun c8 => ?_)
            · have c8 : 2 = b := (nI_eq (a := 2) (b := b) (by omega) (by omega)).mp c8
              refine lv_iload_n X.x X.b d_R_isUnder_19 rfl (lv_at hl 0 rfl) ?_
              refine lv_if_lt (tgt := 27) X.x X.b d_R_isUnder_20 (by decide) (fun c20 => ?_) (fun c20 => ?_)
              · exact absurd c20 (by decide)
              · have c20 : ¬ 2 < 0 := fun z => c20 ((nI_ltI (a := 2) (b := 0) (by omega) (by omega)).mpr z)
                refine lv_iconst (v := nI 1) X.x X.b d_R_isUnder_23 (by decide) ?_
                refine lv_goto (tgt := 28) X.x X.b d_R_isUnder_24 (by decide) ?_
                exact q_zret X (by decide) hW ⟨(b2i_t (by rw [← c8]; decide)).symm, rfl⟩ d_R_isUnder_28
            · have c8 : ¬ 2 = b := fun z => c8 ((nI_eq (a := 2) (b := b) (by omega) (by omega)).mpr z)
              refine lv_iload_n X.x X.b d_R_isUnder_11 rfl (lv_at hl 0 rfl) ?_
              refine q_csi X (c_R_above_2 l E S) hW ok_R_above mw_1142 ⟨by decide, by decide⟩ (As := [.int (nI 2)]) rfl rfl (Nat.le_of_ble_eq_true rfl) (lv := [(2, .int (nI 2)), (0, .int (nI 4)), (1, .int (nI b))]) hl ⟨Nat.le_refl 0, Nat.le_refl 0⟩ d_R_isUnder_12 (fun H locs hW => ?_)
              refine lv_istore_n (lv' := [(2, .int (nI 0)), (0, .int (nI 4)), (1, .int (nI b))]) X.x X.b d_R_isUnder_15 rfl hl (by decide) rfl (fun ls hl => ?_)
              refine lv_goto (tgt := 2) X.x X.b d_R_isUnder_16 (by decide) ?_
              refine lv_iload_n X.x X.b d_R_isUnder_2 rfl (lv_at hl 0 rfl) ?_
              refine lv_if_lt (tgt := 19) X.x X.b d_R_isUnder_3 (by decide) (fun c3 => ?_) (fun c3 => ?_)
              · exact absurd c3 (by decide)
              · have c3 : ¬ 0 < 0 := fun z => c3 ((nI_ltI (a := 0) (b := 0) (by omega) (by omega)).mpr z)
                refine lv_iload_n X.x X.b d_R_isUnder_6 rfl (lv_at hl 0 rfl) ?_
                refine lv_iload_n X.x X.b d_R_isUnder_7 rfl (lv_at hl 2 rfl) ?_
                refine lv_icmp_eq (tgt := 19) X.x X.b d_R_isUnder_8 (by decide) (fun c8 => ?_) (fun c8 => ?_)
                · have c8 : 0 = b := (nI_eq (a := 0) (b := b) (by omega) (by omega)).mp c8
                  refine lv_iload_n X.x X.b d_R_isUnder_19 rfl (lv_at hl 0 rfl) ?_
                  refine lv_if_lt (tgt := 27) X.x X.b d_R_isUnder_20 (by decide) (fun c20 => ?_) (fun c20 => ?_)
                  · exact absurd c20 (by decide)
                  · have c20 : ¬ 0 < 0 := fun z => c20 ((nI_ltI (a := 0) (b := 0) (by omega) (by omega)).mpr z)
                    refine lv_iconst (v := nI 1) X.x X.b d_R_isUnder_23 (by decide) ?_
                    refine lv_goto (tgt := 28) X.x X.b d_R_isUnder_24 (by decide) ?_
                    exact q_zret X (by decide) hW ⟨(b2i_t (by rw [← c8]; decide)).symm, rfl⟩ d_R_isUnder_28
                · have c8 : ¬ 0 = b := fun z => c8 ((nI_eq (a := 0) (b := b) (by omega) (by omega)).mpr z)
                  refine lv_iload_n X.x X.b d_R_isUnder_11 rfl (lv_at hl 0 rfl) ?_
                  refine q_csi X (c_R_above_0 l E S) hW ok_R_above mw_1142 ⟨by decide, by decide⟩ (As := [.int (nI 0)]) rfl rfl (Nat.le_of_ble_eq_true rfl) (lv := [(2, .int (nI 0)), (0, .int (nI 4)), (1, .int (nI b))]) hl ⟨Nat.le_refl 0, Nat.le_refl 0⟩ d_R_isUnder_12 (fun H locs hW => ?_)
                  refine lv_istore_n (lv' := [(2, .int (-1)), (0, .int (nI 4)), (1, .int (nI b))]) X.x X.b d_R_isUnder_15 rfl hl (by decide) rfl (fun ls hl => ?_)
                  refine lv_goto (tgt := 2) X.x X.b d_R_isUnder_16 (by decide) ?_
                  refine lv_iload_n X.x X.b d_R_isUnder_2 rfl (lv_at hl 0 rfl) ?_
                  refine lv_if_lt (tgt := 19) X.x X.b d_R_isUnder_3 (by decide) (fun c3 => ?_) (fun c3 => ?_)
                  · refine lv_iload_n X.x X.b d_R_isUnder_19 rfl (lv_at hl 0 rfl) ?_
                    refine lv_if_lt (tgt := 27) X.x X.b d_R_isUnder_20 (by decide) (fun c20 => ?_) (fun c20 => ?_)
                    · refine lv_iconst (v := nI 0) X.x X.b d_R_isUnder_27 (by decide) ?_
                      exact q_zret X (by decide) hW ⟨(b2i_f (by simp only [und, anc, List.getD]; simp; omega)).symm, rfl⟩ d_R_isUnder_28
                    · exact absurd (by decide) c20
                  · exact absurd (by decide) c3
set_option maxHeartbeats 1000000 in
set_option maxRecDepth 20000 in
theorem c_R_isUnder_5 (l : Launch) (E : QE) (S : QM) (b : Nat) (hb : b ≤ 6) : qCI E l y_R_isUnder prog_7_method_104_code 3 .boolean 2 [.int (nI 5), .int (nI b)] S (b2i (und 5 b)) S := by
  refine qCI_of (by decide) (Nat.le_of_ble_eq_true rfl) (fun p e s m below meth c ls X hW hl => ?_)
  have hl : lv_has ls 3 [(0, .int (nI 5)), (1, .int (nI b))] := hl
  refine lv_iload_n X.x X.b d_R_isUnder_0 rfl (lv_at hl 0 rfl) ?_
  refine lv_istore_n (lv' := [(2, .int (nI 5)), (0, .int (nI 5)), (1, .int (nI b))]) X.x X.b d_R_isUnder_1 rfl hl (by decide) rfl (fun ls hl => ?_)
  refine lv_iload_n X.x X.b d_R_isUnder_2 rfl (lv_at hl 0 rfl) ?_
  refine lv_if_lt (tgt := 19) X.x X.b d_R_isUnder_3 (by decide) (fun c3 => ?_) (fun c3 => ?_)
  · exact absurd c3 (by decide)
  · have c3 : ¬ 5 < 0 := fun z => c3 ((nI_ltI (a := 5) (b := 0) (by omega) (by omega)).mpr z)
    refine lv_iload_n X.x X.b d_R_isUnder_6 rfl (lv_at hl 0 rfl) ?_
    refine lv_iload_n X.x X.b d_R_isUnder_7 rfl (lv_at hl 2 rfl) ?_
    refine lv_icmp_eq (tgt := 19) X.x X.b d_R_isUnder_8 (by decide) (fun c8 => ?_) (fun c8 => ?_)
    · have c8 : 5 = b := (nI_eq (a := 5) (b := b) (by omega) (by omega)).mp c8
      refine lv_iload_n X.x X.b d_R_isUnder_19 rfl (lv_at hl 0 rfl) ?_
      refine lv_if_lt (tgt := 27) X.x X.b d_R_isUnder_20 (by decide) (fun c20 => ?_) (fun c20 => ?_)
      · exact absurd c20 (by decide)
      · have c20 : ¬ 5 < 0 := fun z => c20 ((nI_ltI (a := 5) (b := 0) (by omega) (by omega)).mpr z)
        refine lv_iconst (v := nI 1) X.x X.b d_R_isUnder_23 (by decide) ?_
        refine lv_goto (tgt := 28) X.x X.b d_R_isUnder_24 (by decide) ?_
        exact q_zret X (by decide) hW ⟨(b2i_t (by rw [← c8]; decide)).symm, rfl⟩ d_R_isUnder_28
    · have c8 : ¬ 5 = b := fun z => c8 ((nI_eq (a := 5) (b := b) (by omega) (by omega)).mpr z)
      refine lv_iload_n X.x X.b d_R_isUnder_11 rfl (lv_at hl 0 rfl) ?_
      refine q_csi X (c_R_above_5 l E S) hW ok_R_above mw_1142 ⟨by decide, by decide⟩ (As := [.int (nI 5)]) rfl rfl (Nat.le_of_ble_eq_true rfl) (lv := [(2, .int (nI 5)), (0, .int (nI 5)), (1, .int (nI b))]) hl ⟨Nat.le_refl 0, Nat.le_refl 0⟩ d_R_isUnder_12 (fun H locs hW => ?_)
      refine lv_istore_n (lv' := [(2, .int (nI 0)), (0, .int (nI 5)), (1, .int (nI b))]) X.x X.b d_R_isUnder_15 rfl hl (by decide) rfl (fun ls hl => ?_)
      refine lv_goto (tgt := 2) X.x X.b d_R_isUnder_16 (by decide) ?_
      refine lv_iload_n X.x X.b d_R_isUnder_2 rfl (lv_at hl 0 rfl) ?_
      refine lv_if_lt (tgt := 19) X.x X.b d_R_isUnder_3 (by decide) (fun c3 => ?_) (fun c3 => ?_)
      · exact absurd c3 (by decide)
      · have c3 : ¬ 0 < 0 := fun z => c3 ((nI_ltI (a := 0) (b := 0) (by omega) (by omega)).mpr z)
        refine lv_iload_n X.x X.b d_R_isUnder_6 rfl (lv_at hl 0 rfl) ?_
        refine lv_iload_n X.x X.b d_R_isUnder_7 rfl (lv_at hl 2 rfl) ?_
        refine lv_icmp_eq (tgt := 19) X.x X.b d_R_isUnder_8 (by decide) (fun c8 => ?_) (fun c8 => ?_)
        · have c8 : 0 = b := (nI_eq (a := 0) (b := b) (by omega) (by omega)).mp c8
          refine lv_iload_n X.x X.b d_R_isUnder_19 rfl (lv_at hl 0 rfl) ?_
          refine lv_if_lt (tgt := 27) X.x X.b d_R_isUnder_20 (by decide) (fun c20 => ?_) (fun c20 => ?_)
          · exact absurd c20 (by decide)
          · have c20 : ¬ 0 < 0 := fun z => c20 ((nI_ltI (a := 0) (b := 0) (by omega) (by omega)).mpr z)
            refine lv_iconst (v := nI 1) X.x X.b d_R_isUnder_23 (by decide) ?_
            refine lv_goto (tgt := 28) X.x X.b d_R_isUnder_24 (by decide) ?_
            exact q_zret X (by decide) hW ⟨(b2i_t (by rw [← c8]; decide)).symm, rfl⟩ d_R_isUnder_28
        · have c8 : ¬ 0 = b := fun z => c8 ((nI_eq (a := 0) (b := b) (by omega) (by omega)).mpr z)
          refine lv_iload_n X.x X.b d_R_isUnder_11 rfl (lv_at hl 0 rfl) ?_
          refine q_csi X (c_R_above_0 l E S) hW ok_R_above mw_1142 ⟨by decide, by decide⟩ (As := [.int (nI 0)]) rfl rfl (Nat.le_of_ble_eq_true rfl) (lv := [(2, .int (nI 0)), (0, .int (nI 5)), (1, .int (nI b))]) hl ⟨Nat.le_refl 0, Nat.le_refl 0⟩ d_R_isUnder_12 (fun H locs hW => ?_)
          refine lv_istore_n (lv' := [(2, .int (-1)), (0, .int (nI 5)), (1, .int (nI b))]) X.x X.b d_R_isUnder_15 rfl hl (by decide) rfl (fun ls hl => ?_)
          refine lv_goto (tgt := 2) X.x X.b d_R_isUnder_16 (by decide) ?_
          refine lv_iload_n X.x X.b d_R_isUnder_2 rfl (lv_at hl 0 rfl) ?_
          refine lv_if_lt (tgt := 19) X.x X.b d_R_isUnder_3 (by decide) (fun c3 => ?_) (fun c3 => ?_)
          · refine lv_iload_n X.x X.b d_R_isUnder_19 rfl (lv_at hl 0 rfl) ?_
            refine lv_if_lt (tgt := 27) X.x X.b d_R_isUnder_20 (by decide) (fun c20 => ?_) (fun c20 => ?_)
            · refine lv_iconst (v := nI 0) X.x X.b d_R_isUnder_27 (by decide) ?_
              exact q_zret X (by decide) hW ⟨(b2i_f (by simp only [und, anc, List.getD]; simp; omega)).symm, rfl⟩ d_R_isUnder_28
            · exact absurd (by decide) c20
          · exact absurd (by decide) c3
set_option maxHeartbeats 1000000 in
set_option maxRecDepth 20000 in
theorem c_R_isUnder_6 (l : Launch) (E : QE) (S : QM) (b : Nat) (hb : b ≤ 6) : qCI E l y_R_isUnder prog_7_method_104_code 3 .boolean 2 [.int (nI 6), .int (nI b)] S (b2i (und 6 b)) S := by
  refine qCI_of (by decide) (Nat.le_of_ble_eq_true rfl) (fun p e s m below meth c ls X hW hl => ?_)
  have hl : lv_has ls 3 [(0, .int (nI 6)), (1, .int (nI b))] := hl
  refine lv_iload_n X.x X.b d_R_isUnder_0 rfl (lv_at hl 0 rfl) ?_
  refine lv_istore_n (lv' := [(2, .int (nI 6)), (0, .int (nI 6)), (1, .int (nI b))]) X.x X.b d_R_isUnder_1 rfl hl (by decide) rfl (fun ls hl => ?_)
  refine lv_iload_n X.x X.b d_R_isUnder_2 rfl (lv_at hl 0 rfl) ?_
  refine lv_if_lt (tgt := 19) X.x X.b d_R_isUnder_3 (by decide) (fun c3 => ?_) (fun c3 => ?_)
  · exact absurd c3 (by decide)
  · have c3 : ¬ 6 < 0 := fun z => c3 ((nI_ltI (a := 6) (b := 0) (by omega) (by omega)).mpr z)
    refine lv_iload_n X.x X.b d_R_isUnder_6 rfl (lv_at hl 0 rfl) ?_
    refine lv_iload_n X.x X.b d_R_isUnder_7 rfl (lv_at hl 2 rfl) ?_
    refine lv_icmp_eq (tgt := 19) X.x X.b d_R_isUnder_8 (by decide) (fun c8 => ?_) (fun c8 => ?_)
    · have c8 : 6 = b := (nI_eq (a := 6) (b := b) (by omega) (by omega)).mp c8
      refine lv_iload_n X.x X.b d_R_isUnder_19 rfl (lv_at hl 0 rfl) ?_
      refine lv_if_lt (tgt := 27) X.x X.b d_R_isUnder_20 (by decide) (fun c20 => ?_) (fun c20 => ?_)
      · exact absurd c20 (by decide)
      · have c20 : ¬ 6 < 0 := fun z => c20 ((nI_ltI (a := 6) (b := 0) (by omega) (by omega)).mpr z)
        refine lv_iconst (v := nI 1) X.x X.b d_R_isUnder_23 (by decide) ?_
        refine lv_goto (tgt := 28) X.x X.b d_R_isUnder_24 (by decide) ?_
        exact q_zret X (by decide) hW ⟨(b2i_t (by rw [← c8]; decide)).symm, rfl⟩ d_R_isUnder_28
    · have c8 : ¬ 6 = b := fun z => c8 ((nI_eq (a := 6) (b := b) (by omega) (by omega)).mpr z)
      refine lv_iload_n X.x X.b d_R_isUnder_11 rfl (lv_at hl 0 rfl) ?_
      refine q_csi X (c_R_above_6 l E S) hW ok_R_above mw_1142 ⟨by decide, by decide⟩ (As := [.int (nI 6)]) rfl rfl (Nat.le_of_ble_eq_true rfl) (lv := [(2, .int (nI 6)), (0, .int (nI 6)), (1, .int (nI b))]) hl ⟨Nat.le_refl 0, Nat.le_refl 0⟩ d_R_isUnder_12 (fun H locs hW => ?_)
      refine lv_istore_n (lv' := [(2, .int (nI 1)), (0, .int (nI 6)), (1, .int (nI b))]) X.x X.b d_R_isUnder_15 rfl hl (by decide) rfl (fun ls hl => ?_)
      refine lv_goto (tgt := 2) X.x X.b d_R_isUnder_16 (by decide) ?_
      refine lv_iload_n X.x X.b d_R_isUnder_2 rfl (lv_at hl 0 rfl) ?_
      refine lv_if_lt (tgt := 19) X.x X.b d_R_isUnder_3 (by decide) (fun c3 => ?_) (fun c3 => ?_)
      · exact absurd c3 (by decide)
      · have c3 : ¬ 1 < 0 := fun z => c3 ((nI_ltI (a := 1) (b := 0) (by omega) (by omega)).mpr z)
        refine lv_iload_n X.x X.b d_R_isUnder_6 rfl (lv_at hl 0 rfl) ?_
        refine lv_iload_n X.x X.b d_R_isUnder_7 rfl (lv_at hl 2 rfl) ?_
        refine lv_icmp_eq (tgt := 19) X.x X.b d_R_isUnder_8 (by decide) (fun c8 => ?_) (fun c8 => ?_)
        · have c8 : 1 = b := (nI_eq (a := 1) (b := b) (by omega) (by omega)).mp c8
          refine lv_iload_n X.x X.b d_R_isUnder_19 rfl (lv_at hl 0 rfl) ?_
          refine lv_if_lt (tgt := 27) X.x X.b d_R_isUnder_20 (by decide) (fun c20 => ?_) (fun c20 => ?_)
          · exact absurd c20 (by decide)
          · have c20 : ¬ 1 < 0 := fun z => c20 ((nI_ltI (a := 1) (b := 0) (by omega) (by omega)).mpr z)
            refine lv_iconst (v := nI 1) X.x X.b d_R_isUnder_23 (by decide) ?_
            refine lv_goto (tgt := 28) X.x X.b d_R_isUnder_24 (by decide) ?_
            exact q_zret X (by decide) hW ⟨(b2i_t (by rw [← c8]; decide)).symm, rfl⟩ d_R_isUnder_28
        · have c8 : ¬ 1 = b := fun z => c8 ((nI_eq (a := 1) (b := b) (by omega) (by omega)).mpr z)
          refine lv_iload_n X.x X.b d_R_isUnder_11 rfl (lv_at hl 0 rfl) ?_
          refine q_csi X (c_R_above_1 l E S) hW ok_R_above mw_1142 ⟨by decide, by decide⟩ (As := [.int (nI 1)]) rfl rfl (Nat.le_of_ble_eq_true rfl) (lv := [(2, .int (nI 1)), (0, .int (nI 6)), (1, .int (nI b))]) hl ⟨Nat.le_refl 0, Nat.le_refl 0⟩ d_R_isUnder_12 (fun H locs hW => ?_)
          refine lv_istore_n (lv' := [(2, .int (nI 0)), (0, .int (nI 6)), (1, .int (nI b))]) X.x X.b d_R_isUnder_15 rfl hl (by decide) rfl (fun ls hl => ?_)
          refine lv_goto (tgt := 2) X.x X.b d_R_isUnder_16 (by decide) ?_
          refine lv_iload_n X.x X.b d_R_isUnder_2 rfl (lv_at hl 0 rfl) ?_
          refine lv_if_lt (tgt := 19) X.x X.b d_R_isUnder_3 (by decide) (fun c3 => ?_) (fun c3 => ?_)
          · exact absurd c3 (by decide)
          · have c3 : ¬ 0 < 0 := fun z => c3 ((nI_ltI (a := 0) (b := 0) (by omega) (by omega)).mpr z)
            refine lv_iload_n X.x X.b d_R_isUnder_6 rfl (lv_at hl 0 rfl) ?_
            refine lv_iload_n X.x X.b d_R_isUnder_7 rfl (lv_at hl 2 rfl) ?_
            refine lv_icmp_eq (tgt := 19) X.x X.b d_R_isUnder_8 (by decide) (fun c8 => ?_) (fun c8 => ?_)
            · have c8 : 0 = b := (nI_eq (a := 0) (b := b) (by omega) (by omega)).mp c8
              refine lv_iload_n X.x X.b d_R_isUnder_19 rfl (lv_at hl 0 rfl) ?_
              refine lv_if_lt (tgt := 27) X.x X.b d_R_isUnder_20 (by decide) (fun c20 => ?_) (fun c20 => ?_)
              · exact absurd c20 (by decide)
              · have c20 : ¬ 0 < 0 := fun z => c20 ((nI_ltI (a := 0) (b := 0) (by omega) (by omega)).mpr z)
                refine lv_iconst (v := nI 1) X.x X.b d_R_isUnder_23 (by decide) ?_
                refine lv_goto (tgt := 28) X.x X.b d_R_isUnder_24 (by decide) ?_
                exact q_zret X (by decide) hW ⟨(b2i_t (by rw [← c8]; decide)).symm, rfl⟩ d_R_isUnder_28
            · have c8 : ¬ 0 = b := fun z => c8 ((nI_eq (a := 0) (b := b) (by omega) (by omega)).mpr z)
              refine lv_iload_n X.x X.b d_R_isUnder_11 rfl (lv_at hl 0 rfl) ?_
              refine q_csi X (c_R_above_0 l E S) hW ok_R_above mw_1142 ⟨by decide, by decide⟩ (As := [.int (nI 0)]) rfl rfl (Nat.le_of_ble_eq_true rfl) (lv := [(2, .int (nI 0)), (0, .int (nI 6)), (1, .int (nI b))]) hl ⟨Nat.le_refl 0, Nat.le_refl 0⟩ d_R_isUnder_12 (fun H locs hW => ?_)
              refine lv_istore_n (lv' := [(2, .int (-1)), (0, .int (nI 6)), (1, .int (nI b))]) X.x X.b d_R_isUnder_15 rfl hl (by decide) rfl (fun ls hl => ?_)
              refine lv_goto (tgt := 2) X.x X.b d_R_isUnder_16 (by decide) ?_
              refine lv_iload_n X.x X.b d_R_isUnder_2 rfl (lv_at hl 0 rfl) ?_
              refine lv_if_lt (tgt := 19) X.x X.b d_R_isUnder_3 (by decide) (fun c3 => ?_) (fun c3 => ?_)
              · refine lv_iload_n X.x X.b d_R_isUnder_19 rfl (lv_at hl 0 rfl) ?_
                refine lv_if_lt (tgt := 27) X.x X.b d_R_isUnder_20 (by decide) (fun c20 => ?_) (fun c20 => ?_)
                · refine lv_iconst (v := nI 0) X.x X.b d_R_isUnder_27 (by decide) ?_
                  exact q_zret X (by decide) hW ⟨(b2i_f (by simp only [und, anc, List.getD]; simp; omega)).symm, rfl⟩ d_R_isUnder_28
                · exact absurd (by decide) c20
              · exact absurd (by decide) c3
theorem c_R_isUnder (l : Launch) (E : QE) (S : QM) (j b : Nat) (hj : j ≤ 6) (hb : b ≤ 6) : qCI E l y_R_isUnder prog_7_method_104_code 3 .boolean 2 [.int (nI j), .int (nI b)] S (b2i (und j b)) S := by
  rcases (show j = 0 ∨ j = 1 ∨ j = 2 ∨ j = 3 ∨ j = 4 ∨ j = 5 ∨ j = 6 by omega) with rfl | rfl | rfl | rfl | rfl | rfl | rfl
  · exact c_R_isUnder_0 l E S b hb
  · exact c_R_isUnder_1 l E S b hb
  · exact c_R_isUnder_2 l E S b hb
  · exact c_R_isUnder_3 l E S b hb
  · exact c_R_isUnder_4 l E S b hb
  · exact c_R_isUnder_5 l E S b hb
  · exact c_R_isUnder_6 l E S b hb
set_option maxHeartbeats 1000000 in
set_option maxRecDepth 20000 in
theorem c_R_as_g (l : Launch) (E : QE) (S : QM) (ν : Nat → Int32) (hν : S 16 = ν) (hwf : WF ν) (i k2 q : Nat) (hi : i ≤ 9) (hk : k2 ≤ 6) (hq : q < nT ν) (hs : ν (10 + i) = nI q) (kd : Nat) (hkd : kd ≤ 6) (hkq : ν (20 + 3 * q) = nI kd) (hu : und kd k2) : qCI E l y_R_as prog_7_method_97_code 4 .int 3 [.ref (eA E 70), .int (nI i), .int (nI k2)] S (nI q) S := by
  refine qCI_of (by decide) (Nat.le_of_ble_eq_true rfl) (fun p e s m below meth c ls X hW hl => ?_)
  have hl : lv_has ls 4 [(0, .ref (eA E 70)), (1, .int (nI i)), (2, .int (nI k2))] := hl
  have htl := hwf.tl
  have hwl := hwf.wl
  have hdl := hwf.dl
  refine lv_iload_n X.x X.b d_R_as_0 rfl (lv_at hl 1 rfl) ?_
  refine q_csi X (c_R_isSpot l E S (nI i)) hW ok_R_isSpot mw_1132 ⟨by decide, by decide⟩ (As := [.int (nI i)]) rfl rfl (Nat.le_of_ble_eq_true rfl) (lv := [(0, .ref (eA E 70)), (1, .int (nI i)), (2, .int (nI k2))]) hl ⟨Nat.le_refl 0, Nat.le_refl 0⟩ d_R_as_1 (fun H locs hW => ?_)
  refine lv_if_eq (tgt := 14) X.x X.b d_R_as_4 (by decide) (fun c4 => ?_) (fun c4 => ?_)
  · have c4 := b2i_e c4
    have c4 := mt (inR_i (by omega) (by decide)).mpr c4
    omega
  · have c4 := b2i_n c4
    have c4 := (inR_i (by omega) (by decide)).mp c4
    refine lv_iload_n X.x X.b d_R_as_7 rfl (lv_at hl 2 rfl) ?_
    refine q_csi X (c_R_isKind l E S (nI k2)) hW ok_R_isKind mw_780 ⟨by decide, by decide⟩ (As := [.int (nI k2)]) rfl rfl (Nat.le_of_ble_eq_true rfl) (lv := [(0, .ref (eA E 70)), (1, .int (nI i)), (2, .int (nI k2))]) hl ⟨Nat.le_refl 0, Nat.le_refl 0⟩ d_R_as_8 (fun H locs hW => ?_)
    refine lv_if_ne (tgt := 21) X.x X.b d_R_as_11 (by decide) (fun c11 => ?_) (fun c11 => ?_)
    · have c11 := b2i_n c11
      have c11 := (inR_i (by omega) (by decide)).mp c11
      refine lv_aload_n X.x X.b d_R_as_21 rfl (lv_at hl 0 rfl) ?_
      refine q_getr X hW qj4 rfl _ ds_R 0 (by decide) mw_686 rfl (c1 := 71) rfl d_R_as_22 ?_
      refine lv_bipush (v := nI 10) X.x X.b d_R_as_25 (by decide) ?_
      refine lv_iload_n X.x X.b d_R_as_27 rfl (lv_at hl 1 rfl) ?_
      refine lv_iadd X.x X.b d_R_as_28 ?_
      rw [nI_add]
      refine g_ald X hW ds_71 (q_in (by omega) (by decide)) (p0 := 10 + i) (q_tn (by omega) (by omega)) (v := ν (10 + i)) (by rw [hν]) d_R_as_29 ?_
      rw [hs]
      refine lv_istore_n (lv' := [(3, .int (nI q)), (0, .ref (eA E 70)), (1, .int (nI i)), (2, .int (nI k2))]) X.x X.b d_R_as_30 rfl hl (by decide) rfl (fun ls hl => ?_)
      refine lv_iload_n X.x X.b d_R_as_31 rfl (lv_at hl 0 rfl) ?_
      refine lv_if_ge (tgt := 42) X.x X.b d_R_as_32 (by decide) (fun c32 => ?_) (fun c32 => ?_)
      · have c32 : 0 ≤ q := (nI_leI (a := 0) (b := q) (by omega) (by omega)).mp c32
        refine lv_aload_n X.x X.b d_R_as_42 rfl (lv_at hl 1 rfl) ?_
        refine lv_iload_n X.x X.b d_R_as_43 rfl (lv_at hl 0 rfl) ?_
        refine lv_iconst (v := nI 0) X.x X.b d_R_as_44 (by decide) ?_
        refine q_cvi X (c_R_thingIs_z l E S ν (by rw [hν]) q (by omega)) hW (q_recv X hW ds_R rfl) ok_R_thingIs mw_821 ⟨by decide, by decide⟩ (As := [.int (nI q), .int (nI 0)]) rfl rfl (Nat.le_of_ble_eq_true rfl) (lv := [(3, .int (nI q)), (0, .ref (eA E 70)), (1, .int (nI i)), (2, .int (nI k2))]) hl ⟨Nat.le_refl 0, Nat.le_refl 0⟩ d_R_as_45 (fun H locs hW => ?_)
        rw [hkq]
        refine lv_iload_n X.x X.b d_R_as_48 rfl (lv_at hl 3 rfl) ?_
        refine q_csi X (c_R_isUnder l E S kd k2 (by omega) (by omega)) hW ok_R_isUnder mw_1139 ⟨by decide, by decide⟩ (As := [.int (nI kd), .int (nI k2)]) rfl rfl (Nat.le_of_ble_eq_true rfl) (lv := [(3, .int (nI q)), (0, .ref (eA E 70)), (1, .int (nI i)), (2, .int (nI k2))]) hl ⟨Nat.le_refl 0, Nat.le_refl 0⟩ d_R_as_49 (fun H locs hW => ?_)
        refine lv_if_eq (tgt := 59) X.x X.b d_R_as_52 (by decide) (fun c52 => ?_) (fun c52 => ?_)
        · have c52 := b2i_e c52
          exact absurd hu c52
        · have c52 := b2i_n c52
          refine lv_iload_n X.x X.b d_R_as_55 rfl (lv_at hl 0 rfl) ?_
          refine lv_goto (tgt := 66) X.x X.b d_R_as_56 (by decide) ?_
          exact q_zret X rfl hW ⟨rfl, rfl⟩ d_R_as_66
      · have c32 : ¬ 0 ≤ q := fun z => c32 ((nI_leI (a := 0) (b := q) (by omega) (by omega)).mpr z)
        omega
    · have c11 := b2i_e c11
      have c11 := mt (inR_i (by omega) (by decide)).mpr c11
      omega
set_option maxHeartbeats 1000000 in
set_option maxRecDepth 20000 in
theorem c_R_as_k (l : Launch) (E : QE) (S : QM) (ν : Nat → Int32) (hν : S 16 = ν) (hwf : WF ν) (ψ : Nat → Int32) (hψ : S 19 = ψ) (i k2 q : Nat) (hi : i ≤ 9) (hk : k2 ≤ 6) (hq : q < nT ν) (hs : ν (10 + i) = nI q) (kd : Nat) (hkd : kd ≤ 6) (hkq : ν (20 + 3 * q) = nI kd) (hu : ¬ und kd k2) : qCI E l y_R_as prog_7_method_97_code 4 .int 3 [.ref (eA E 70), .int (nI i), .int (nI k2)] S (-1000003) (qr S 19 (fnR ψ 2)) := by
  refine qCI_of (by decide) (Nat.le_of_ble_eq_true rfl) (fun p e s m below meth c ls X hW hl => ?_)
  have hl : lv_has ls 4 [(0, .ref (eA E 70)), (1, .int (nI i)), (2, .int (nI k2))] := hl
  have htl := hwf.tl
  have hwl := hwf.wl
  have hdl := hwf.dl
  refine lv_iload_n X.x X.b d_R_as_0 rfl (lv_at hl 1 rfl) ?_
  refine q_csi X (c_R_isSpot l E S (nI i)) hW ok_R_isSpot mw_1132 ⟨by decide, by decide⟩ (As := [.int (nI i)]) rfl rfl (Nat.le_of_ble_eq_true rfl) (lv := [(0, .ref (eA E 70)), (1, .int (nI i)), (2, .int (nI k2))]) hl ⟨Nat.le_refl 0, Nat.le_refl 0⟩ d_R_as_1 (fun H locs hW => ?_)
  refine lv_if_eq (tgt := 14) X.x X.b d_R_as_4 (by decide) (fun c4 => ?_) (fun c4 => ?_)
  · have c4 := b2i_e c4
    have c4 := mt (inR_i (by omega) (by decide)).mpr c4
    omega
  · have c4 := b2i_n c4
    have c4 := (inR_i (by omega) (by decide)).mp c4
    refine lv_iload_n X.x X.b d_R_as_7 rfl (lv_at hl 2 rfl) ?_
    refine q_csi X (c_R_isKind l E S (nI k2)) hW ok_R_isKind mw_780 ⟨by decide, by decide⟩ (As := [.int (nI k2)]) rfl rfl (Nat.le_of_ble_eq_true rfl) (lv := [(0, .ref (eA E 70)), (1, .int (nI i)), (2, .int (nI k2))]) hl ⟨Nat.le_refl 0, Nat.le_refl 0⟩ d_R_as_8 (fun H locs hW => ?_)
    refine lv_if_ne (tgt := 21) X.x X.b d_R_as_11 (by decide) (fun c11 => ?_) (fun c11 => ?_)
    · have c11 := b2i_n c11
      have c11 := (inR_i (by omega) (by decide)).mp c11
      refine lv_aload_n X.x X.b d_R_as_21 rfl (lv_at hl 0 rfl) ?_
      refine q_getr X hW qj4 rfl _ ds_R 0 (by decide) mw_686 rfl (c1 := 71) rfl d_R_as_22 ?_
      refine lv_bipush (v := nI 10) X.x X.b d_R_as_25 (by decide) ?_
      refine lv_iload_n X.x X.b d_R_as_27 rfl (lv_at hl 1 rfl) ?_
      refine lv_iadd X.x X.b d_R_as_28 ?_
      rw [nI_add]
      refine g_ald X hW ds_71 (q_in (by omega) (by decide)) (p0 := 10 + i) (q_tn (by omega) (by omega)) (v := ν (10 + i)) (by rw [hν]) d_R_as_29 ?_
      rw [hs]
      refine lv_istore_n (lv' := [(3, .int (nI q)), (0, .ref (eA E 70)), (1, .int (nI i)), (2, .int (nI k2))]) X.x X.b d_R_as_30 rfl hl (by decide) rfl (fun ls hl => ?_)
      refine lv_iload_n X.x X.b d_R_as_31 rfl (lv_at hl 0 rfl) ?_
      refine lv_if_ge (tgt := 42) X.x X.b d_R_as_32 (by decide) (fun c32 => ?_) (fun c32 => ?_)
      · have c32 : 0 ≤ q := (nI_leI (a := 0) (b := q) (by omega) (by omega)).mp c32
        refine lv_aload_n X.x X.b d_R_as_42 rfl (lv_at hl 1 rfl) ?_
        refine lv_iload_n X.x X.b d_R_as_43 rfl (lv_at hl 0 rfl) ?_
        refine lv_iconst (v := nI 0) X.x X.b d_R_as_44 (by decide) ?_
        refine q_cvi X (c_R_thingIs_z l E S ν (by rw [hν]) q (by omega)) hW (q_recv X hW ds_R rfl) ok_R_thingIs mw_821 ⟨by decide, by decide⟩ (As := [.int (nI q), .int (nI 0)]) rfl rfl (Nat.le_of_ble_eq_true rfl) (lv := [(3, .int (nI q)), (0, .ref (eA E 70)), (1, .int (nI i)), (2, .int (nI k2))]) hl ⟨Nat.le_refl 0, Nat.le_refl 0⟩ d_R_as_45 (fun H locs hW => ?_)
        rw [hkq]
        refine lv_iload_n X.x X.b d_R_as_48 rfl (lv_at hl 3 rfl) ?_
        refine q_csi X (c_R_isUnder l E S kd k2 (by omega) (by omega)) hW ok_R_isUnder mw_1139 ⟨by decide, by decide⟩ (As := [.int (nI kd), .int (nI k2)]) rfl rfl (Nat.le_of_ble_eq_true rfl) (lv := [(3, .int (nI q)), (0, .ref (eA E 70)), (1, .int (nI i)), (2, .int (nI k2))]) hl ⟨Nat.le_refl 0, Nat.le_refl 0⟩ d_R_as_49 (fun H locs hW => ?_)
        refine lv_if_eq (tgt := 59) X.x X.b d_R_as_52 (by decide) (fun c52 => ?_) (fun c52 => ?_)
        · have c52 := b2i_e c52
          refine lv_aload_n X.x X.b d_R_as_59 rfl (lv_at hl 1 rfl) ?_
          refine lv_ldcw (v := (-1000003)) X.x X.b X.ow (X.ts _ mw_1145) d_R_as_60 ?_
          refine q_cvi X (c_R_finding_2 l E S ψ (by rw [hψ])) hW (q_recv X hW ds_R rfl) ok_R_finding mw_768 ⟨by decide, by decide⟩ (As := [.int (-1000003)]) rfl rfl (Nat.le_of_ble_eq_true rfl) (lv := [(3, .int (nI q)), (0, .ref (eA E 70)), (1, .int (nI i)), (2, .int (nI k2))]) hl ⟨Nat.le_refl 0, Nat.le_refl 0⟩ d_R_as_63 (fun H locs hW => ?_)
          have hW : qWH E (qr S 19 (fnR ψ 2)) s H locs := hW
          exact q_zret X rfl hW ⟨rfl, rfl⟩ d_R_as_66
        · have c52 := b2i_n c52
          exact absurd c52 hu
      · have c32 : ¬ 0 ≤ q := fun z => c32 ((nI_leI (a := 0) (b := q) (by omega) (by omega)).mpr z)
        omega
    · have c11 := b2i_e c11
      have c11 := mt (inR_i (by omega) (by decide)).mpr c11
      omega
set_option maxHeartbeats 1000000 in
set_option maxRecDepth 20000 in
theorem c_R_as_m (l : Launch) (E : QE) (S : QM) (ν : Nat → Int32) (hν : S 16 = ν) (hwf : WF ν) (ψ : Nat → Int32) (hψ : S 19 = ψ) (i k2 : Nat) (hi : i ≤ 9) (hk : k2 ≤ 6) (hs : ν (10 + i) = -1) : qCI E l y_R_as prog_7_method_97_code 4 .int 3 [.ref (eA E 70), .int (nI i), .int (nI k2)] S (-1000006) (qr S 19 (fnR ψ 5)) := by
  refine qCI_of (by decide) (Nat.le_of_ble_eq_true rfl) (fun p e s m below meth c ls X hW hl => ?_)
  have hl : lv_has ls 4 [(0, .ref (eA E 70)), (1, .int (nI i)), (2, .int (nI k2))] := hl
  have htl := hwf.tl
  have hwl := hwf.wl
  have hdl := hwf.dl
  refine lv_iload_n X.x X.b d_R_as_0 rfl (lv_at hl 1 rfl) ?_
  refine q_csi X (c_R_isSpot l E S (nI i)) hW ok_R_isSpot mw_1132 ⟨by decide, by decide⟩ (As := [.int (nI i)]) rfl rfl (Nat.le_of_ble_eq_true rfl) (lv := [(0, .ref (eA E 70)), (1, .int (nI i)), (2, .int (nI k2))]) hl ⟨Nat.le_refl 0, Nat.le_refl 0⟩ d_R_as_1 (fun H locs hW => ?_)
  refine lv_if_eq (tgt := 14) X.x X.b d_R_as_4 (by decide) (fun c4 => ?_) (fun c4 => ?_)
  · have c4 := b2i_e c4
    have c4 := mt (inR_i (by omega) (by decide)).mpr c4
    omega
  · have c4 := b2i_n c4
    have c4 := (inR_i (by omega) (by decide)).mp c4
    refine lv_iload_n X.x X.b d_R_as_7 rfl (lv_at hl 2 rfl) ?_
    refine q_csi X (c_R_isKind l E S (nI k2)) hW ok_R_isKind mw_780 ⟨by decide, by decide⟩ (As := [.int (nI k2)]) rfl rfl (Nat.le_of_ble_eq_true rfl) (lv := [(0, .ref (eA E 70)), (1, .int (nI i)), (2, .int (nI k2))]) hl ⟨Nat.le_refl 0, Nat.le_refl 0⟩ d_R_as_8 (fun H locs hW => ?_)
    refine lv_if_ne (tgt := 21) X.x X.b d_R_as_11 (by decide) (fun c11 => ?_) (fun c11 => ?_)
    · have c11 := b2i_n c11
      have c11 := (inR_i (by omega) (by decide)).mp c11
      refine lv_aload_n X.x X.b d_R_as_21 rfl (lv_at hl 0 rfl) ?_
      refine q_getr X hW qj4 rfl _ ds_R 0 (by decide) mw_686 rfl (c1 := 71) rfl d_R_as_22 ?_
      refine lv_bipush (v := nI 10) X.x X.b d_R_as_25 (by decide) ?_
      refine lv_iload_n X.x X.b d_R_as_27 rfl (lv_at hl 1 rfl) ?_
      refine lv_iadd X.x X.b d_R_as_28 ?_
      rw [nI_add]
      refine g_ald X hW ds_71 (q_in (by omega) (by decide)) (p0 := 10 + i) (q_tn (by omega) (by omega)) (v := ν (10 + i)) (by rw [hν]) d_R_as_29 ?_
      rw [hs]
      refine lv_istore_n (lv' := [(3, .int (-1)), (0, .ref (eA E 70)), (1, .int (nI i)), (2, .int (nI k2))]) X.x X.b d_R_as_30 rfl hl (by decide) rfl (fun ls hl => ?_)
      refine lv_iload_n X.x X.b d_R_as_31 rfl (lv_at hl 0 rfl) ?_
      refine lv_if_ge (tgt := 42) X.x X.b d_R_as_32 (by decide) (fun c32 => ?_) (fun c32 => ?_)
      · exact absurd c32 (by decide)
      · refine lv_aload_n X.x X.b d_R_as_35 rfl (lv_at hl 1 rfl) ?_
        refine lv_ldc (v := (-1000006)) X.x X.b X.ow (X.ts _ mw_1036) d_R_as_36 ?_
        refine q_cvi X (c_R_finding_5 l E S ψ (by rw [hψ])) hW (q_recv X hW ds_R rfl) ok_R_finding mw_768 ⟨by decide, by decide⟩ (As := [.int (-1000006)]) rfl rfl (Nat.le_of_ble_eq_true rfl) (lv := [(3, .int (-1)), (0, .ref (eA E 70)), (1, .int (nI i)), (2, .int (nI k2))]) hl ⟨Nat.le_refl 0, Nat.le_refl 0⟩ d_R_as_38 (fun H locs hW => ?_)
        have hW : qWH E (qr S 19 (fnR ψ 5)) s H locs := hW
        exact q_zret X rfl hW ⟨rfl, rfl⟩ d_R_as_41
    · have c11 := b2i_e c11
      have c11 := mt (inR_i (by omega) (by decide)).mpr c11
      omega
set_option maxHeartbeats 1000000 in
set_option maxRecDepth 20000 in
theorem c_R_as_b (l : Launch) (E : QE) (S : QM) (ν : Nat → Int32) (hν : S 16 = ν) (hwf : WF ν) (ψ : Nat → Int32) (hψ : S 19 = ψ) (x y : Int32) (h : ¬ (inR 0 9 x ∧ inR 0 6 y)) : qCI E l y_R_as prog_7_method_97_code 4 .int 3 [.ref (eA E 70), .int x, .int y] S (-1000001) (qr S 19 (fnR ψ 0)) := by
  refine qCI_of (by decide) (Nat.le_of_ble_eq_true rfl) (fun p e s m below meth c ls X hW hl => ?_)
  have hl : lv_has ls 4 [(0, .ref (eA E 70)), (1, .int x), (2, .int y)] := hl
  have htl := hwf.tl
  have hwl := hwf.wl
  have hdl := hwf.dl
  refine lv_iload_n X.x X.b d_R_as_0 rfl (lv_at hl 1 rfl) ?_
  refine q_csi X (c_R_isSpot l E S x) hW ok_R_isSpot mw_1132 ⟨by decide, by decide⟩ (As := [.int x]) rfl rfl (Nat.le_of_ble_eq_true rfl) (lv := [(0, .ref (eA E 70)), (1, .int x), (2, .int y)]) hl ⟨Nat.le_refl 0, Nat.le_refl 0⟩ d_R_as_1 (fun H locs hW => ?_)
  refine lv_if_eq (tgt := 14) X.x X.b d_R_as_4 (by decide) (fun c4 => ?_) (fun c4 => ?_)
  · have c4 := b2i_e c4
    refine lv_aload_n X.x X.b d_R_as_14 rfl (lv_at hl 0 rfl) ?_
    refine lv_ldc (v := (-1000001)) X.x X.b X.ow (X.ts _ mw_767) d_R_as_15 ?_
    refine q_cvi X (c_R_finding_0 l E S ψ (by rw [hψ])) hW (q_recv X hW ds_R rfl) ok_R_finding mw_768 ⟨by decide, by decide⟩ (As := [.int (-1000001)]) rfl rfl (Nat.le_of_ble_eq_true rfl) (lv := [(0, .ref (eA E 70)), (1, .int x), (2, .int y)]) hl ⟨Nat.le_refl 0, Nat.le_refl 0⟩ d_R_as_17 (fun H locs hW => ?_)
    have hW : qWH E (qr S 19 (fnR ψ 0)) s H locs := hW
    exact q_zret X rfl hW ⟨rfl, rfl⟩ d_R_as_20
  · have c4 := b2i_n c4
    refine lv_iload_n X.x X.b d_R_as_7 rfl (lv_at hl 2 rfl) ?_
    refine q_csi X (c_R_isKind l E S y) hW ok_R_isKind mw_780 ⟨by decide, by decide⟩ (As := [.int y]) rfl rfl (Nat.le_of_ble_eq_true rfl) (lv := [(0, .ref (eA E 70)), (1, .int x), (2, .int y)]) hl ⟨Nat.le_refl 0, Nat.le_refl 0⟩ d_R_as_8 (fun H locs hW => ?_)
    refine lv_if_ne (tgt := 21) X.x X.b d_R_as_11 (by decide) (fun c11 => ?_) (fun c11 => ?_)
    · have c11 := b2i_n c11
      exact absurd ⟨c4, c11⟩ h
    · have c11 := b2i_e c11
      refine lv_aload_n X.x X.b d_R_as_14 rfl (lv_at hl 0 rfl) ?_
      refine lv_ldc (v := (-1000001)) X.x X.b X.ow (X.ts _ mw_767) d_R_as_15 ?_
      refine q_cvi X (c_R_finding_0 l E S ψ (by rw [hψ])) hW (q_recv X hW ds_R rfl) ok_R_finding mw_768 ⟨by decide, by decide⟩ (As := [.int (-1000001)]) rfl rfl (Nat.le_of_ble_eq_true rfl) (lv := [(0, .ref (eA E 70)), (1, .int x), (2, .int y)]) hl ⟨Nat.le_refl 0, Nat.le_refl 0⟩ d_R_as_17 (fun H locs hW => ?_)
      have hW : qWH E (qr S 19 (fnR ψ 0)) s H locs := hW
      exact q_zret X rfl hW ⟨rfl, rfl⟩ d_R_as_20
set_option maxHeartbeats 1000000 in
set_option maxRecDepth 20000 in
theorem c_R_cutTo (l : Launch) (E : QE) (S : QM) (v b : Int32) : qCI E l y_R_cutTo prog_7_method_99_code 2 .int 1 [.int v, .int b] S (cutS b v) S := by
  refine qCI_of (by decide) (Nat.le_of_ble_eq_true rfl) (fun p e s m below meth c ls X hW hl => ?_)
  have hl : lv_has ls 2 [(0, .int v), (1, .int b)] := hl
  refine lv_iload_n X.x X.b d_R_cutTo_0 rfl (lv_at hl 1 rfl) ?_
  refine lv_bipush (v := nI 8) X.x X.b d_R_cutTo_1 (by decide) ?_
  refine lv_icmp_ne (tgt := 11) X.x X.b d_R_cutTo_3 (by decide) (fun c3 => ?_) (fun c3 => ?_)
  · refine lv_iload_n X.x X.b d_R_cutTo_11 rfl (lv_at hl 1 rfl) ?_
    refine lv_bipush (v := nI 16) X.x X.b d_R_cutTo_12 (by decide) ?_
    refine lv_icmp_ne (tgt := 22) X.x X.b d_R_cutTo_14 (by decide) (fun c14 => ?_) (fun c14 => ?_)
    · refine lv_iload_n X.x X.b d_R_cutTo_22 rfl (lv_at hl 0 rfl) ?_
      exact q_zret X rfl hW ⟨by unfold cutS; rw [if_neg c3, if_neg c14], rfl⟩ d_R_cutTo_23
    · refine lv_iload_n X.x X.b d_R_cutTo_17 rfl (lv_at hl 0 rfl) ?_
      refine lv_i2s (v := v.toInt16.toInt32) X.x X.b d_R_cutTo_18 rfl ?_
      refine lv_goto (tgt := 23) X.x X.b d_R_cutTo_19 (by decide) ?_
      exact q_zret X rfl hW ⟨by unfold cutS; rw [if_neg c3, if_pos c14], rfl⟩ d_R_cutTo_23
  · refine lv_iload_n X.x X.b d_R_cutTo_6 rfl (lv_at hl 0 rfl) ?_
    refine lv_i2b (v := v.toInt8.toInt32) X.x X.b d_R_cutTo_7 rfl ?_
    refine lv_goto (tgt := 23) X.x X.b d_R_cutTo_8 (by decide) ?_
    exact q_zret X rfl hW ⟨by unfold cutS; rw [if_pos c3], rfl⟩ d_R_cutTo_23
set_option maxHeartbeats 1000000 in
set_option maxRecDepth 20000 in
theorem c_R_sheet_g (l : Launch) (E : QE) (S : QM) (ω ζ η ψ : Nat → Int32) (hω : S 22 = ω) (hζ : S 23 = ζ) (hη : S 24 = η) (hψ : S 19 = ψ) (j : Nat) (hj : j < 4) (b : Int32) (n : Nat) (hn : n ≤ 40) (hk : b = nI 8 ∨ b = nI 16 ∨ b = nI 32) (hb : ¬ b = 0) : qCI E l y_R_sheet prog_7_method_100_code 5 .int 3 [.ref (eA E 70), .int (nI j), .int b, .int (nI n)] S (nI n) (qr (qr (qr S 22 (upd ω j b)) 23 (upd ζ j (nI n))) 24 (zr40 j η 40)) := by
  refine qCI_of (by decide) (Nat.le_of_ble_eq_true rfl) (fun p e s m below meth c ls X hW hl => ?_)
  have hl : lv_has ls 5 [(0, .ref (eA E 70)), (1, .int (nI j)), (2, .int b), (3, .int (nI n))] := hl
  refine lv_iload_n X.x X.b d_R_sheet_0 rfl (lv_at hl 1 rfl) ?_
  refine q_csi X (c_R_isSheet l E S (nI j)) hW ok_R_isSheet mw_1033 ⟨by decide, by decide⟩ (As := [.int (nI j)]) rfl rfl (Nat.le_of_ble_eq_true rfl) (lv := [(0, .ref (eA E 70)), (1, .int (nI j)), (2, .int b), (3, .int (nI n))]) hl ⟨Nat.le_refl 0, Nat.le_refl 0⟩ d_R_sheet_1 (fun H locs hW => ?_)
  refine lv_if_eq (tgt := 29) X.x X.b d_R_sheet_4 (by decide) (fun c4 => ?_) (fun c4 => ?_)
  · have c4 := b2i_e c4
    have c4 := mt (inR_i (by omega) (by decide)).mpr c4
    omega
  · have c4 := b2i_n c4
    have c4 := (inR_i (by omega) (by decide)).mp c4
    refine lv_iload_n X.x X.b d_R_sheet_7 rfl (lv_at hl 2 rfl) ?_
    refine lv_if_eq (tgt := 36) X.x X.b d_R_sheet_8 (by decide) (fun c8 => ?_) (fun c8 => ?_)
    · exact absurd c8 hb
    · refine lv_iload_n X.x X.b d_R_sheet_11 rfl (lv_at hl 2 rfl) ?_
      refine lv_bipush (v := nI 8) X.x X.b d_R_sheet_12 (by decide) ?_
      refine lv_icmp_eq (tgt := 36) X.x X.b d_R_sheet_14 (by decide) (fun c14 => ?_) (fun c14 => ?_)
      · refine lv_iload_n X.x X.b d_R_sheet_36 rfl (lv_at hl 3 rfl) ?_
        refine lv_if_ge (tgt := 48) X.x X.b d_R_sheet_37 (by decide) (fun c37 => ?_) (fun c37 => ?_)
        · have c37 : 0 ≤ n := (nI_leI (a := 0) (b := n) (by omega) (by omega)).mp c37
          refine lv_iload_n X.x X.b d_R_sheet_48 rfl (lv_at hl 3 rfl) ?_
          refine lv_bipush (v := nI 40) X.x X.b d_R_sheet_49 (by decide) ?_
          refine lv_icmp_le (tgt := 61) X.x X.b d_R_sheet_51 (by decide) (fun c51 => ?_) (fun c51 => ?_)
          · have c51 : n ≤ 40 := (nI_leI (a := n) (b := 40) (by omega) (by omega)).mp c51
            refine lv_aload_n X.x X.b d_R_sheet_61 rfl (lv_at hl 0 rfl) ?_
            refine q_getr X hW qj4 rfl _ ds_R 17 (by decide) mw_703 rfl (c1 := 78) rfl d_R_sheet_62 ?_
            refine lv_iload_n X.x X.b d_R_sheet_65 rfl (lv_at hl 1 rfl) ?_
            refine lv_iload_n X.x X.b d_R_sheet_66 rfl (lv_at hl 2 rfl) ?_
            refine g_ast X hW ds_78 (q_in (by omega) (by decide)) (p0 := j) (q_tn (by omega) (by omega)) (ρ := ω) (by rw [hω]) d_R_sheet_67 (fun H locs hW => ?_)
            obtain ⟨r67, er67⟩ : ∃ z, z = upd ω j b := ⟨_, rfl⟩
            rw [← er67] at hW
            refine lv_aload_n X.x X.b d_R_sheet_68 rfl (lv_at hl 0 rfl) ?_
            refine q_getr X hW qj4 rfl _ ds_R 18 (by decide) mw_704 rfl (c1 := 79) rfl d_R_sheet_69 ?_
            refine lv_iload_n X.x X.b d_R_sheet_72 rfl (lv_at hl 1 rfl) ?_
            refine lv_iload_n X.x X.b d_R_sheet_73 rfl (lv_at hl 2 rfl) ?_
            refine lv_if_ne (tgt := 81) X.x X.b d_R_sheet_74 (by decide) (fun c74 => ?_) (fun c74 => ?_)
            · refine lv_iload_n X.x X.b d_R_sheet_81 rfl (lv_at hl 3 rfl) ?_
              refine g_ast X hW ds_79 (q_in (by omega) (by decide)) (p0 := j) (q_tn (by omega) (by omega)) (ρ := ζ) (by rw [qr_ne (by omega), hζ]) d_R_sheet_82 (fun H locs hW => ?_)
              obtain ⟨r82, er82⟩ : ∃ z, z = upd ζ j (nI n) := ⟨_, rfl⟩
              rw [← er82] at hW
              refine lv_iconst (v := nI 0) X.x X.b d_R_sheet_83 (by decide) ?_
              refine lv_istore (lv' := [(4, .int (nI 0)), (0, .ref (eA E 70)), (1, .int (nI j)), (2, .int b), (3, .int (nI n))]) X.x X.b d_R_sheet_84 hl (by decide) rfl (fun ls hl => ?_)
              have hW : qWH E (qr (qr (qr S 22 r67) 23 r82) 24 η) s H locs := by rw [qr_selfE (by rw [qr_ne (by omega), qr_ne (by omega), hη])]; exact hW
              have loop86 : ∀ (fu86 : Nat) (i : Nat) (μ : Nat → Int32), i ≤ 40 → μ = zr40 j η i → 40 - i < fu86 → ∀ (H : Heap) (locs : List Loc) (ls : Array Slot), qWH E (qr (qr (qr S 22 r67) 23 r82) 24 μ) s H locs → lv_has ls 5 [(4, .int (nI i)), (0, .ref (eA E 70)), (1, .int (nI j)), (2, .int b), (3, .int (nI n))] → W p l e (qRm 3) s m ([.ref (eA E 70), .int (nI j), .int b, .int (nI n)] : List Value).toArray below meth c H locs 0 0 (MQ below (qQi E (nI n) (qr (qr (qr S 22 (upd ω j b)) 23 (upd ζ j (nI n))) 24 (zr40 j η 40)) s.heap.size) ([.ref (eA E 70), .int (nI j), .int b, .int (nI n)] : List Value).toArray s 0 0 (qAA E s.heap.size)) (F0 m 86 ls []) := by
                intro fu86
                induction fu86 with
                | zero =>
                  intro i μ hi hm hfu
                  exact absurd hfu (Nat.not_lt_zero _)
                | succ fu86 ih86 =>
                  intro i μ hi hm hfu H locs ls hW hl
                  refine lv_iload X.x X.b d_R_sheet_86 (lv_at hl 0 rfl) ?_
                  refine lv_bipush (v := nI 40) X.x X.b d_R_sheet_88 (by decide) ?_
                  refine lv_icmp_ge (tgt := 112) X.x X.b d_R_sheet_90 (by decide) (fun c90 => ?_) (fun c90 => ?_)
                  · have c90 : 40 ≤ i := (nI_leI (a := 40) (b := i) (by omega) (by omega)).mp c90
                    refine lv_aload_n X.x X.b d_R_sheet_112 rfl (lv_at hl 1 rfl) ?_
                    refine q_getr X hW qj4 rfl _ ds_R 18 (by decide) mw_704 rfl (c1 := 79) rfl d_R_sheet_113 ?_
                    refine lv_iload_n X.x X.b d_R_sheet_116 rfl (lv_at hl 2 rfl) ?_
                    refine g_ald X hW ds_79 (q_in (by omega) (by decide)) (p0 := j) (q_tn (by omega) (by omega)) (v := r82 j) (by rw [qr_ne (by omega), qr_at]) d_R_sheet_117 ?_
                    exact q_zret X rfl hW ⟨by rw [er82, upd_at], by rw [hm, show i = 40 by omega, er67, er82]⟩ d_R_sheet_118
                  · have c90 : ¬ 40 ≤ i := fun z => c90 ((nI_leI (a := 40) (b := i) (by omega) (by omega)).mpr z)
                    refine lv_aload_n X.x X.b d_R_sheet_93 rfl (lv_at hl 1 rfl) ?_
                    refine q_getr X hW qj4 rfl _ ds_R 19 (by decide) mw_705 rfl (c1 := 80) rfl d_R_sheet_94 ?_
                    refine lv_bipush (v := nI 40) X.x X.b d_R_sheet_97 (by decide) ?_
                    refine lv_iload_n X.x X.b d_R_sheet_99 rfl (lv_at hl 2 rfl) ?_
                    refine lv_imul X.x X.b d_R_sheet_100 ?_
                    rw [pk_mul]
                    refine lv_iload X.x X.b d_R_sheet_101 (lv_at hl 0 rfl) ?_
                    refine lv_iadd X.x X.b d_R_sheet_103 ?_
                    rw [nI_add]
                    refine lv_iconst (v := nI 0) X.x X.b d_R_sheet_104 (by decide) ?_
                    refine g_ast X hW ds_80 (q_in (by omega) (by decide)) (p0 := 40 * j + i) (q_tn (by omega) (by omega)) (ρ := μ) (by rw [qr_at]) d_R_sheet_105 (fun H locs hW => ?_)
                    obtain ⟨r105, er105⟩ : ∃ z, z = upd μ (40 * j + i) (nI 0) := ⟨_, rfl⟩
                    rw [← er105] at hW
                    rw [qr_qr] at hW
                    refine lv_iinc (v := nI (i + 1)) (lv' := [(4, .int (nI (i + 1))), (0, .ref (eA E 70)), (1, .int (nI j)), (2, .int b), (3, .int (nI n))]) X.x X.b d_R_sheet_106 hl (k := 0) rfl (by rw [show Int32.ofInt 1 = nI 1 from by decide, nI_add]) (by decide) rfl (fun ls hl => ?_)
                    refine lv_goto (tgt := 86) X.x X.b d_R_sheet_109 (by decide) ?_
                    exact ih86 (i + 1) r105 (by omega) (by rw [er105, hm]; rfl) (by omega) _ _ _ hW (lv_sub hl [0, 1, 2, 3, 4] rfl)
              exact loop86 (40 - 0 + 1) 0 η (by omega) rfl (Nat.lt_succ_self _) _ _ _ hW (lv_sub hl [0, 1, 2, 3, 4] rfl)
            · exact absurd c74 hb
          · have c51 : ¬ n ≤ 40 := fun z => c51 ((nI_leI (a := n) (b := 40) (by omega) (by omega)).mpr z)
            omega
        · have c37 : ¬ 0 ≤ n := fun z => c37 ((nI_leI (a := 0) (b := n) (by omega) (by omega)).mpr z)
          omega
      · refine lv_iload_n X.x X.b d_R_sheet_17 rfl (lv_at hl 2 rfl) ?_
        refine lv_bipush (v := nI 16) X.x X.b d_R_sheet_18 (by decide) ?_
        refine lv_icmp_eq (tgt := 36) X.x X.b d_R_sheet_20 (by decide) (fun c20 => ?_) (fun c20 => ?_)
        · refine lv_iload_n X.x X.b d_R_sheet_36 rfl (lv_at hl 3 rfl) ?_
          refine lv_if_ge (tgt := 48) X.x X.b d_R_sheet_37 (by decide) (fun c37 => ?_) (fun c37 => ?_)
          · have c37 : 0 ≤ n := (nI_leI (a := 0) (b := n) (by omega) (by omega)).mp c37
            refine lv_iload_n X.x X.b d_R_sheet_48 rfl (lv_at hl 3 rfl) ?_
            refine lv_bipush (v := nI 40) X.x X.b d_R_sheet_49 (by decide) ?_
            refine lv_icmp_le (tgt := 61) X.x X.b d_R_sheet_51 (by decide) (fun c51 => ?_) (fun c51 => ?_)
            · have c51 : n ≤ 40 := (nI_leI (a := n) (b := 40) (by omega) (by omega)).mp c51
              refine lv_aload_n X.x X.b d_R_sheet_61 rfl (lv_at hl 0 rfl) ?_
              refine q_getr X hW qj4 rfl _ ds_R 17 (by decide) mw_703 rfl (c1 := 78) rfl d_R_sheet_62 ?_
              refine lv_iload_n X.x X.b d_R_sheet_65 rfl (lv_at hl 1 rfl) ?_
              refine lv_iload_n X.x X.b d_R_sheet_66 rfl (lv_at hl 2 rfl) ?_
              refine g_ast X hW ds_78 (q_in (by omega) (by decide)) (p0 := j) (q_tn (by omega) (by omega)) (ρ := ω) (by rw [hω]) d_R_sheet_67 (fun H locs hW => ?_)
              obtain ⟨r67, er67⟩ : ∃ z, z = upd ω j b := ⟨_, rfl⟩
              rw [← er67] at hW
              refine lv_aload_n X.x X.b d_R_sheet_68 rfl (lv_at hl 0 rfl) ?_
              refine q_getr X hW qj4 rfl _ ds_R 18 (by decide) mw_704 rfl (c1 := 79) rfl d_R_sheet_69 ?_
              refine lv_iload_n X.x X.b d_R_sheet_72 rfl (lv_at hl 1 rfl) ?_
              refine lv_iload_n X.x X.b d_R_sheet_73 rfl (lv_at hl 2 rfl) ?_
              refine lv_if_ne (tgt := 81) X.x X.b d_R_sheet_74 (by decide) (fun c74 => ?_) (fun c74 => ?_)
              · refine lv_iload_n X.x X.b d_R_sheet_81 rfl (lv_at hl 3 rfl) ?_
                refine g_ast X hW ds_79 (q_in (by omega) (by decide)) (p0 := j) (q_tn (by omega) (by omega)) (ρ := ζ) (by rw [qr_ne (by omega), hζ]) d_R_sheet_82 (fun H locs hW => ?_)
                obtain ⟨r82, er82⟩ : ∃ z, z = upd ζ j (nI n) := ⟨_, rfl⟩
                rw [← er82] at hW
                refine lv_iconst (v := nI 0) X.x X.b d_R_sheet_83 (by decide) ?_
                refine lv_istore (lv' := [(4, .int (nI 0)), (0, .ref (eA E 70)), (1, .int (nI j)), (2, .int b), (3, .int (nI n))]) X.x X.b d_R_sheet_84 hl (by decide) rfl (fun ls hl => ?_)
                have hW : qWH E (qr (qr (qr S 22 r67) 23 r82) 24 η) s H locs := by rw [qr_selfE (by rw [qr_ne (by omega), qr_ne (by omega), hη])]; exact hW
                have loop86 : ∀ (fu86 : Nat) (i : Nat) (μ : Nat → Int32), i ≤ 40 → μ = zr40 j η i → 40 - i < fu86 → ∀ (H : Heap) (locs : List Loc) (ls : Array Slot), qWH E (qr (qr (qr S 22 r67) 23 r82) 24 μ) s H locs → lv_has ls 5 [(4, .int (nI i)), (0, .ref (eA E 70)), (1, .int (nI j)), (2, .int b), (3, .int (nI n))] → W p l e (qRm 3) s m ([.ref (eA E 70), .int (nI j), .int b, .int (nI n)] : List Value).toArray below meth c H locs 0 0 (MQ below (qQi E (nI n) (qr (qr (qr S 22 (upd ω j b)) 23 (upd ζ j (nI n))) 24 (zr40 j η 40)) s.heap.size) ([.ref (eA E 70), .int (nI j), .int b, .int (nI n)] : List Value).toArray s 0 0 (qAA E s.heap.size)) (F0 m 86 ls []) := by
                  intro fu86
                  induction fu86 with
                  | zero =>
                    intro i μ hi hm hfu
                    exact absurd hfu (Nat.not_lt_zero _)
                  | succ fu86 ih86 =>
                    intro i μ hi hm hfu H locs ls hW hl
                    refine lv_iload X.x X.b d_R_sheet_86 (lv_at hl 0 rfl) ?_
                    refine lv_bipush (v := nI 40) X.x X.b d_R_sheet_88 (by decide) ?_
                    refine lv_icmp_ge (tgt := 112) X.x X.b d_R_sheet_90 (by decide) (fun c90 => ?_) (fun c90 => ?_)
                    · have c90 : 40 ≤ i := (nI_leI (a := 40) (b := i) (by omega) (by omega)).mp c90
                      refine lv_aload_n X.x X.b d_R_sheet_112 rfl (lv_at hl 1 rfl) ?_
                      refine q_getr X hW qj4 rfl _ ds_R 18 (by decide) mw_704 rfl (c1 := 79) rfl d_R_sheet_113 ?_
                      refine lv_iload_n X.x X.b d_R_sheet_116 rfl (lv_at hl 2 rfl) ?_
                      refine g_ald X hW ds_79 (q_in (by omega) (by decide)) (p0 := j) (q_tn (by omega) (by omega)) (v := r82 j) (by rw [qr_ne (by omega), qr_at]) d_R_sheet_117 ?_
                      exact q_zret X rfl hW ⟨by rw [er82, upd_at], by rw [hm, show i = 40 by omega, er67, er82]⟩ d_R_sheet_118
                    · have c90 : ¬ 40 ≤ i := fun z => c90 ((nI_leI (a := 40) (b := i) (by omega) (by omega)).mpr z)
                      refine lv_aload_n X.x X.b d_R_sheet_93 rfl (lv_at hl 1 rfl) ?_
                      refine q_getr X hW qj4 rfl _ ds_R 19 (by decide) mw_705 rfl (c1 := 80) rfl d_R_sheet_94 ?_
                      refine lv_bipush (v := nI 40) X.x X.b d_R_sheet_97 (by decide) ?_
                      refine lv_iload_n X.x X.b d_R_sheet_99 rfl (lv_at hl 2 rfl) ?_
                      refine lv_imul X.x X.b d_R_sheet_100 ?_
                      rw [pk_mul]
                      refine lv_iload X.x X.b d_R_sheet_101 (lv_at hl 0 rfl) ?_
                      refine lv_iadd X.x X.b d_R_sheet_103 ?_
                      rw [nI_add]
                      refine lv_iconst (v := nI 0) X.x X.b d_R_sheet_104 (by decide) ?_
                      refine g_ast X hW ds_80 (q_in (by omega) (by decide)) (p0 := 40 * j + i) (q_tn (by omega) (by omega)) (ρ := μ) (by rw [qr_at]) d_R_sheet_105 (fun H locs hW => ?_)
                      obtain ⟨r105, er105⟩ : ∃ z, z = upd μ (40 * j + i) (nI 0) := ⟨_, rfl⟩
                      rw [← er105] at hW
                      rw [qr_qr] at hW
                      refine lv_iinc (v := nI (i + 1)) (lv' := [(4, .int (nI (i + 1))), (0, .ref (eA E 70)), (1, .int (nI j)), (2, .int b), (3, .int (nI n))]) X.x X.b d_R_sheet_106 hl (k := 0) rfl (by rw [show Int32.ofInt 1 = nI 1 from by decide, nI_add]) (by decide) rfl (fun ls hl => ?_)
                      refine lv_goto (tgt := 86) X.x X.b d_R_sheet_109 (by decide) ?_
                      exact ih86 (i + 1) r105 (by omega) (by rw [er105, hm]; rfl) (by omega) _ _ _ hW (lv_sub hl [0, 1, 2, 3, 4] rfl)
                exact loop86 (40 - 0 + 1) 0 η (by omega) rfl (Nat.lt_succ_self _) _ _ _ hW (lv_sub hl [0, 1, 2, 3, 4] rfl)
              · exact absurd c74 hb
            · have c51 : ¬ n ≤ 40 := fun z => c51 ((nI_leI (a := n) (b := 40) (by omega) (by omega)).mpr z)
              omega
          · have c37 : ¬ 0 ≤ n := fun z => c37 ((nI_leI (a := 0) (b := n) (by omega) (by omega)).mpr z)
            omega
        · refine lv_iload_n X.x X.b d_R_sheet_23 rfl (lv_at hl 2 rfl) ?_
          refine lv_bipush (v := nI 32) X.x X.b d_R_sheet_24 (by decide) ?_
          refine lv_icmp_eq (tgt := 36) X.x X.b d_R_sheet_26 (by decide) (fun c26 => ?_) (fun c26 => ?_)
          · refine lv_iload_n X.x X.b d_R_sheet_36 rfl (lv_at hl 3 rfl) ?_
            refine lv_if_ge (tgt := 48) X.x X.b d_R_sheet_37 (by decide) (fun c37 => ?_) (fun c37 => ?_)
            · have c37 : 0 ≤ n := (nI_leI (a := 0) (b := n) (by omega) (by omega)).mp c37
              refine lv_iload_n X.x X.b d_R_sheet_48 rfl (lv_at hl 3 rfl) ?_
              refine lv_bipush (v := nI 40) X.x X.b d_R_sheet_49 (by decide) ?_
              refine lv_icmp_le (tgt := 61) X.x X.b d_R_sheet_51 (by decide) (fun c51 => ?_) (fun c51 => ?_)
              · have c51 : n ≤ 40 := (nI_leI (a := n) (b := 40) (by omega) (by omega)).mp c51
                refine lv_aload_n X.x X.b d_R_sheet_61 rfl (lv_at hl 0 rfl) ?_
                refine q_getr X hW qj4 rfl _ ds_R 17 (by decide) mw_703 rfl (c1 := 78) rfl d_R_sheet_62 ?_
                refine lv_iload_n X.x X.b d_R_sheet_65 rfl (lv_at hl 1 rfl) ?_
                refine lv_iload_n X.x X.b d_R_sheet_66 rfl (lv_at hl 2 rfl) ?_
                refine g_ast X hW ds_78 (q_in (by omega) (by decide)) (p0 := j) (q_tn (by omega) (by omega)) (ρ := ω) (by rw [hω]) d_R_sheet_67 (fun H locs hW => ?_)
                obtain ⟨r67, er67⟩ : ∃ z, z = upd ω j b := ⟨_, rfl⟩
                rw [← er67] at hW
                refine lv_aload_n X.x X.b d_R_sheet_68 rfl (lv_at hl 0 rfl) ?_
                refine q_getr X hW qj4 rfl _ ds_R 18 (by decide) mw_704 rfl (c1 := 79) rfl d_R_sheet_69 ?_
                refine lv_iload_n X.x X.b d_R_sheet_72 rfl (lv_at hl 1 rfl) ?_
                refine lv_iload_n X.x X.b d_R_sheet_73 rfl (lv_at hl 2 rfl) ?_
                refine lv_if_ne (tgt := 81) X.x X.b d_R_sheet_74 (by decide) (fun c74 => ?_) (fun c74 => ?_)
                · refine lv_iload_n X.x X.b d_R_sheet_81 rfl (lv_at hl 3 rfl) ?_
                  refine g_ast X hW ds_79 (q_in (by omega) (by decide)) (p0 := j) (q_tn (by omega) (by omega)) (ρ := ζ) (by rw [qr_ne (by omega), hζ]) d_R_sheet_82 (fun H locs hW => ?_)
                  obtain ⟨r82, er82⟩ : ∃ z, z = upd ζ j (nI n) := ⟨_, rfl⟩
                  rw [← er82] at hW
                  refine lv_iconst (v := nI 0) X.x X.b d_R_sheet_83 (by decide) ?_
                  refine lv_istore (lv' := [(4, .int (nI 0)), (0, .ref (eA E 70)), (1, .int (nI j)), (2, .int b), (3, .int (nI n))]) X.x X.b d_R_sheet_84 hl (by decide) rfl (fun ls hl => ?_)
                  have hW : qWH E (qr (qr (qr S 22 r67) 23 r82) 24 η) s H locs := by rw [qr_selfE (by rw [qr_ne (by omega), qr_ne (by omega), hη])]; exact hW
                  have loop86 : ∀ (fu86 : Nat) (i : Nat) (μ : Nat → Int32), i ≤ 40 → μ = zr40 j η i → 40 - i < fu86 → ∀ (H : Heap) (locs : List Loc) (ls : Array Slot), qWH E (qr (qr (qr S 22 r67) 23 r82) 24 μ) s H locs → lv_has ls 5 [(4, .int (nI i)), (0, .ref (eA E 70)), (1, .int (nI j)), (2, .int b), (3, .int (nI n))] → W p l e (qRm 3) s m ([.ref (eA E 70), .int (nI j), .int b, .int (nI n)] : List Value).toArray below meth c H locs 0 0 (MQ below (qQi E (nI n) (qr (qr (qr S 22 (upd ω j b)) 23 (upd ζ j (nI n))) 24 (zr40 j η 40)) s.heap.size) ([.ref (eA E 70), .int (nI j), .int b, .int (nI n)] : List Value).toArray s 0 0 (qAA E s.heap.size)) (F0 m 86 ls []) := by
                    intro fu86
                    induction fu86 with
                    | zero =>
                      intro i μ hi hm hfu
                      exact absurd hfu (Nat.not_lt_zero _)
                    | succ fu86 ih86 =>
                      intro i μ hi hm hfu H locs ls hW hl
                      refine lv_iload X.x X.b d_R_sheet_86 (lv_at hl 0 rfl) ?_
                      refine lv_bipush (v := nI 40) X.x X.b d_R_sheet_88 (by decide) ?_
                      refine lv_icmp_ge (tgt := 112) X.x X.b d_R_sheet_90 (by decide) (fun c90 => ?_) (fun c90 => ?_)
                      · have c90 : 40 ≤ i := (nI_leI (a := 40) (b := i) (by omega) (by omega)).mp c90
                        refine lv_aload_n X.x X.b d_R_sheet_112 rfl (lv_at hl 1 rfl) ?_
                        refine q_getr X hW qj4 rfl _ ds_R 18 (by decide) mw_704 rfl (c1 := 79) rfl d_R_sheet_113 ?_
                        refine lv_iload_n X.x X.b d_R_sheet_116 rfl (lv_at hl 2 rfl) ?_
                        refine g_ald X hW ds_79 (q_in (by omega) (by decide)) (p0 := j) (q_tn (by omega) (by omega)) (v := r82 j) (by rw [qr_ne (by omega), qr_at]) d_R_sheet_117 ?_
                        exact q_zret X rfl hW ⟨by rw [er82, upd_at], by rw [hm, show i = 40 by omega, er67, er82]⟩ d_R_sheet_118
                      · have c90 : ¬ 40 ≤ i := fun z => c90 ((nI_leI (a := 40) (b := i) (by omega) (by omega)).mpr z)
                        refine lv_aload_n X.x X.b d_R_sheet_93 rfl (lv_at hl 1 rfl) ?_
                        refine q_getr X hW qj4 rfl _ ds_R 19 (by decide) mw_705 rfl (c1 := 80) rfl d_R_sheet_94 ?_
                        refine lv_bipush (v := nI 40) X.x X.b d_R_sheet_97 (by decide) ?_
                        refine lv_iload_n X.x X.b d_R_sheet_99 rfl (lv_at hl 2 rfl) ?_
                        refine lv_imul X.x X.b d_R_sheet_100 ?_
                        rw [pk_mul]
                        refine lv_iload X.x X.b d_R_sheet_101 (lv_at hl 0 rfl) ?_
                        refine lv_iadd X.x X.b d_R_sheet_103 ?_
                        rw [nI_add]
                        refine lv_iconst (v := nI 0) X.x X.b d_R_sheet_104 (by decide) ?_
                        refine g_ast X hW ds_80 (q_in (by omega) (by decide)) (p0 := 40 * j + i) (q_tn (by omega) (by omega)) (ρ := μ) (by rw [qr_at]) d_R_sheet_105 (fun H locs hW => ?_)
                        obtain ⟨r105, er105⟩ : ∃ z, z = upd μ (40 * j + i) (nI 0) := ⟨_, rfl⟩
                        rw [← er105] at hW
                        rw [qr_qr] at hW
                        refine lv_iinc (v := nI (i + 1)) (lv' := [(4, .int (nI (i + 1))), (0, .ref (eA E 70)), (1, .int (nI j)), (2, .int b), (3, .int (nI n))]) X.x X.b d_R_sheet_106 hl (k := 0) rfl (by rw [show Int32.ofInt 1 = nI 1 from by decide, nI_add]) (by decide) rfl (fun ls hl => ?_)
                        refine lv_goto (tgt := 86) X.x X.b d_R_sheet_109 (by decide) ?_
                        exact ih86 (i + 1) r105 (by omega) (by rw [er105, hm]; rfl) (by omega) _ _ _ hW (lv_sub hl [0, 1, 2, 3, 4] rfl)
                  exact loop86 (40 - 0 + 1) 0 η (by omega) rfl (Nat.lt_succ_self _) _ _ _ hW (lv_sub hl [0, 1, 2, 3, 4] rfl)
                · exact absurd c74 hb
              · have c51 : ¬ n ≤ 40 := fun z => c51 ((nI_leI (a := n) (b := 40) (by omega) (by omega)).mpr z)
                omega
            · have c37 : ¬ 0 ≤ n := fun z => c37 ((nI_leI (a := 0) (b := n) (by omega) (by omega)).mpr z)
              omega
          · exact absurd hk (by rintro (z | z | z); exact c14 z; exact c20 z; exact c26 z)
set_option maxHeartbeats 1000000 in
set_option maxRecDepth 20000 in
theorem c_R_sheet_0 (l : Launch) (E : QE) (S : QM) (ω ζ η ψ : Nat → Int32) (hω : S 22 = ω) (hζ : S 23 = ζ) (hη : S 24 = η) (hψ : S 19 = ψ) (j : Nat) (hj : j < 4) (b : Int32) (n : Nat) (hn : n ≤ 40) (hb : b = 0) : qCI E l y_R_sheet prog_7_method_100_code 5 .int 3 [.ref (eA E 70), .int (nI j), .int b, .int (nI n)] S (nI 0) (qr (qr (qr S 22 (upd ω j b)) 23 (upd ζ j (nI 0))) 24 (zr40 j η 40)) := by
  refine qCI_of (by decide) (Nat.le_of_ble_eq_true rfl) (fun p e s m below meth c ls X hW hl => ?_)
  have hl : lv_has ls 5 [(0, .ref (eA E 70)), (1, .int (nI j)), (2, .int b), (3, .int (nI n))] := hl
  refine lv_iload_n X.x X.b d_R_sheet_0 rfl (lv_at hl 1 rfl) ?_
  refine q_csi X (c_R_isSheet l E S (nI j)) hW ok_R_isSheet mw_1033 ⟨by decide, by decide⟩ (As := [.int (nI j)]) rfl rfl (Nat.le_of_ble_eq_true rfl) (lv := [(0, .ref (eA E 70)), (1, .int (nI j)), (2, .int b), (3, .int (nI n))]) hl ⟨Nat.le_refl 0, Nat.le_refl 0⟩ d_R_sheet_1 (fun H locs hW => ?_)
  refine lv_if_eq (tgt := 29) X.x X.b d_R_sheet_4 (by decide) (fun c4 => ?_) (fun c4 => ?_)
  · have c4 := b2i_e c4
    have c4 := mt (inR_i (by omega) (by decide)).mpr c4
    omega
  · have c4 := b2i_n c4
    have c4 := (inR_i (by omega) (by decide)).mp c4
    refine lv_iload_n X.x X.b d_R_sheet_7 rfl (lv_at hl 2 rfl) ?_
    refine lv_if_eq (tgt := 36) X.x X.b d_R_sheet_8 (by decide) (fun c8 => ?_) (fun c8 => ?_)
    · refine lv_iload_n X.x X.b d_R_sheet_36 rfl (lv_at hl 3 rfl) ?_
      refine lv_if_ge (tgt := 48) X.x X.b d_R_sheet_37 (by decide) (fun c37 => ?_) (fun c37 => ?_)
      · have c37 : 0 ≤ n := (nI_leI (a := 0) (b := n) (by omega) (by omega)).mp c37
        refine lv_iload_n X.x X.b d_R_sheet_48 rfl (lv_at hl 3 rfl) ?_
        refine lv_bipush (v := nI 40) X.x X.b d_R_sheet_49 (by decide) ?_
        refine lv_icmp_le (tgt := 61) X.x X.b d_R_sheet_51 (by decide) (fun c51 => ?_) (fun c51 => ?_)
        · have c51 : n ≤ 40 := (nI_leI (a := n) (b := 40) (by omega) (by omega)).mp c51
          refine lv_aload_n X.x X.b d_R_sheet_61 rfl (lv_at hl 0 rfl) ?_
          refine q_getr X hW qj4 rfl _ ds_R 17 (by decide) mw_703 rfl (c1 := 78) rfl d_R_sheet_62 ?_
          refine lv_iload_n X.x X.b d_R_sheet_65 rfl (lv_at hl 1 rfl) ?_
          refine lv_iload_n X.x X.b d_R_sheet_66 rfl (lv_at hl 2 rfl) ?_
          refine g_ast X hW ds_78 (q_in (by omega) (by decide)) (p0 := j) (q_tn (by omega) (by omega)) (ρ := ω) (by rw [hω]) d_R_sheet_67 (fun H locs hW => ?_)
          obtain ⟨r67, er67⟩ : ∃ z, z = upd ω j b := ⟨_, rfl⟩
          rw [← er67] at hW
          refine lv_aload_n X.x X.b d_R_sheet_68 rfl (lv_at hl 0 rfl) ?_
          refine q_getr X hW qj4 rfl _ ds_R 18 (by decide) mw_704 rfl (c1 := 79) rfl d_R_sheet_69 ?_
          refine lv_iload_n X.x X.b d_R_sheet_72 rfl (lv_at hl 1 rfl) ?_
          refine lv_iload_n X.x X.b d_R_sheet_73 rfl (lv_at hl 2 rfl) ?_
          refine lv_if_ne (tgt := 81) X.x X.b d_R_sheet_74 (by decide) (fun c74 => ?_) (fun c74 => ?_)
          · exact absurd hb c74
          · refine lv_iconst (v := nI 0) X.x X.b d_R_sheet_77 (by decide) ?_
            refine lv_goto (tgt := 82) X.x X.b d_R_sheet_78 (by decide) ?_
            refine g_ast X hW ds_79 (q_in (by omega) (by decide)) (p0 := j) (q_tn (by omega) (by omega)) (ρ := ζ) (by rw [qr_ne (by omega), hζ]) d_R_sheet_82 (fun H locs hW => ?_)
            obtain ⟨r82, er82⟩ : ∃ z, z = upd ζ j (nI 0) := ⟨_, rfl⟩
            rw [← er82] at hW
            refine lv_iconst (v := nI 0) X.x X.b d_R_sheet_83 (by decide) ?_
            refine lv_istore (lv' := [(4, .int (nI 0)), (0, .ref (eA E 70)), (1, .int (nI j)), (2, .int b), (3, .int (nI n))]) X.x X.b d_R_sheet_84 hl (by decide) rfl (fun ls hl => ?_)
            have hW : qWH E (qr (qr (qr S 22 r67) 23 r82) 24 η) s H locs := by rw [qr_selfE (by rw [qr_ne (by omega), qr_ne (by omega), hη])]; exact hW
            have loop86 : ∀ (fu86 : Nat) (i : Nat) (μ : Nat → Int32), i ≤ 40 → μ = zr40 j η i → 40 - i < fu86 → ∀ (H : Heap) (locs : List Loc) (ls : Array Slot), qWH E (qr (qr (qr S 22 r67) 23 r82) 24 μ) s H locs → lv_has ls 5 [(4, .int (nI i)), (0, .ref (eA E 70)), (1, .int (nI j)), (2, .int b), (3, .int (nI n))] → W p l e (qRm 3) s m ([.ref (eA E 70), .int (nI j), .int b, .int (nI n)] : List Value).toArray below meth c H locs 0 0 (MQ below (qQi E (nI 0) (qr (qr (qr S 22 (upd ω j b)) 23 (upd ζ j (nI 0))) 24 (zr40 j η 40)) s.heap.size) ([.ref (eA E 70), .int (nI j), .int b, .int (nI n)] : List Value).toArray s 0 0 (qAA E s.heap.size)) (F0 m 86 ls []) := by
              intro fu86
              induction fu86 with
              | zero =>
                intro i μ hi hm hfu
                exact absurd hfu (Nat.not_lt_zero _)
              | succ fu86 ih86 =>
                intro i μ hi hm hfu H locs ls hW hl
                refine lv_iload X.x X.b d_R_sheet_86 (lv_at hl 0 rfl) ?_
                refine lv_bipush (v := nI 40) X.x X.b d_R_sheet_88 (by decide) ?_
                refine lv_icmp_ge (tgt := 112) X.x X.b d_R_sheet_90 (by decide) (fun c90 => ?_) (fun c90 => ?_)
                · have c90 : 40 ≤ i := (nI_leI (a := 40) (b := i) (by omega) (by omega)).mp c90
                  refine lv_aload_n X.x X.b d_R_sheet_112 rfl (lv_at hl 1 rfl) ?_
                  refine q_getr X hW qj4 rfl _ ds_R 18 (by decide) mw_704 rfl (c1 := 79) rfl d_R_sheet_113 ?_
                  refine lv_iload_n X.x X.b d_R_sheet_116 rfl (lv_at hl 2 rfl) ?_
                  refine g_ald X hW ds_79 (q_in (by omega) (by decide)) (p0 := j) (q_tn (by omega) (by omega)) (v := r82 j) (by rw [qr_ne (by omega), qr_at]) d_R_sheet_117 ?_
                  exact q_zret X rfl hW ⟨by rw [er82, upd_at], by rw [hm, show i = 40 by omega, er67, er82]⟩ d_R_sheet_118
                · have c90 : ¬ 40 ≤ i := fun z => c90 ((nI_leI (a := 40) (b := i) (by omega) (by omega)).mpr z)
                  refine lv_aload_n X.x X.b d_R_sheet_93 rfl (lv_at hl 1 rfl) ?_
                  refine q_getr X hW qj4 rfl _ ds_R 19 (by decide) mw_705 rfl (c1 := 80) rfl d_R_sheet_94 ?_
                  refine lv_bipush (v := nI 40) X.x X.b d_R_sheet_97 (by decide) ?_
                  refine lv_iload_n X.x X.b d_R_sheet_99 rfl (lv_at hl 2 rfl) ?_
                  refine lv_imul X.x X.b d_R_sheet_100 ?_
                  rw [pk_mul]
                  refine lv_iload X.x X.b d_R_sheet_101 (lv_at hl 0 rfl) ?_
                  refine lv_iadd X.x X.b d_R_sheet_103 ?_
                  rw [nI_add]
                  refine lv_iconst (v := nI 0) X.x X.b d_R_sheet_104 (by decide) ?_
                  refine g_ast X hW ds_80 (q_in (by omega) (by decide)) (p0 := 40 * j + i) (q_tn (by omega) (by omega)) (ρ := μ) (by rw [qr_at]) d_R_sheet_105 (fun H locs hW => ?_)
                  obtain ⟨r105, er105⟩ : ∃ z, z = upd μ (40 * j + i) (nI 0) := ⟨_, rfl⟩
                  rw [← er105] at hW
                  rw [qr_qr] at hW
                  refine lv_iinc (v := nI (i + 1)) (lv' := [(4, .int (nI (i + 1))), (0, .ref (eA E 70)), (1, .int (nI j)), (2, .int b), (3, .int (nI n))]) X.x X.b d_R_sheet_106 hl (k := 0) rfl (by rw [show Int32.ofInt 1 = nI 1 from by decide, nI_add]) (by decide) rfl (fun ls hl => ?_)
                  refine lv_goto (tgt := 86) X.x X.b d_R_sheet_109 (by decide) ?_
                  exact ih86 (i + 1) r105 (by omega) (by rw [er105, hm]; rfl) (by omega) _ _ _ hW (lv_sub hl [0, 1, 2, 3, 4] rfl)
            exact loop86 (40 - 0 + 1) 0 η (by omega) rfl (Nat.lt_succ_self _) _ _ _ hW (lv_sub hl [0, 1, 2, 3, 4] rfl)
        · have c51 : ¬ n ≤ 40 := fun z => c51 ((nI_leI (a := n) (b := 40) (by omega) (by omega)).mpr z)
          omega
      · have c37 : ¬ 0 ≤ n := fun z => c37 ((nI_leI (a := 0) (b := n) (by omega) (by omega)).mpr z)
        omega
    · exact absurd hb c8
set_option maxHeartbeats 1000000 in
set_option maxRecDepth 20000 in
theorem c_R_sheet_n (l : Launch) (E : QE) (S : QM) (ω ζ η ψ : Nat → Int32) (hω : S 22 = ω) (hζ : S 23 = ζ) (hη : S 24 = η) (hψ : S 19 = ψ) (j : Nat) (hj : j < 4) (b z : Int32) (hk : (b = 0 ∨ b = nI 8 ∨ b = nI 16 ∨ b = nI 32)) (hz : z < 0) : qCI E l y_R_sheet prog_7_method_100_code 5 .int 3 [.ref (eA E 70), .int (nI j), .int b, .int z] S (-1000007) (qr S 19 (fnR ψ 6)) := by
  refine qCI_of (by decide) (Nat.le_of_ble_eq_true rfl) (fun p e s m below meth c ls X hW hl => ?_)
  have hl : lv_has ls 5 [(0, .ref (eA E 70)), (1, .int (nI j)), (2, .int b), (3, .int z)] := hl
  refine lv_iload_n X.x X.b d_R_sheet_0 rfl (lv_at hl 1 rfl) ?_
  refine q_csi X (c_R_isSheet l E S (nI j)) hW ok_R_isSheet mw_1033 ⟨by decide, by decide⟩ (As := [.int (nI j)]) rfl rfl (Nat.le_of_ble_eq_true rfl) (lv := [(0, .ref (eA E 70)), (1, .int (nI j)), (2, .int b), (3, .int z)]) hl ⟨Nat.le_refl 0, Nat.le_refl 0⟩ d_R_sheet_1 (fun H locs hW => ?_)
  refine lv_if_eq (tgt := 29) X.x X.b d_R_sheet_4 (by decide) (fun c4 => ?_) (fun c4 => ?_)
  · have c4 := b2i_e c4
    have c4 := mt (inR_i (by omega) (by decide)).mpr c4
    omega
  · have c4 := b2i_n c4
    have c4 := (inR_i (by omega) (by decide)).mp c4
    refine lv_iload_n X.x X.b d_R_sheet_7 rfl (lv_at hl 2 rfl) ?_
    refine lv_if_eq (tgt := 36) X.x X.b d_R_sheet_8 (by decide) (fun c8 => ?_) (fun c8 => ?_)
    · refine lv_iload_n X.x X.b d_R_sheet_36 rfl (lv_at hl 3 rfl) ?_
      refine lv_if_ge (tgt := 48) X.x X.b d_R_sheet_37 (by decide) (fun c37 => ?_) (fun c37 => ?_)
      · exact absurd hz (Int32.not_lt.mpr c37)
      · refine lv_aload_n X.x X.b d_R_sheet_40 rfl (lv_at hl 0 rfl) ?_
        refine lv_ldcw (v := (-1000007)) X.x X.b X.ow (X.ts _ mw_1150) d_R_sheet_41 ?_
        refine q_cvi X (c_R_finding_6 l E S ψ (by rw [hψ])) hW (q_recv X hW ds_R rfl) ok_R_finding mw_768 ⟨by decide, by decide⟩ (As := [.int (-1000007)]) rfl rfl (Nat.le_of_ble_eq_true rfl) (lv := [(0, .ref (eA E 70)), (1, .int (nI j)), (2, .int b), (3, .int z)]) hl ⟨Nat.le_refl 0, Nat.le_refl 0⟩ d_R_sheet_44 (fun H locs hW => ?_)
        have hW : qWH E (qr S 19 (fnR ψ 6)) s H locs := hW
        exact q_zret X rfl hW ⟨rfl, rfl⟩ d_R_sheet_47
    · refine lv_iload_n X.x X.b d_R_sheet_11 rfl (lv_at hl 2 rfl) ?_
      refine lv_bipush (v := nI 8) X.x X.b d_R_sheet_12 (by decide) ?_
      refine lv_icmp_eq (tgt := 36) X.x X.b d_R_sheet_14 (by decide) (fun c14 => ?_) (fun c14 => ?_)
      · refine lv_iload_n X.x X.b d_R_sheet_36 rfl (lv_at hl 3 rfl) ?_
        refine lv_if_ge (tgt := 48) X.x X.b d_R_sheet_37 (by decide) (fun c37 => ?_) (fun c37 => ?_)
        · exact absurd hz (Int32.not_lt.mpr c37)
        · refine lv_aload_n X.x X.b d_R_sheet_40 rfl (lv_at hl 0 rfl) ?_
          refine lv_ldcw (v := (-1000007)) X.x X.b X.ow (X.ts _ mw_1150) d_R_sheet_41 ?_
          refine q_cvi X (c_R_finding_6 l E S ψ (by rw [hψ])) hW (q_recv X hW ds_R rfl) ok_R_finding mw_768 ⟨by decide, by decide⟩ (As := [.int (-1000007)]) rfl rfl (Nat.le_of_ble_eq_true rfl) (lv := [(0, .ref (eA E 70)), (1, .int (nI j)), (2, .int b), (3, .int z)]) hl ⟨Nat.le_refl 0, Nat.le_refl 0⟩ d_R_sheet_44 (fun H locs hW => ?_)
          have hW : qWH E (qr S 19 (fnR ψ 6)) s H locs := hW
          exact q_zret X rfl hW ⟨rfl, rfl⟩ d_R_sheet_47
      · refine lv_iload_n X.x X.b d_R_sheet_17 rfl (lv_at hl 2 rfl) ?_
        refine lv_bipush (v := nI 16) X.x X.b d_R_sheet_18 (by decide) ?_
        refine lv_icmp_eq (tgt := 36) X.x X.b d_R_sheet_20 (by decide) (fun c20 => ?_) (fun c20 => ?_)
        · refine lv_iload_n X.x X.b d_R_sheet_36 rfl (lv_at hl 3 rfl) ?_
          refine lv_if_ge (tgt := 48) X.x X.b d_R_sheet_37 (by decide) (fun c37 => ?_) (fun c37 => ?_)
          · exact absurd hz (Int32.not_lt.mpr c37)
          · refine lv_aload_n X.x X.b d_R_sheet_40 rfl (lv_at hl 0 rfl) ?_
            refine lv_ldcw (v := (-1000007)) X.x X.b X.ow (X.ts _ mw_1150) d_R_sheet_41 ?_
            refine q_cvi X (c_R_finding_6 l E S ψ (by rw [hψ])) hW (q_recv X hW ds_R rfl) ok_R_finding mw_768 ⟨by decide, by decide⟩ (As := [.int (-1000007)]) rfl rfl (Nat.le_of_ble_eq_true rfl) (lv := [(0, .ref (eA E 70)), (1, .int (nI j)), (2, .int b), (3, .int z)]) hl ⟨Nat.le_refl 0, Nat.le_refl 0⟩ d_R_sheet_44 (fun H locs hW => ?_)
            have hW : qWH E (qr S 19 (fnR ψ 6)) s H locs := hW
            exact q_zret X rfl hW ⟨rfl, rfl⟩ d_R_sheet_47
        · refine lv_iload_n X.x X.b d_R_sheet_23 rfl (lv_at hl 2 rfl) ?_
          refine lv_bipush (v := nI 32) X.x X.b d_R_sheet_24 (by decide) ?_
          refine lv_icmp_eq (tgt := 36) X.x X.b d_R_sheet_26 (by decide) (fun c26 => ?_) (fun c26 => ?_)
          · refine lv_iload_n X.x X.b d_R_sheet_36 rfl (lv_at hl 3 rfl) ?_
            refine lv_if_ge (tgt := 48) X.x X.b d_R_sheet_37 (by decide) (fun c37 => ?_) (fun c37 => ?_)
            · exact absurd hz (Int32.not_lt.mpr c37)
            · refine lv_aload_n X.x X.b d_R_sheet_40 rfl (lv_at hl 0 rfl) ?_
              refine lv_ldcw (v := (-1000007)) X.x X.b X.ow (X.ts _ mw_1150) d_R_sheet_41 ?_
              refine q_cvi X (c_R_finding_6 l E S ψ (by rw [hψ])) hW (q_recv X hW ds_R rfl) ok_R_finding mw_768 ⟨by decide, by decide⟩ (As := [.int (-1000007)]) rfl rfl (Nat.le_of_ble_eq_true rfl) (lv := [(0, .ref (eA E 70)), (1, .int (nI j)), (2, .int b), (3, .int z)]) hl ⟨Nat.le_refl 0, Nat.le_refl 0⟩ d_R_sheet_44 (fun H locs hW => ?_)
              have hW : qWH E (qr S 19 (fnR ψ 6)) s H locs := hW
              exact q_zret X rfl hW ⟨rfl, rfl⟩ d_R_sheet_47
          · exact absurd hk (by rintro (z | z | z | z); exact c8 z; exact c14 z; exact c20 z; exact c26 z)
set_option maxHeartbeats 1000000 in
set_option maxRecDepth 20000 in
theorem c_R_sheet_f (l : Launch) (E : QE) (S : QM) (ω ζ η ψ : Nat → Int32) (hω : S 22 = ω) (hζ : S 23 = ζ) (hη : S 24 = η) (hψ : S 19 = ψ) (j : Nat) (hj : j < 4) (b z : Int32) (hk : (b = 0 ∨ b = nI 8 ∨ b = nI 16 ∨ b = nI 32)) (hz : ¬ z < 0) (hf : nI 40 < z) : qCI E l y_R_sheet prog_7_method_100_code 5 .int 3 [.ref (eA E 70), .int (nI j), .int b, .int z] S (-1000001) (qr S 19 (fnR ψ 0)) := by
  refine qCI_of (by decide) (Nat.le_of_ble_eq_true rfl) (fun p e s m below meth c ls X hW hl => ?_)
  have hl : lv_has ls 5 [(0, .ref (eA E 70)), (1, .int (nI j)), (2, .int b), (3, .int z)] := hl
  refine lv_iload_n X.x X.b d_R_sheet_0 rfl (lv_at hl 1 rfl) ?_
  refine q_csi X (c_R_isSheet l E S (nI j)) hW ok_R_isSheet mw_1033 ⟨by decide, by decide⟩ (As := [.int (nI j)]) rfl rfl (Nat.le_of_ble_eq_true rfl) (lv := [(0, .ref (eA E 70)), (1, .int (nI j)), (2, .int b), (3, .int z)]) hl ⟨Nat.le_refl 0, Nat.le_refl 0⟩ d_R_sheet_1 (fun H locs hW => ?_)
  refine lv_if_eq (tgt := 29) X.x X.b d_R_sheet_4 (by decide) (fun c4 => ?_) (fun c4 => ?_)
  · have c4 := b2i_e c4
    have c4 := mt (inR_i (by omega) (by decide)).mpr c4
    omega
  · have c4 := b2i_n c4
    have c4 := (inR_i (by omega) (by decide)).mp c4
    refine lv_iload_n X.x X.b d_R_sheet_7 rfl (lv_at hl 2 rfl) ?_
    refine lv_if_eq (tgt := 36) X.x X.b d_R_sheet_8 (by decide) (fun c8 => ?_) (fun c8 => ?_)
    · refine lv_iload_n X.x X.b d_R_sheet_36 rfl (lv_at hl 3 rfl) ?_
      refine lv_if_ge (tgt := 48) X.x X.b d_R_sheet_37 (by decide) (fun c37 => ?_) (fun c37 => ?_)
      · refine lv_iload_n X.x X.b d_R_sheet_48 rfl (lv_at hl 3 rfl) ?_
        refine lv_bipush (v := nI 40) X.x X.b d_R_sheet_49 (by decide) ?_
        refine lv_icmp_le (tgt := 61) X.x X.b d_R_sheet_51 (by decide) (fun c51 => ?_) (fun c51 => ?_)
        · exact absurd hf (Int32.not_lt.mpr c51)
        · refine lv_aload_n X.x X.b d_R_sheet_54 rfl (lv_at hl 0 rfl) ?_
          refine lv_ldc (v := (-1000001)) X.x X.b X.ow (X.ts _ mw_767) d_R_sheet_55 ?_
          refine q_cvi X (c_R_finding_0 l E S ψ (by rw [hψ])) hW (q_recv X hW ds_R rfl) ok_R_finding mw_768 ⟨by decide, by decide⟩ (As := [.int (-1000001)]) rfl rfl (Nat.le_of_ble_eq_true rfl) (lv := [(0, .ref (eA E 70)), (1, .int (nI j)), (2, .int b), (3, .int z)]) hl ⟨Nat.le_refl 0, Nat.le_refl 0⟩ d_R_sheet_57 (fun H locs hW => ?_)
          have hW : qWH E (qr S 19 (fnR ψ 0)) s H locs := hW
          exact q_zret X rfl hW ⟨rfl, rfl⟩ d_R_sheet_60
      · exact absurd (Int32.not_le.mp c37) hz
    · refine lv_iload_n X.x X.b d_R_sheet_11 rfl (lv_at hl 2 rfl) ?_
      refine lv_bipush (v := nI 8) X.x X.b d_R_sheet_12 (by decide) ?_
      refine lv_icmp_eq (tgt := 36) X.x X.b d_R_sheet_14 (by decide) (fun c14 => ?_) (fun c14 => ?_)
      · refine lv_iload_n X.x X.b d_R_sheet_36 rfl (lv_at hl 3 rfl) ?_
        refine lv_if_ge (tgt := 48) X.x X.b d_R_sheet_37 (by decide) (fun c37 => ?_) (fun c37 => ?_)
        · refine lv_iload_n X.x X.b d_R_sheet_48 rfl (lv_at hl 3 rfl) ?_
          refine lv_bipush (v := nI 40) X.x X.b d_R_sheet_49 (by decide) ?_
          refine lv_icmp_le (tgt := 61) X.x X.b d_R_sheet_51 (by decide) (fun c51 => ?_) (fun c51 => ?_)
          · exact absurd hf (Int32.not_lt.mpr c51)
          · refine lv_aload_n X.x X.b d_R_sheet_54 rfl (lv_at hl 0 rfl) ?_
            refine lv_ldc (v := (-1000001)) X.x X.b X.ow (X.ts _ mw_767) d_R_sheet_55 ?_
            refine q_cvi X (c_R_finding_0 l E S ψ (by rw [hψ])) hW (q_recv X hW ds_R rfl) ok_R_finding mw_768 ⟨by decide, by decide⟩ (As := [.int (-1000001)]) rfl rfl (Nat.le_of_ble_eq_true rfl) (lv := [(0, .ref (eA E 70)), (1, .int (nI j)), (2, .int b), (3, .int z)]) hl ⟨Nat.le_refl 0, Nat.le_refl 0⟩ d_R_sheet_57 (fun H locs hW => ?_)
            have hW : qWH E (qr S 19 (fnR ψ 0)) s H locs := hW
            exact q_zret X rfl hW ⟨rfl, rfl⟩ d_R_sheet_60
        · exact absurd (Int32.not_le.mp c37) hz
      · refine lv_iload_n X.x X.b d_R_sheet_17 rfl (lv_at hl 2 rfl) ?_
        refine lv_bipush (v := nI 16) X.x X.b d_R_sheet_18 (by decide) ?_
        refine lv_icmp_eq (tgt := 36) X.x X.b d_R_sheet_20 (by decide) (fun c20 => ?_) (fun c20 => ?_)
        · refine lv_iload_n X.x X.b d_R_sheet_36 rfl (lv_at hl 3 rfl) ?_
          refine lv_if_ge (tgt := 48) X.x X.b d_R_sheet_37 (by decide) (fun c37 => ?_) (fun c37 => ?_)
          · refine lv_iload_n X.x X.b d_R_sheet_48 rfl (lv_at hl 3 rfl) ?_
            refine lv_bipush (v := nI 40) X.x X.b d_R_sheet_49 (by decide) ?_
            refine lv_icmp_le (tgt := 61) X.x X.b d_R_sheet_51 (by decide) (fun c51 => ?_) (fun c51 => ?_)
            · exact absurd hf (Int32.not_lt.mpr c51)
            · refine lv_aload_n X.x X.b d_R_sheet_54 rfl (lv_at hl 0 rfl) ?_
              refine lv_ldc (v := (-1000001)) X.x X.b X.ow (X.ts _ mw_767) d_R_sheet_55 ?_
              refine q_cvi X (c_R_finding_0 l E S ψ (by rw [hψ])) hW (q_recv X hW ds_R rfl) ok_R_finding mw_768 ⟨by decide, by decide⟩ (As := [.int (-1000001)]) rfl rfl (Nat.le_of_ble_eq_true rfl) (lv := [(0, .ref (eA E 70)), (1, .int (nI j)), (2, .int b), (3, .int z)]) hl ⟨Nat.le_refl 0, Nat.le_refl 0⟩ d_R_sheet_57 (fun H locs hW => ?_)
              have hW : qWH E (qr S 19 (fnR ψ 0)) s H locs := hW
              exact q_zret X rfl hW ⟨rfl, rfl⟩ d_R_sheet_60
          · exact absurd (Int32.not_le.mp c37) hz
        · refine lv_iload_n X.x X.b d_R_sheet_23 rfl (lv_at hl 2 rfl) ?_
          refine lv_bipush (v := nI 32) X.x X.b d_R_sheet_24 (by decide) ?_
          refine lv_icmp_eq (tgt := 36) X.x X.b d_R_sheet_26 (by decide) (fun c26 => ?_) (fun c26 => ?_)
          · refine lv_iload_n X.x X.b d_R_sheet_36 rfl (lv_at hl 3 rfl) ?_
            refine lv_if_ge (tgt := 48) X.x X.b d_R_sheet_37 (by decide) (fun c37 => ?_) (fun c37 => ?_)
            · refine lv_iload_n X.x X.b d_R_sheet_48 rfl (lv_at hl 3 rfl) ?_
              refine lv_bipush (v := nI 40) X.x X.b d_R_sheet_49 (by decide) ?_
              refine lv_icmp_le (tgt := 61) X.x X.b d_R_sheet_51 (by decide) (fun c51 => ?_) (fun c51 => ?_)
              · exact absurd hf (Int32.not_lt.mpr c51)
              · refine lv_aload_n X.x X.b d_R_sheet_54 rfl (lv_at hl 0 rfl) ?_
                refine lv_ldc (v := (-1000001)) X.x X.b X.ow (X.ts _ mw_767) d_R_sheet_55 ?_
                refine q_cvi X (c_R_finding_0 l E S ψ (by rw [hψ])) hW (q_recv X hW ds_R rfl) ok_R_finding mw_768 ⟨by decide, by decide⟩ (As := [.int (-1000001)]) rfl rfl (Nat.le_of_ble_eq_true rfl) (lv := [(0, .ref (eA E 70)), (1, .int (nI j)), (2, .int b), (3, .int z)]) hl ⟨Nat.le_refl 0, Nat.le_refl 0⟩ d_R_sheet_57 (fun H locs hW => ?_)
                have hW : qWH E (qr S 19 (fnR ψ 0)) s H locs := hW
                exact q_zret X rfl hW ⟨rfl, rfl⟩ d_R_sheet_60
            · exact absurd (Int32.not_le.mp c37) hz
          · exact absurd hk (by rintro (z | z | z | z); exact c8 z; exact c14 z; exact c20 z; exact c26 z)
set_option maxHeartbeats 1000000 in
set_option maxRecDepth 20000 in
theorem c_R_sheet_b (l : Launch) (E : QE) (S : QM) (ω ζ η ψ : Nat → Int32) (hω : S 22 = ω) (hζ : S 23 = ζ) (hη : S 24 = η) (hψ : S 19 = ψ) (x b z : Int32) (h : ¬ (inR 0 3 x ∧ (b = 0 ∨ b = nI 8 ∨ b = nI 16 ∨ b = nI 32))) : qCI E l y_R_sheet prog_7_method_100_code 5 .int 3 [.ref (eA E 70), .int x, .int b, .int z] S (-1000001) (qr S 19 (fnR ψ 0)) := by
  refine qCI_of (by decide) (Nat.le_of_ble_eq_true rfl) (fun p e s m below meth c ls X hW hl => ?_)
  have hl : lv_has ls 5 [(0, .ref (eA E 70)), (1, .int x), (2, .int b), (3, .int z)] := hl
  refine lv_iload_n X.x X.b d_R_sheet_0 rfl (lv_at hl 1 rfl) ?_
  refine q_csi X (c_R_isSheet l E S x) hW ok_R_isSheet mw_1033 ⟨by decide, by decide⟩ (As := [.int x]) rfl rfl (Nat.le_of_ble_eq_true rfl) (lv := [(0, .ref (eA E 70)), (1, .int x), (2, .int b), (3, .int z)]) hl ⟨Nat.le_refl 0, Nat.le_refl 0⟩ d_R_sheet_1 (fun H locs hW => ?_)
  refine lv_if_eq (tgt := 29) X.x X.b d_R_sheet_4 (by decide) (fun c4 => ?_) (fun c4 => ?_)
  · have c4 := b2i_e c4
    refine lv_aload_n X.x X.b d_R_sheet_29 rfl (lv_at hl 0 rfl) ?_
    refine lv_ldc (v := (-1000001)) X.x X.b X.ow (X.ts _ mw_767) d_R_sheet_30 ?_
    refine q_cvi X (c_R_finding_0 l E S ψ (by rw [hψ])) hW (q_recv X hW ds_R rfl) ok_R_finding mw_768 ⟨by decide, by decide⟩ (As := [.int (-1000001)]) rfl rfl (Nat.le_of_ble_eq_true rfl) (lv := [(0, .ref (eA E 70)), (1, .int x), (2, .int b), (3, .int z)]) hl ⟨Nat.le_refl 0, Nat.le_refl 0⟩ d_R_sheet_32 (fun H locs hW => ?_)
    have hW : qWH E (qr S 19 (fnR ψ 0)) s H locs := hW
    exact q_zret X rfl hW ⟨rfl, rfl⟩ d_R_sheet_35
  · have c4 := b2i_n c4
    refine lv_iload_n X.x X.b d_R_sheet_7 rfl (lv_at hl 2 rfl) ?_
    refine lv_if_eq (tgt := 36) X.x X.b d_R_sheet_8 (by decide) (fun c8 => ?_) (fun c8 => ?_)
    · exact absurd ⟨c4, Or.inl c8⟩ h
    · refine lv_iload_n X.x X.b d_R_sheet_11 rfl (lv_at hl 2 rfl) ?_
      refine lv_bipush (v := nI 8) X.x X.b d_R_sheet_12 (by decide) ?_
      refine lv_icmp_eq (tgt := 36) X.x X.b d_R_sheet_14 (by decide) (fun c14 => ?_) (fun c14 => ?_)
      · exact absurd ⟨c4, Or.inr (Or.inl c14)⟩ h
      · refine lv_iload_n X.x X.b d_R_sheet_17 rfl (lv_at hl 2 rfl) ?_
        refine lv_bipush (v := nI 16) X.x X.b d_R_sheet_18 (by decide) ?_
        refine lv_icmp_eq (tgt := 36) X.x X.b d_R_sheet_20 (by decide) (fun c20 => ?_) (fun c20 => ?_)
        · exact absurd ⟨c4, Or.inr (Or.inr (Or.inl c20))⟩ h
        · refine lv_iload_n X.x X.b d_R_sheet_23 rfl (lv_at hl 2 rfl) ?_
          refine lv_bipush (v := nI 32) X.x X.b d_R_sheet_24 (by decide) ?_
          refine lv_icmp_eq (tgt := 36) X.x X.b d_R_sheet_26 (by decide) (fun c26 => ?_) (fun c26 => ?_)
          · exact absurd ⟨c4, Or.inr (Or.inr (Or.inr c26))⟩ h
          · refine lv_aload_n X.x X.b d_R_sheet_29 rfl (lv_at hl 0 rfl) ?_
            refine lv_ldc (v := (-1000001)) X.x X.b X.ow (X.ts _ mw_767) d_R_sheet_30 ?_
            refine q_cvi X (c_R_finding_0 l E S ψ (by rw [hψ])) hW (q_recv X hW ds_R rfl) ok_R_finding mw_768 ⟨by decide, by decide⟩ (As := [.int (-1000001)]) rfl rfl (Nat.le_of_ble_eq_true rfl) (lv := [(0, .ref (eA E 70)), (1, .int x), (2, .int b), (3, .int z)]) hl ⟨Nat.le_refl 0, Nat.le_refl 0⟩ d_R_sheet_32 (fun H locs hW => ?_)
            have hW : qWH E (qr S 19 (fnR ψ 0)) s H locs := hW
            exact q_zret X rfl hW ⟨rfl, rfl⟩ d_R_sheet_35
set_option maxHeartbeats 1000000 in
set_option maxRecDepth 20000 in
theorem c_R_write_g (l : Launch) (E : QE) (S : QM) (ω ζ η ψ : Nat → Int32) (hω : S 22 = ω) (hζ : S 23 = ζ) (hη : S 24 = η) (hψ : S 19 = ψ) (j sz : Nat) (hj : j < 4) (hs2 : ζ j = nI sz) (hsz : sz ≤ 40) (hb : ¬ ω j = 0) (i : Nat) (v : Int32) (hi : i < sz) : qCI E l y_R_write prog_7_method_101_code 4 .int 3 [.ref (eA E 70), .int (nI j), .int (nI i), .int v] S (nI 1) (qr S 24 (upd η (40 * j + i) (cutS (ω j) v))) := by
  refine qCI_of (by decide) (Nat.le_of_ble_eq_true rfl) (fun p e s m below meth c ls X hW hl => ?_)
  have hl : lv_has ls 4 [(0, .ref (eA E 70)), (1, .int (nI j)), (2, .int (nI i)), (3, .int v)] := hl
  refine lv_iload_n X.x X.b d_R_write_0 rfl (lv_at hl 1 rfl) ?_
  refine q_csi X (c_R_isSheet l E S (nI j)) hW ok_R_isSheet mw_1033 ⟨by decide, by decide⟩ (As := [.int (nI j)]) rfl rfl (Nat.le_of_ble_eq_true rfl) (lv := [(0, .ref (eA E 70)), (1, .int (nI j)), (2, .int (nI i)), (3, .int v)]) hl ⟨Nat.le_refl 0, Nat.le_refl 0⟩ d_R_write_1 (fun H locs hW => ?_)
  refine lv_if_ne (tgt := 14) X.x X.b d_R_write_4 (by decide) (fun c4 => ?_) (fun c4 => ?_)
  · have c4 := b2i_n c4
    have c4 := (inR_i (by omega) (by decide)).mp c4
    refine lv_aload_n X.x X.b d_R_write_14 rfl (lv_at hl 0 rfl) ?_
    refine q_getr X hW qj4 rfl _ ds_R 17 (by decide) mw_703 rfl (c1 := 78) rfl d_R_write_15 ?_
    refine lv_iload_n X.x X.b d_R_write_18 rfl (lv_at hl 1 rfl) ?_
    refine g_ald X hW ds_78 (q_in (by omega) (by decide)) (p0 := j) (q_tn (by omega) (by omega)) (v := ω j) (by rw [hω]) d_R_write_19 ?_
    refine lv_if_ne (tgt := 30) X.x X.b d_R_write_20 (by decide) (fun c20 => ?_) (fun c20 => ?_)
    · refine lv_iload_n X.x X.b d_R_write_30 rfl (lv_at hl 2 rfl) ?_
      refine lv_iconst (v := nI 0) X.x X.b d_R_write_31 (by decide) ?_
      refine lv_aload_n X.x X.b d_R_write_32 rfl (lv_at hl 0 rfl) ?_
      refine q_getr X hW qj4 rfl _ ds_R 18 (by decide) mw_704 rfl (c1 := 79) rfl d_R_write_33 ?_
      refine lv_iload_n X.x X.b d_R_write_36 rfl (lv_at hl 1 rfl) ?_
      refine g_ald X hW ds_79 (q_in (by omega) (by decide)) (p0 := j) (q_tn (by omega) (by omega)) (v := ζ j) (by rw [hζ]) d_R_write_37 ?_
      rw [hs2]
      refine lv_iconst (v := nI 1) X.x X.b d_R_write_38 (by decide) ?_
      refine lv_isub X.x X.b d_R_write_39 ?_
      refine q_csi X (c_R_within l E S (nI i) (nI 0) ((nI sz) - (nI 1))) hW ok_R_within mw_757 ⟨by decide, by decide⟩ (As := [.int (nI i), .int (nI 0), .int ((nI sz) - (nI 1))]) rfl rfl (Nat.le_of_ble_eq_true rfl) (lv := [(0, .ref (eA E 70)), (1, .int (nI j)), (2, .int (nI i)), (3, .int v)]) hl ⟨Nat.le_refl 0, Nat.le_refl 0⟩ d_R_write_40 (fun H locs hW => ?_)
      refine lv_if_ne (tgt := 53) X.x X.b d_R_write_43 (by decide) (fun c43 => ?_) (fun c43 => ?_)
      · have c43 := b2i_n c43
        refine lv_aload_n X.x X.b d_R_write_53 rfl (lv_at hl 0 rfl) ?_
        refine q_getr X hW qj4 rfl _ ds_R 19 (by decide) mw_705 rfl (c1 := 80) rfl d_R_write_54 ?_
        refine lv_bipush (v := nI 40) X.x X.b d_R_write_57 (by decide) ?_
        refine lv_iload_n X.x X.b d_R_write_59 rfl (lv_at hl 1 rfl) ?_
        refine lv_imul X.x X.b d_R_write_60 ?_
        rw [pk_mul]
        refine lv_iload_n X.x X.b d_R_write_61 rfl (lv_at hl 2 rfl) ?_
        refine lv_iadd X.x X.b d_R_write_62 ?_
        rw [nI_add]
        refine lv_iload_n X.x X.b d_R_write_63 rfl (lv_at hl 3 rfl) ?_
        refine lv_aload_n X.x X.b d_R_write_64 rfl (lv_at hl 0 rfl) ?_
        refine q_getr X hW qj4 rfl _ ds_R 17 (by decide) mw_703 rfl (c1 := 78) rfl d_R_write_65 ?_
        refine lv_iload_n X.x X.b d_R_write_68 rfl (lv_at hl 1 rfl) ?_
        refine g_ald X hW ds_78 (q_in (by omega) (by decide)) (p0 := j) (q_tn (by omega) (by omega)) (v := ω j) (by rw [hω]) d_R_write_69 ?_
        refine q_csi X (c_R_cutTo l E S v (ω j)) hW ok_R_cutTo mw_1155 ⟨by decide, by decide⟩ (As := [.int v, .int (ω j)]) rfl rfl (Nat.le_of_ble_eq_true rfl) (lv := [(0, .ref (eA E 70)), (1, .int (nI j)), (2, .int (nI i)), (3, .int v)]) hl ⟨Nat.le_refl 0, Nat.le_refl 0⟩ d_R_write_70 (fun H locs hW => ?_)
        refine g_ast X hW ds_80 (q_in (by omega) (by decide)) (p0 := 40 * j + i) (q_tn (by omega) (by omega)) (ρ := η) (by rw [hη]) d_R_write_73 (fun H locs hW => ?_)
        obtain ⟨r73, er73⟩ : ∃ z, z = upd η (40 * j + i) (cutS (ω j) v) := ⟨_, rfl⟩
        rw [← er73] at hW
        refine lv_iconst (v := nI 1) X.x X.b d_R_write_74 (by decide) ?_
        exact q_zret X rfl hW ⟨rfl, by rw [er73]⟩ d_R_write_75
      · have c43 := b2i_e c43
        exact absurd ⟨nI_pos2 (by omega), ile_sub (by omega) (by omega)⟩ c43
    · exact absurd c20 hb
  · have c4 := b2i_e c4
    have c4 := mt (inR_i (by omega) (by decide)).mpr c4
    omega
set_option maxHeartbeats 1000000 in
set_option maxRecDepth 20000 in
theorem c_R_write_i (l : Launch) (E : QE) (S : QM) (ω ζ η ψ : Nat → Int32) (hω : S 22 = ω) (hζ : S 23 = ζ) (hη : S 24 = η) (hψ : S 19 = ψ) (j sz : Nat) (hj : j < 4) (hs2 : ζ j = nI sz) (hsz : sz ≤ 40) (hb : ¬ ω j = 0) (x v : Int32) (hx : ¬ (nI 0 ≤ x ∧ x ≤ nI sz - nI 1)) : qCI E l y_R_write prog_7_method_101_code 4 .int 3 [.ref (eA E 70), .int (nI j), .int x, .int v] S (-1000001) (qr S 19 (fnR ψ 0)) := by
  refine qCI_of (by decide) (Nat.le_of_ble_eq_true rfl) (fun p e s m below meth c ls X hW hl => ?_)
  have hl : lv_has ls 4 [(0, .ref (eA E 70)), (1, .int (nI j)), (2, .int x), (3, .int v)] := hl
  refine lv_iload_n X.x X.b d_R_write_0 rfl (lv_at hl 1 rfl) ?_
  refine q_csi X (c_R_isSheet l E S (nI j)) hW ok_R_isSheet mw_1033 ⟨by decide, by decide⟩ (As := [.int (nI j)]) rfl rfl (Nat.le_of_ble_eq_true rfl) (lv := [(0, .ref (eA E 70)), (1, .int (nI j)), (2, .int x), (3, .int v)]) hl ⟨Nat.le_refl 0, Nat.le_refl 0⟩ d_R_write_1 (fun H locs hW => ?_)
  refine lv_if_ne (tgt := 14) X.x X.b d_R_write_4 (by decide) (fun c4 => ?_) (fun c4 => ?_)
  · have c4 := b2i_n c4
    have c4 := (inR_i (by omega) (by decide)).mp c4
    refine lv_aload_n X.x X.b d_R_write_14 rfl (lv_at hl 0 rfl) ?_
    refine q_getr X hW qj4 rfl _ ds_R 17 (by decide) mw_703 rfl (c1 := 78) rfl d_R_write_15 ?_
    refine lv_iload_n X.x X.b d_R_write_18 rfl (lv_at hl 1 rfl) ?_
    refine g_ald X hW ds_78 (q_in (by omega) (by decide)) (p0 := j) (q_tn (by omega) (by omega)) (v := ω j) (by rw [hω]) d_R_write_19 ?_
    refine lv_if_ne (tgt := 30) X.x X.b d_R_write_20 (by decide) (fun c20 => ?_) (fun c20 => ?_)
    · refine lv_iload_n X.x X.b d_R_write_30 rfl (lv_at hl 2 rfl) ?_
      refine lv_iconst (v := nI 0) X.x X.b d_R_write_31 (by decide) ?_
      refine lv_aload_n X.x X.b d_R_write_32 rfl (lv_at hl 0 rfl) ?_
      refine q_getr X hW qj4 rfl _ ds_R 18 (by decide) mw_704 rfl (c1 := 79) rfl d_R_write_33 ?_
      refine lv_iload_n X.x X.b d_R_write_36 rfl (lv_at hl 1 rfl) ?_
      refine g_ald X hW ds_79 (q_in (by omega) (by decide)) (p0 := j) (q_tn (by omega) (by omega)) (v := ζ j) (by rw [hζ]) d_R_write_37 ?_
      rw [hs2]
      refine lv_iconst (v := nI 1) X.x X.b d_R_write_38 (by decide) ?_
      refine lv_isub X.x X.b d_R_write_39 ?_
      refine q_csi X (c_R_within l E S x (nI 0) ((nI sz) - (nI 1))) hW ok_R_within mw_757 ⟨by decide, by decide⟩ (As := [.int x, .int (nI 0), .int ((nI sz) - (nI 1))]) rfl rfl (Nat.le_of_ble_eq_true rfl) (lv := [(0, .ref (eA E 70)), (1, .int (nI j)), (2, .int x), (3, .int v)]) hl ⟨Nat.le_refl 0, Nat.le_refl 0⟩ d_R_write_40 (fun H locs hW => ?_)
      refine lv_if_ne (tgt := 53) X.x X.b d_R_write_43 (by decide) (fun c43 => ?_) (fun c43 => ?_)
      · have c43 := b2i_n c43
        exact absurd c43 hx
      · have c43 := b2i_e c43
        refine lv_aload_n X.x X.b d_R_write_46 rfl (lv_at hl 0 rfl) ?_
        refine lv_ldc (v := (-1000001)) X.x X.b X.ow (X.ts _ mw_767) d_R_write_47 ?_
        refine q_cvi X (c_R_finding_0 l E S ψ (by rw [hψ])) hW (q_recv X hW ds_R rfl) ok_R_finding mw_768 ⟨by decide, by decide⟩ (As := [.int (-1000001)]) rfl rfl (Nat.le_of_ble_eq_true rfl) (lv := [(0, .ref (eA E 70)), (1, .int (nI j)), (2, .int x), (3, .int v)]) hl ⟨Nat.le_refl 0, Nat.le_refl 0⟩ d_R_write_49 (fun H locs hW => ?_)
        have hW : qWH E (qr S 19 (fnR ψ 0)) s H locs := hW
        exact q_zret X rfl hW ⟨rfl, rfl⟩ d_R_write_52
    · exact absurd c20 hb
  · have c4 := b2i_e c4
    have c4 := mt (inR_i (by omega) (by decide)).mpr c4
    omega
set_option maxHeartbeats 1000000 in
set_option maxRecDepth 20000 in
theorem c_R_write_m (l : Launch) (E : QE) (S : QM) (ω ζ η ψ : Nat → Int32) (hω : S 22 = ω) (hζ : S 23 = ζ) (hη : S 24 = η) (hψ : S 19 = ψ) (j : Nat) (hj : j < 4) (hb : ω j = 0) (x v : Int32) : qCI E l y_R_write prog_7_method_101_code 4 .int 3 [.ref (eA E 70), .int (nI j), .int x, .int v] S (-1000006) (qr S 19 (fnR ψ 5)) := by
  refine qCI_of (by decide) (Nat.le_of_ble_eq_true rfl) (fun p e s m below meth c ls X hW hl => ?_)
  have hl : lv_has ls 4 [(0, .ref (eA E 70)), (1, .int (nI j)), (2, .int x), (3, .int v)] := hl
  refine lv_iload_n X.x X.b d_R_write_0 rfl (lv_at hl 1 rfl) ?_
  refine q_csi X (c_R_isSheet l E S (nI j)) hW ok_R_isSheet mw_1033 ⟨by decide, by decide⟩ (As := [.int (nI j)]) rfl rfl (Nat.le_of_ble_eq_true rfl) (lv := [(0, .ref (eA E 70)), (1, .int (nI j)), (2, .int x), (3, .int v)]) hl ⟨Nat.le_refl 0, Nat.le_refl 0⟩ d_R_write_1 (fun H locs hW => ?_)
  refine lv_if_ne (tgt := 14) X.x X.b d_R_write_4 (by decide) (fun c4 => ?_) (fun c4 => ?_)
  · have c4 := b2i_n c4
    have c4 := (inR_i (by omega) (by decide)).mp c4
    refine lv_aload_n X.x X.b d_R_write_14 rfl (lv_at hl 0 rfl) ?_
    refine q_getr X hW qj4 rfl _ ds_R 17 (by decide) mw_703 rfl (c1 := 78) rfl d_R_write_15 ?_
    refine lv_iload_n X.x X.b d_R_write_18 rfl (lv_at hl 1 rfl) ?_
    refine g_ald X hW ds_78 (q_in (by omega) (by decide)) (p0 := j) (q_tn (by omega) (by omega)) (v := ω j) (by rw [hω]) d_R_write_19 ?_
    refine lv_if_ne (tgt := 30) X.x X.b d_R_write_20 (by decide) (fun c20 => ?_) (fun c20 => ?_)
    · exact absurd hb c20
    · refine lv_aload_n X.x X.b d_R_write_23 rfl (lv_at hl 0 rfl) ?_
      refine lv_ldc (v := (-1000006)) X.x X.b X.ow (X.ts _ mw_1036) d_R_write_24 ?_
      refine q_cvi X (c_R_finding_5 l E S ψ (by rw [hψ])) hW (q_recv X hW ds_R rfl) ok_R_finding mw_768 ⟨by decide, by decide⟩ (As := [.int (-1000006)]) rfl rfl (Nat.le_of_ble_eq_true rfl) (lv := [(0, .ref (eA E 70)), (1, .int (nI j)), (2, .int x), (3, .int v)]) hl ⟨Nat.le_refl 0, Nat.le_refl 0⟩ d_R_write_26 (fun H locs hW => ?_)
      have hW : qWH E (qr S 19 (fnR ψ 5)) s H locs := hW
      exact q_zret X rfl hW ⟨rfl, rfl⟩ d_R_write_29
  · have c4 := b2i_e c4
    have c4 := mt (inR_i (by omega) (by decide)).mpr c4
    omega
set_option maxHeartbeats 1000000 in
set_option maxRecDepth 20000 in
theorem c_R_write_b (l : Launch) (E : QE) (S : QM) (ω ζ η ψ : Nat → Int32) (hω : S 22 = ω) (hζ : S 23 = ζ) (hη : S 24 = η) (hψ : S 19 = ψ) (x y v : Int32) (h : ¬ inR 0 3 x) : qCI E l y_R_write prog_7_method_101_code 4 .int 3 [.ref (eA E 70), .int x, .int y, .int v] S (-1000001) (qr S 19 (fnR ψ 0)) := by
  refine qCI_of (by decide) (Nat.le_of_ble_eq_true rfl) (fun p e s m below meth c ls X hW hl => ?_)
  have hl : lv_has ls 4 [(0, .ref (eA E 70)), (1, .int x), (2, .int y), (3, .int v)] := hl
  refine lv_iload_n X.x X.b d_R_write_0 rfl (lv_at hl 1 rfl) ?_
  refine q_csi X (c_R_isSheet l E S x) hW ok_R_isSheet mw_1033 ⟨by decide, by decide⟩ (As := [.int x]) rfl rfl (Nat.le_of_ble_eq_true rfl) (lv := [(0, .ref (eA E 70)), (1, .int x), (2, .int y), (3, .int v)]) hl ⟨Nat.le_refl 0, Nat.le_refl 0⟩ d_R_write_1 (fun H locs hW => ?_)
  refine lv_if_ne (tgt := 14) X.x X.b d_R_write_4 (by decide) (fun c4 => ?_) (fun c4 => ?_)
  · have c4 := b2i_n c4
    exact absurd c4 h
  · have c4 := b2i_e c4
    refine lv_aload_n X.x X.b d_R_write_7 rfl (lv_at hl 0 rfl) ?_
    refine lv_ldc (v := (-1000001)) X.x X.b X.ow (X.ts _ mw_767) d_R_write_8 ?_
    refine q_cvi X (c_R_finding_0 l E S ψ (by rw [hψ])) hW (q_recv X hW ds_R rfl) ok_R_finding mw_768 ⟨by decide, by decide⟩ (As := [.int (-1000001)]) rfl rfl (Nat.le_of_ble_eq_true rfl) (lv := [(0, .ref (eA E 70)), (1, .int x), (2, .int y), (3, .int v)]) hl ⟨Nat.le_refl 0, Nat.le_refl 0⟩ d_R_write_10 (fun H locs hW => ?_)
    have hW : qWH E (qr S 19 (fnR ψ 0)) s H locs := hW
    exact q_zret X rfl hW ⟨rfl, rfl⟩ d_R_write_13
set_option maxHeartbeats 1000000 in
set_option maxRecDepth 20000 in
theorem c_R_copy_m (l : Launch) (E : QE) (S : QM) (ω ζ η ψ : Nat → Int32) (hω : S 22 = ω) (hζ : S 23 = ζ) (hη : S 24 = η) (hψ : S 19 = ψ) (j i : Nat) (hj : j < 4) (hi : i < 4) (x y z : Int32) (hb : ω j = 0 ∨ ω i = 0) : qCI E l y_R_copy prog_7_method_102_code 7 .int 3 [.ref (eA E 70), .int (nI j), .int x, .int (nI i), .int y, .int z] S (-1000006) (qr S 19 (fnR ψ 5)) := by
  refine qCI_of (by decide) (Nat.le_of_ble_eq_true rfl) (fun p e s m below meth c ls X hW hl => ?_)
  have hl : lv_has ls 7 [(0, .ref (eA E 70)), (1, .int (nI j)), (2, .int x), (3, .int (nI i)), (4, .int y), (5, .int z)] := hl
  refine lv_iload_n X.x X.b d_R_copy_0 rfl (lv_at hl 1 rfl) ?_
  refine q_csi X (c_R_isSheet l E S (nI j)) hW ok_R_isSheet mw_1033 ⟨by decide, by decide⟩ (As := [.int (nI j)]) rfl rfl (Nat.le_of_ble_eq_true rfl) (lv := [(0, .ref (eA E 70)), (1, .int (nI j)), (2, .int x), (3, .int (nI i)), (4, .int y), (5, .int z)]) hl ⟨Nat.le_refl 0, Nat.le_refl 0⟩ d_R_copy_1 (fun H locs hW => ?_)
  refine lv_if_eq (tgt := 14) X.x X.b d_R_copy_4 (by decide) (fun c4 => ?_) (fun c4 => ?_)
  · have c4 := b2i_e c4
    have c4 := mt (inR_i (by omega) (by decide)).mpr c4
    omega
  · have c4 := b2i_n c4
    have c4 := (inR_i (by omega) (by decide)).mp c4
    refine lv_iload_n X.x X.b d_R_copy_7 rfl (lv_at hl 3 rfl) ?_
    refine q_csi X (c_R_isSheet l E S (nI i)) hW ok_R_isSheet mw_1033 ⟨by decide, by decide⟩ (As := [.int (nI i)]) rfl rfl (Nat.le_of_ble_eq_true rfl) (lv := [(0, .ref (eA E 70)), (1, .int (nI j)), (2, .int x), (3, .int (nI i)), (4, .int y), (5, .int z)]) hl ⟨Nat.le_refl 0, Nat.le_refl 0⟩ d_R_copy_8 (fun H locs hW => ?_)
    refine lv_if_ne (tgt := 21) X.x X.b d_R_copy_11 (by decide) (fun c11 => ?_) (fun c11 => ?_)
    · have c11 := b2i_n c11
      have c11 := (inR_i (by omega) (by decide)).mp c11
      refine lv_aload_n X.x X.b d_R_copy_21 rfl (lv_at hl 0 rfl) ?_
      refine q_getr X hW qj4 rfl _ ds_R 17 (by decide) mw_703 rfl (c1 := 78) rfl d_R_copy_22 ?_
      refine lv_iload_n X.x X.b d_R_copy_25 rfl (lv_at hl 1 rfl) ?_
      refine g_ald X hW ds_78 (q_in (by omega) (by decide)) (p0 := j) (q_tn (by omega) (by omega)) (v := ω j) (by rw [hω]) d_R_copy_26 ?_
      refine lv_if_eq (tgt := 39) X.x X.b d_R_copy_27 (by decide) (fun c27 => ?_) (fun c27 => ?_)
      · refine lv_aload_n X.x X.b d_R_copy_39 rfl (lv_at hl 0 rfl) ?_
        refine lv_ldc (v := (-1000006)) X.x X.b X.ow (X.ts _ mw_1036) d_R_copy_40 ?_
        refine q_cvi X (c_R_finding_5 l E S ψ (by rw [hψ])) hW (q_recv X hW ds_R rfl) ok_R_finding mw_768 ⟨by decide, by decide⟩ (As := [.int (-1000006)]) rfl rfl (Nat.le_of_ble_eq_true rfl) (lv := [(0, .ref (eA E 70)), (1, .int (nI j)), (2, .int x), (3, .int (nI i)), (4, .int y), (5, .int z)]) hl ⟨Nat.le_refl 0, Nat.le_refl 0⟩ d_R_copy_42 (fun H locs hW => ?_)
        have hW : qWH E (qr S 19 (fnR ψ 5)) s H locs := hW
        exact q_zret X rfl hW ⟨rfl, rfl⟩ d_R_copy_45
      · refine lv_aload_n X.x X.b d_R_copy_30 rfl (lv_at hl 0 rfl) ?_
        refine q_getr X hW qj4 rfl _ ds_R 17 (by decide) mw_703 rfl (c1 := 78) rfl d_R_copy_31 ?_
        refine lv_iload_n X.x X.b d_R_copy_34 rfl (lv_at hl 3 rfl) ?_
        refine g_ald X hW ds_78 (q_in (by omega) (by decide)) (p0 := i) (q_tn (by omega) (by omega)) (v := ω i) (by rw [hω]) d_R_copy_35 ?_
        refine lv_if_ne (tgt := 46) X.x X.b d_R_copy_36 (by decide) (fun c36 => ?_) (fun c36 => ?_)
        · exact absurd hb (by rintro (q | q); exact c27 q; exact c36 q)
        · refine lv_aload_n X.x X.b d_R_copy_39 rfl (lv_at hl 0 rfl) ?_
          refine lv_ldc (v := (-1000006)) X.x X.b X.ow (X.ts _ mw_1036) d_R_copy_40 ?_
          refine q_cvi X (c_R_finding_5 l E S ψ (by rw [hψ])) hW (q_recv X hW ds_R rfl) ok_R_finding mw_768 ⟨by decide, by decide⟩ (As := [.int (-1000006)]) rfl rfl (Nat.le_of_ble_eq_true rfl) (lv := [(0, .ref (eA E 70)), (1, .int (nI j)), (2, .int x), (3, .int (nI i)), (4, .int y), (5, .int z)]) hl ⟨Nat.le_refl 0, Nat.le_refl 0⟩ d_R_copy_42 (fun H locs hW => ?_)
          have hW : qWH E (qr S 19 (fnR ψ 5)) s H locs := hW
          exact q_zret X rfl hW ⟨rfl, rfl⟩ d_R_copy_45
    · have c11 := b2i_e c11
      have c11 := mt (inR_i (by omega) (by decide)).mpr c11
      omega
set_option maxHeartbeats 1000000 in
set_option maxRecDepth 20000 in
theorem c_R_copy_k (l : Launch) (E : QE) (S : QM) (ω ζ η ψ : Nat → Int32) (hω : S 22 = ω) (hζ : S 23 = ζ) (hη : S 24 = η) (hψ : S 19 = ψ) (j i : Nat) (hj : j < 4) (hi : i < 4) (x y z : Int32) (hb : ¬ ω j = 0) (hc : ¬ ω i = 0) (hd : ¬ ω j = ω i) : qCI E l y_R_copy prog_7_method_102_code 7 .int 3 [.ref (eA E 70), .int (nI j), .int x, .int (nI i), .int y, .int z] S (-1000003) (qr S 19 (fnR ψ 2)) := by
  refine qCI_of (by decide) (Nat.le_of_ble_eq_true rfl) (fun p e s m below meth c ls X hW hl => ?_)
  have hl : lv_has ls 7 [(0, .ref (eA E 70)), (1, .int (nI j)), (2, .int x), (3, .int (nI i)), (4, .int y), (5, .int z)] := hl
  refine lv_iload_n X.x X.b d_R_copy_0 rfl (lv_at hl 1 rfl) ?_
  refine q_csi X (c_R_isSheet l E S (nI j)) hW ok_R_isSheet mw_1033 ⟨by decide, by decide⟩ (As := [.int (nI j)]) rfl rfl (Nat.le_of_ble_eq_true rfl) (lv := [(0, .ref (eA E 70)), (1, .int (nI j)), (2, .int x), (3, .int (nI i)), (4, .int y), (5, .int z)]) hl ⟨Nat.le_refl 0, Nat.le_refl 0⟩ d_R_copy_1 (fun H locs hW => ?_)
  refine lv_if_eq (tgt := 14) X.x X.b d_R_copy_4 (by decide) (fun c4 => ?_) (fun c4 => ?_)
  · have c4 := b2i_e c4
    have c4 := mt (inR_i (by omega) (by decide)).mpr c4
    omega
  · have c4 := b2i_n c4
    have c4 := (inR_i (by omega) (by decide)).mp c4
    refine lv_iload_n X.x X.b d_R_copy_7 rfl (lv_at hl 3 rfl) ?_
    refine q_csi X (c_R_isSheet l E S (nI i)) hW ok_R_isSheet mw_1033 ⟨by decide, by decide⟩ (As := [.int (nI i)]) rfl rfl (Nat.le_of_ble_eq_true rfl) (lv := [(0, .ref (eA E 70)), (1, .int (nI j)), (2, .int x), (3, .int (nI i)), (4, .int y), (5, .int z)]) hl ⟨Nat.le_refl 0, Nat.le_refl 0⟩ d_R_copy_8 (fun H locs hW => ?_)
    refine lv_if_ne (tgt := 21) X.x X.b d_R_copy_11 (by decide) (fun c11 => ?_) (fun c11 => ?_)
    · have c11 := b2i_n c11
      have c11 := (inR_i (by omega) (by decide)).mp c11
      refine lv_aload_n X.x X.b d_R_copy_21 rfl (lv_at hl 0 rfl) ?_
      refine q_getr X hW qj4 rfl _ ds_R 17 (by decide) mw_703 rfl (c1 := 78) rfl d_R_copy_22 ?_
      refine lv_iload_n X.x X.b d_R_copy_25 rfl (lv_at hl 1 rfl) ?_
      refine g_ald X hW ds_78 (q_in (by omega) (by decide)) (p0 := j) (q_tn (by omega) (by omega)) (v := ω j) (by rw [hω]) d_R_copy_26 ?_
      refine lv_if_eq (tgt := 39) X.x X.b d_R_copy_27 (by decide) (fun c27 => ?_) (fun c27 => ?_)
      · exact absurd c27 hb
      · refine lv_aload_n X.x X.b d_R_copy_30 rfl (lv_at hl 0 rfl) ?_
        refine q_getr X hW qj4 rfl _ ds_R 17 (by decide) mw_703 rfl (c1 := 78) rfl d_R_copy_31 ?_
        refine lv_iload_n X.x X.b d_R_copy_34 rfl (lv_at hl 3 rfl) ?_
        refine g_ald X hW ds_78 (q_in (by omega) (by decide)) (p0 := i) (q_tn (by omega) (by omega)) (v := ω i) (by rw [hω]) d_R_copy_35 ?_
        refine lv_if_ne (tgt := 46) X.x X.b d_R_copy_36 (by decide) (fun c36 => ?_) (fun c36 => ?_)
        · refine lv_aload_n X.x X.b d_R_copy_46 rfl (lv_at hl 0 rfl) ?_
          refine q_getr X hW qj4 rfl _ ds_R 17 (by decide) mw_703 rfl (c1 := 78) rfl d_R_copy_47 ?_
          refine lv_iload_n X.x X.b d_R_copy_50 rfl (lv_at hl 1 rfl) ?_
          refine g_ald X hW ds_78 (q_in (by omega) (by decide)) (p0 := j) (q_tn (by omega) (by omega)) (v := ω j) (by rw [hω]) d_R_copy_51 ?_
          refine lv_aload_n X.x X.b d_R_copy_52 rfl (lv_at hl 0 rfl) ?_
          refine q_getr X hW qj4 rfl _ ds_R 17 (by decide) mw_703 rfl (c1 := 78) rfl d_R_copy_53 ?_
          refine lv_iload_n X.x X.b d_R_copy_56 rfl (lv_at hl 3 rfl) ?_
          refine g_ald X hW ds_78 (q_in (by omega) (by decide)) (p0 := i) (q_tn (by omega) (by omega)) (v := ω i) (by rw [hω]) d_R_copy_57 ?_
          refine lv_icmp_eq (tgt := 69) X.x X.b d_R_copy_58 (by decide) (fun c58 => ?_) (fun c58 => ?_)
          · exact absurd c58 hd
          · refine lv_aload_n X.x X.b d_R_copy_61 rfl (lv_at hl 0 rfl) ?_
            refine lv_ldcw (v := (-1000003)) X.x X.b X.ow (X.ts _ mw_1145) d_R_copy_62 ?_
            refine q_cvi X (c_R_finding_2 l E S ψ (by rw [hψ])) hW (q_recv X hW ds_R rfl) ok_R_finding mw_768 ⟨by decide, by decide⟩ (As := [.int (-1000003)]) rfl rfl (Nat.le_of_ble_eq_true rfl) (lv := [(0, .ref (eA E 70)), (1, .int (nI j)), (2, .int x), (3, .int (nI i)), (4, .int y), (5, .int z)]) hl ⟨Nat.le_refl 0, Nat.le_refl 0⟩ d_R_copy_65 (fun H locs hW => ?_)
            have hW : qWH E (qr S 19 (fnR ψ 2)) s H locs := hW
            exact q_zret X rfl hW ⟨rfl, rfl⟩ d_R_copy_68
        · exact absurd c36 hc
    · have c11 := b2i_e c11
      have c11 := mt (inR_i (by omega) (by decide)).mpr c11
      omega
set_option maxHeartbeats 1000000 in
set_option maxRecDepth 20000 in
theorem c_R_copy_s (l : Launch) (E : QE) (S : QM) (ω ζ η ψ : Nat → Int32) (hω : S 22 = ω) (hζ : S 23 = ζ) (hη : S 24 = η) (hψ : S 19 = ψ) (j i : Nat) (hj : j < 4) (hi : i < 4) (x y z : Int32) (hb : ¬ ω j = 0) (hc : ¬ ω i = 0) (hd : ω j = ω i) (sz tz : Nat) (hs2 : ζ j = nI sz) (ht2 : ζ i = nI tz) (hsz : sz ≤ 40) (htz : tz ≤ 40) (he : ¬ (hasS x z (nI sz) ∧ hasS y z (nI tz))) : qCI E l y_R_copy prog_7_method_102_code 7 .int 3 [.ref (eA E 70), .int (nI j), .int x, .int (nI i), .int y, .int z] S (-1000001) (qr S 19 (fnR ψ 0)) := by
  refine qCI_of (by decide) (Nat.le_of_ble_eq_true rfl) (fun p e s m below meth c ls X hW hl => ?_)
  have hl : lv_has ls 7 [(0, .ref (eA E 70)), (1, .int (nI j)), (2, .int x), (3, .int (nI i)), (4, .int y), (5, .int z)] := hl
  refine lv_iload_n X.x X.b d_R_copy_0 rfl (lv_at hl 1 rfl) ?_
  refine q_csi X (c_R_isSheet l E S (nI j)) hW ok_R_isSheet mw_1033 ⟨by decide, by decide⟩ (As := [.int (nI j)]) rfl rfl (Nat.le_of_ble_eq_true rfl) (lv := [(0, .ref (eA E 70)), (1, .int (nI j)), (2, .int x), (3, .int (nI i)), (4, .int y), (5, .int z)]) hl ⟨Nat.le_refl 0, Nat.le_refl 0⟩ d_R_copy_1 (fun H locs hW => ?_)
  refine lv_if_eq (tgt := 14) X.x X.b d_R_copy_4 (by decide) (fun c4 => ?_) (fun c4 => ?_)
  · have c4 := b2i_e c4
    have c4 := mt (inR_i (by omega) (by decide)).mpr c4
    omega
  · have c4 := b2i_n c4
    have c4 := (inR_i (by omega) (by decide)).mp c4
    refine lv_iload_n X.x X.b d_R_copy_7 rfl (lv_at hl 3 rfl) ?_
    refine q_csi X (c_R_isSheet l E S (nI i)) hW ok_R_isSheet mw_1033 ⟨by decide, by decide⟩ (As := [.int (nI i)]) rfl rfl (Nat.le_of_ble_eq_true rfl) (lv := [(0, .ref (eA E 70)), (1, .int (nI j)), (2, .int x), (3, .int (nI i)), (4, .int y), (5, .int z)]) hl ⟨Nat.le_refl 0, Nat.le_refl 0⟩ d_R_copy_8 (fun H locs hW => ?_)
    refine lv_if_ne (tgt := 21) X.x X.b d_R_copy_11 (by decide) (fun c11 => ?_) (fun c11 => ?_)
    · have c11 := b2i_n c11
      have c11 := (inR_i (by omega) (by decide)).mp c11
      refine lv_aload_n X.x X.b d_R_copy_21 rfl (lv_at hl 0 rfl) ?_
      refine q_getr X hW qj4 rfl _ ds_R 17 (by decide) mw_703 rfl (c1 := 78) rfl d_R_copy_22 ?_
      refine lv_iload_n X.x X.b d_R_copy_25 rfl (lv_at hl 1 rfl) ?_
      refine g_ald X hW ds_78 (q_in (by omega) (by decide)) (p0 := j) (q_tn (by omega) (by omega)) (v := ω j) (by rw [hω]) d_R_copy_26 ?_
      refine lv_if_eq (tgt := 39) X.x X.b d_R_copy_27 (by decide) (fun c27 => ?_) (fun c27 => ?_)
      · exact absurd c27 hb
      · refine lv_aload_n X.x X.b d_R_copy_30 rfl (lv_at hl 0 rfl) ?_
        refine q_getr X hW qj4 rfl _ ds_R 17 (by decide) mw_703 rfl (c1 := 78) rfl d_R_copy_31 ?_
        refine lv_iload_n X.x X.b d_R_copy_34 rfl (lv_at hl 3 rfl) ?_
        refine g_ald X hW ds_78 (q_in (by omega) (by decide)) (p0 := i) (q_tn (by omega) (by omega)) (v := ω i) (by rw [hω]) d_R_copy_35 ?_
        refine lv_if_ne (tgt := 46) X.x X.b d_R_copy_36 (by decide) (fun c36 => ?_) (fun c36 => ?_)
        · refine lv_aload_n X.x X.b d_R_copy_46 rfl (lv_at hl 0 rfl) ?_
          refine q_getr X hW qj4 rfl _ ds_R 17 (by decide) mw_703 rfl (c1 := 78) rfl d_R_copy_47 ?_
          refine lv_iload_n X.x X.b d_R_copy_50 rfl (lv_at hl 1 rfl) ?_
          refine g_ald X hW ds_78 (q_in (by omega) (by decide)) (p0 := j) (q_tn (by omega) (by omega)) (v := ω j) (by rw [hω]) d_R_copy_51 ?_
          refine lv_aload_n X.x X.b d_R_copy_52 rfl (lv_at hl 0 rfl) ?_
          refine q_getr X hW qj4 rfl _ ds_R 17 (by decide) mw_703 rfl (c1 := 78) rfl d_R_copy_53 ?_
          refine lv_iload_n X.x X.b d_R_copy_56 rfl (lv_at hl 3 rfl) ?_
          refine g_ald X hW ds_78 (q_in (by omega) (by decide)) (p0 := i) (q_tn (by omega) (by omega)) (v := ω i) (by rw [hω]) d_R_copy_57 ?_
          refine lv_icmp_eq (tgt := 69) X.x X.b d_R_copy_58 (by decide) (fun c58 => ?_) (fun c58 => ?_)
          · refine lv_iload_n X.x X.b d_R_copy_69 rfl (lv_at hl 2 rfl) ?_
            refine lv_if_lt (tgt := 118) X.x X.b d_R_copy_70 (by decide) (fun c70 => ?_) (fun c70 => ?_)
            · refine lv_aload_n X.x X.b d_R_copy_118 rfl (lv_at hl 0 rfl) ?_
              refine lv_ldc (v := (-1000001)) X.x X.b X.ow (X.ts _ mw_767) d_R_copy_119 ?_
              refine q_cvi X (c_R_finding_0 l E S ψ (by rw [hψ])) hW (q_recv X hW ds_R rfl) ok_R_finding mw_768 ⟨by decide, by decide⟩ (As := [.int (-1000001)]) rfl rfl (Nat.le_of_ble_eq_true rfl) (lv := [(0, .ref (eA E 70)), (1, .int (nI j)), (2, .int x), (3, .int (nI i)), (4, .int y), (5, .int z)]) hl ⟨Nat.le_refl 0, Nat.le_refl 0⟩ d_R_copy_121 (fun H locs hW => ?_)
              have hW : qWH E (qr S 19 (fnR ψ 0)) s H locs := hW
              exact q_zret X rfl hW ⟨rfl, rfl⟩ d_R_copy_124
            · refine lv_iload X.x X.b d_R_copy_73 (lv_at hl 4 rfl) ?_
              refine lv_if_lt (tgt := 118) X.x X.b d_R_copy_75 (by decide) (fun c75 => ?_) (fun c75 => ?_)
              · refine lv_aload_n X.x X.b d_R_copy_118 rfl (lv_at hl 0 rfl) ?_
                refine lv_ldc (v := (-1000001)) X.x X.b X.ow (X.ts _ mw_767) d_R_copy_119 ?_
                refine q_cvi X (c_R_finding_0 l E S ψ (by rw [hψ])) hW (q_recv X hW ds_R rfl) ok_R_finding mw_768 ⟨by decide, by decide⟩ (As := [.int (-1000001)]) rfl rfl (Nat.le_of_ble_eq_true rfl) (lv := [(0, .ref (eA E 70)), (1, .int (nI j)), (2, .int x), (3, .int (nI i)), (4, .int y), (5, .int z)]) hl ⟨Nat.le_refl 0, Nat.le_refl 0⟩ d_R_copy_121 (fun H locs hW => ?_)
                have hW : qWH E (qr S 19 (fnR ψ 0)) s H locs := hW
                exact q_zret X rfl hW ⟨rfl, rfl⟩ d_R_copy_124
              · refine lv_iload X.x X.b d_R_copy_78 (lv_at hl 5 rfl) ?_
                refine lv_if_lt (tgt := 118) X.x X.b d_R_copy_80 (by decide) (fun c80 => ?_) (fun c80 => ?_)
                · refine lv_aload_n X.x X.b d_R_copy_118 rfl (lv_at hl 0 rfl) ?_
                  refine lv_ldc (v := (-1000001)) X.x X.b X.ow (X.ts _ mw_767) d_R_copy_119 ?_
                  refine q_cvi X (c_R_finding_0 l E S ψ (by rw [hψ])) hW (q_recv X hW ds_R rfl) ok_R_finding mw_768 ⟨by decide, by decide⟩ (As := [.int (-1000001)]) rfl rfl (Nat.le_of_ble_eq_true rfl) (lv := [(0, .ref (eA E 70)), (1, .int (nI j)), (2, .int x), (3, .int (nI i)), (4, .int y), (5, .int z)]) hl ⟨Nat.le_refl 0, Nat.le_refl 0⟩ d_R_copy_121 (fun H locs hW => ?_)
                  have hW : qWH E (qr S 19 (fnR ψ 0)) s H locs := hW
                  exact q_zret X rfl hW ⟨rfl, rfl⟩ d_R_copy_124
                · refine lv_iload_n X.x X.b d_R_copy_83 rfl (lv_at hl 2 rfl) ?_
                  refine lv_i2l (v := x.toInt64) X.x X.b d_R_copy_84 rfl ?_
                  refine lv_iload X.x X.b d_R_copy_85 (lv_at hl 5 rfl) ?_
                  refine lv_i2l (v := z.toInt64) X.x X.b d_R_copy_87 rfl ?_
                  refine lv_ladd X.x X.b d_R_copy_88 ?_
                  refine lv_aload_n X.x X.b d_R_copy_89 rfl (lv_at hl 0 rfl) ?_
                  refine q_getr X hW qj4 rfl _ ds_R 18 (by decide) mw_704 rfl (c1 := 79) rfl d_R_copy_90 ?_
                  refine lv_iload_n X.x X.b d_R_copy_93 rfl (lv_at hl 1 rfl) ?_
                  refine g_ald X hW ds_79 (q_in (by omega) (by decide)) (p0 := j) (q_tn (by omega) (by omega)) (v := ζ j) (by rw [hζ]) d_R_copy_94 ?_
                  rw [hs2]
                  refine lv_i2l (v := (nI sz).toInt64) X.x X.b d_R_copy_95 rfl ?_
                  refine W.lcmp X.x X.b d_R_copy_96 ?_
                  refine lv_if_gt (tgt := 118) X.x X.b d_R_copy_97 (by decide) (fun c97 => ?_) (fun c97 => ?_)
                  · refine lv_aload_n X.x X.b d_R_copy_118 rfl (lv_at hl 0 rfl) ?_
                    refine lv_ldc (v := (-1000001)) X.x X.b X.ow (X.ts _ mw_767) d_R_copy_119 ?_
                    refine q_cvi X (c_R_finding_0 l E S ψ (by rw [hψ])) hW (q_recv X hW ds_R rfl) ok_R_finding mw_768 ⟨by decide, by decide⟩ (As := [.int (-1000001)]) rfl rfl (Nat.le_of_ble_eq_true rfl) (lv := [(0, .ref (eA E 70)), (1, .int (nI j)), (2, .int x), (3, .int (nI i)), (4, .int y), (5, .int z)]) hl ⟨Nat.le_refl 0, Nat.le_refl 0⟩ d_R_copy_121 (fun H locs hW => ?_)
                    have hW : qWH E (qr S 19 (fnR ψ 0)) s H locs := hW
                    exact q_zret X rfl hW ⟨rfl, rfl⟩ d_R_copy_124
                  · refine lv_iload X.x X.b d_R_copy_100 (lv_at hl 4 rfl) ?_
                    refine lv_i2l (v := y.toInt64) X.x X.b d_R_copy_102 rfl ?_
                    refine lv_iload X.x X.b d_R_copy_103 (lv_at hl 5 rfl) ?_
                    refine lv_i2l (v := z.toInt64) X.x X.b d_R_copy_105 rfl ?_
                    refine lv_ladd X.x X.b d_R_copy_106 ?_
                    refine lv_aload_n X.x X.b d_R_copy_107 rfl (lv_at hl 0 rfl) ?_
                    refine q_getr X hW qj4 rfl _ ds_R 18 (by decide) mw_704 rfl (c1 := 79) rfl d_R_copy_108 ?_
                    refine lv_iload_n X.x X.b d_R_copy_111 rfl (lv_at hl 3 rfl) ?_
                    refine g_ald X hW ds_79 (q_in (by omega) (by decide)) (p0 := i) (q_tn (by omega) (by omega)) (v := ζ i) (by rw [hζ]) d_R_copy_112 ?_
                    rw [ht2]
                    refine lv_i2l (v := (nI tz).toInt64) X.x X.b d_R_copy_113 rfl ?_
                    refine W.lcmp X.x X.b d_R_copy_114 ?_
                    refine lv_if_le (tgt := 125) X.x X.b d_R_copy_115 (by decide) (fun c115 => ?_) (fun c115 => ?_)
                    · exact absurd ⟨hasL (by omega) c70 c80 (Int32.not_lt.mp c97), hasL (by omega) c75 c80 c115⟩ he
                    · refine lv_aload_n X.x X.b d_R_copy_118 rfl (lv_at hl 0 rfl) ?_
                      refine lv_ldc (v := (-1000001)) X.x X.b X.ow (X.ts _ mw_767) d_R_copy_119 ?_
                      refine q_cvi X (c_R_finding_0 l E S ψ (by rw [hψ])) hW (q_recv X hW ds_R rfl) ok_R_finding mw_768 ⟨by decide, by decide⟩ (As := [.int (-1000001)]) rfl rfl (Nat.le_of_ble_eq_true rfl) (lv := [(0, .ref (eA E 70)), (1, .int (nI j)), (2, .int x), (3, .int (nI i)), (4, .int y), (5, .int z)]) hl ⟨Nat.le_refl 0, Nat.le_refl 0⟩ d_R_copy_121 (fun H locs hW => ?_)
                      have hW : qWH E (qr S 19 (fnR ψ 0)) s H locs := hW
                      exact q_zret X rfl hW ⟨rfl, rfl⟩ d_R_copy_124
          · exact absurd hd c58
        · exact absurd c36 hc
    · have c11 := b2i_e c11
      have c11 := mt (inR_i (by omega) (by decide)).mpr c11
      omega
set_option maxHeartbeats 1000000 in
set_option maxRecDepth 20000 in
theorem c_R_copy_g (l : Launch) (E : QE) (S : QM) (ω ζ η ψ : Nat → Int32) (hω : S 22 = ω) (hζ : S 23 = ζ) (hη : S 24 = η) (hψ : S 19 = ψ) (κ : Nat → Int32) (hκ : S 25 = κ) (j i : Nat) (hj : j < 4) (hi : i < 4) (f q n : Nat) (hb : ¬ ω j = 0) (hc : ¬ ω i = 0) (hd : ω j = ω i) (sz tz : Nat) (hs2 : ζ j = nI sz) (ht2 : ζ i = nI tz) (hsz : sz ≤ 40) (htz : tz ≤ 40) (h4 : f + n ≤ sz) (h5 : q + n ≤ tz) : qCPi E l y_R_copy prog_7_method_102_code 7 .int 3 [.ref (eA E 70), .int (nI j), .int (nI f), .int (nI i), .int (nI q), .int (nI n)] S (nI n) (fun u => ∃ μ, u = qr (qr S 25 μ) 24 (cpy η (40 * j + f) η (40 * i + q) n)) := by
  refine qCPi_of (by decide) (Nat.le_of_ble_eq_true rfl) (fun p e s m below meth c ls X hW hl => ?_)
  have hl : lv_has ls 7 [(0, .ref (eA E 70)), (1, .int (nI j)), (2, .int (nI f)), (3, .int (nI i)), (4, .int (nI q)), (5, .int (nI n))] := hl
  refine lv_iload_n X.x X.b d_R_copy_0 rfl (lv_at hl 1 rfl) ?_
  refine q_csi X (c_R_isSheet l E S (nI j)) hW ok_R_isSheet mw_1033 ⟨by decide, by decide⟩ (As := [.int (nI j)]) rfl rfl (Nat.le_of_ble_eq_true rfl) (lv := [(0, .ref (eA E 70)), (1, .int (nI j)), (2, .int (nI f)), (3, .int (nI i)), (4, .int (nI q)), (5, .int (nI n))]) hl ⟨Nat.le_refl 0, Nat.le_refl 0⟩ d_R_copy_1 (fun H locs hW => ?_)
  refine lv_if_eq (tgt := 14) X.x X.b d_R_copy_4 (by decide) (fun c4 => ?_) (fun c4 => ?_)
  · have c4 := b2i_e c4
    have c4 := mt (inR_i (by omega) (by decide)).mpr c4
    omega
  · have c4 := b2i_n c4
    have c4 := (inR_i (by omega) (by decide)).mp c4
    refine lv_iload_n X.x X.b d_R_copy_7 rfl (lv_at hl 3 rfl) ?_
    refine q_csi X (c_R_isSheet l E S (nI i)) hW ok_R_isSheet mw_1033 ⟨by decide, by decide⟩ (As := [.int (nI i)]) rfl rfl (Nat.le_of_ble_eq_true rfl) (lv := [(0, .ref (eA E 70)), (1, .int (nI j)), (2, .int (nI f)), (3, .int (nI i)), (4, .int (nI q)), (5, .int (nI n))]) hl ⟨Nat.le_refl 0, Nat.le_refl 0⟩ d_R_copy_8 (fun H locs hW => ?_)
    refine lv_if_ne (tgt := 21) X.x X.b d_R_copy_11 (by decide) (fun c11 => ?_) (fun c11 => ?_)
    · have c11 := b2i_n c11
      have c11 := (inR_i (by omega) (by decide)).mp c11
      refine lv_aload_n X.x X.b d_R_copy_21 rfl (lv_at hl 0 rfl) ?_
      refine q_getr X hW qj4 rfl _ ds_R 17 (by decide) mw_703 rfl (c1 := 78) rfl d_R_copy_22 ?_
      refine lv_iload_n X.x X.b d_R_copy_25 rfl (lv_at hl 1 rfl) ?_
      refine g_ald X hW ds_78 (q_in (by omega) (by decide)) (p0 := j) (q_tn (by omega) (by omega)) (v := ω j) (by rw [hω]) d_R_copy_26 ?_
      refine lv_if_eq (tgt := 39) X.x X.b d_R_copy_27 (by decide) (fun c27 => ?_) (fun c27 => ?_)
      · exact absurd c27 hb
      · refine lv_aload_n X.x X.b d_R_copy_30 rfl (lv_at hl 0 rfl) ?_
        refine q_getr X hW qj4 rfl _ ds_R 17 (by decide) mw_703 rfl (c1 := 78) rfl d_R_copy_31 ?_
        refine lv_iload_n X.x X.b d_R_copy_34 rfl (lv_at hl 3 rfl) ?_
        refine g_ald X hW ds_78 (q_in (by omega) (by decide)) (p0 := i) (q_tn (by omega) (by omega)) (v := ω i) (by rw [hω]) d_R_copy_35 ?_
        refine lv_if_ne (tgt := 46) X.x X.b d_R_copy_36 (by decide) (fun c36 => ?_) (fun c36 => ?_)
        · refine lv_aload_n X.x X.b d_R_copy_46 rfl (lv_at hl 0 rfl) ?_
          refine q_getr X hW qj4 rfl _ ds_R 17 (by decide) mw_703 rfl (c1 := 78) rfl d_R_copy_47 ?_
          refine lv_iload_n X.x X.b d_R_copy_50 rfl (lv_at hl 1 rfl) ?_
          refine g_ald X hW ds_78 (q_in (by omega) (by decide)) (p0 := j) (q_tn (by omega) (by omega)) (v := ω j) (by rw [hω]) d_R_copy_51 ?_
          refine lv_aload_n X.x X.b d_R_copy_52 rfl (lv_at hl 0 rfl) ?_
          refine q_getr X hW qj4 rfl _ ds_R 17 (by decide) mw_703 rfl (c1 := 78) rfl d_R_copy_53 ?_
          refine lv_iload_n X.x X.b d_R_copy_56 rfl (lv_at hl 3 rfl) ?_
          refine g_ald X hW ds_78 (q_in (by omega) (by decide)) (p0 := i) (q_tn (by omega) (by omega)) (v := ω i) (by rw [hω]) d_R_copy_57 ?_
          refine lv_icmp_eq (tgt := 69) X.x X.b d_R_copy_58 (by decide) (fun c58 => ?_) (fun c58 => ?_)
          · refine lv_iload_n X.x X.b d_R_copy_69 rfl (lv_at hl 2 rfl) ?_
            refine lv_if_lt (tgt := 118) X.x X.b d_R_copy_70 (by decide) (fun c70 => ?_) (fun c70 => ?_)
            · have c70 : f < 0 := (nI_ltI (a := f) (b := 0) (by omega) (by omega)).mp c70
              omega
            · have c70 : ¬ f < 0 := fun z => c70 ((nI_ltI (a := f) (b := 0) (by omega) (by omega)).mpr z)
              refine lv_iload X.x X.b d_R_copy_73 (lv_at hl 4 rfl) ?_
              refine lv_if_lt (tgt := 118) X.x X.b d_R_copy_75 (by decide) (fun c75 => ?_) (fun c75 => ?_)
              · have c75 : q < 0 := (nI_ltI (a := q) (b := 0) (by omega) (by omega)).mp c75
                omega
              · have c75 : ¬ q < 0 := fun z => c75 ((nI_ltI (a := q) (b := 0) (by omega) (by omega)).mpr z)
                refine lv_iload X.x X.b d_R_copy_78 (lv_at hl 5 rfl) ?_
                refine lv_if_lt (tgt := 118) X.x X.b d_R_copy_80 (by decide) (fun c80 => ?_) (fun c80 => ?_)
                · have c80 : n < 0 := (nI_ltI (a := n) (b := 0) (by omega) (by omega)).mp c80
                  omega
                · have c80 : ¬ n < 0 := fun z => c80 ((nI_ltI (a := n) (b := 0) (by omega) (by omega)).mpr z)
                  refine lv_iload_n X.x X.b d_R_copy_83 rfl (lv_at hl 2 rfl) ?_
                  refine lv_i2l (v := (nI f).toInt64) X.x X.b d_R_copy_84 rfl ?_
                  refine lv_iload X.x X.b d_R_copy_85 (lv_at hl 5 rfl) ?_
                  refine lv_i2l (v := (nI n).toInt64) X.x X.b d_R_copy_87 rfl ?_
                  refine lv_ladd X.x X.b d_R_copy_88 ?_
                  refine lv_aload_n X.x X.b d_R_copy_89 rfl (lv_at hl 0 rfl) ?_
                  refine q_getr X hW qj4 rfl _ ds_R 18 (by decide) mw_704 rfl (c1 := 79) rfl d_R_copy_90 ?_
                  refine lv_iload_n X.x X.b d_R_copy_93 rfl (lv_at hl 1 rfl) ?_
                  refine g_ald X hW ds_79 (q_in (by omega) (by decide)) (p0 := j) (q_tn (by omega) (by omega)) (v := ζ j) (by rw [hζ]) d_R_copy_94 ?_
                  rw [hs2]
                  refine lv_i2l (v := (nI sz).toInt64) X.x X.b d_R_copy_95 rfl ?_
                  refine W.lcmp X.x X.b d_R_copy_96 ?_
                  refine lv_if_gt (tgt := 118) X.x X.b d_R_copy_97 (by decide) (fun c97 => ?_) (fun c97 => ?_)
                  · exact absurd ((lgN (by omega) (by omega) (by omega)).mp c97) (by omega)
                  · refine lv_iload X.x X.b d_R_copy_100 (lv_at hl 4 rfl) ?_
                    refine lv_i2l (v := (nI q).toInt64) X.x X.b d_R_copy_102 rfl ?_
                    refine lv_iload X.x X.b d_R_copy_103 (lv_at hl 5 rfl) ?_
                    refine lv_i2l (v := (nI n).toInt64) X.x X.b d_R_copy_105 rfl ?_
                    refine lv_ladd X.x X.b d_R_copy_106 ?_
                    refine lv_aload_n X.x X.b d_R_copy_107 rfl (lv_at hl 0 rfl) ?_
                    refine q_getr X hW qj4 rfl _ ds_R 18 (by decide) mw_704 rfl (c1 := 79) rfl d_R_copy_108 ?_
                    refine lv_iload_n X.x X.b d_R_copy_111 rfl (lv_at hl 3 rfl) ?_
                    refine g_ald X hW ds_79 (q_in (by omega) (by decide)) (p0 := i) (q_tn (by omega) (by omega)) (v := ζ i) (by rw [hζ]) d_R_copy_112 ?_
                    rw [ht2]
                    refine lv_i2l (v := (nI tz).toInt64) X.x X.b d_R_copy_113 rfl ?_
                    refine W.lcmp X.x X.b d_R_copy_114 ?_
                    refine lv_if_le (tgt := 125) X.x X.b d_R_copy_115 (by decide) (fun c115 => ?_) (fun c115 => ?_)
                    · refine lv_iconst (v := nI 0) X.x X.b d_R_copy_125 (by decide) ?_
                      refine lv_istore (lv' := [(6, .int (nI 0)), (0, .ref (eA E 70)), (1, .int (nI j)), (2, .int (nI f)), (3, .int (nI i)), (4, .int (nI q)), (5, .int (nI n))]) X.x X.b d_R_copy_126 hl (by decide) rfl (fun ls hl => ?_)
                      have hW : qWH E (qr S 25 κ) s H locs := by rw [← hκ, qr_self]; exact hW
                      have loop128 : ∀ (fu128 : Nat) (k : Nat) (μ : Nat → Int32), k ≤ n → (∀ v, v < k → μ v = η (40 * j + f + v)) → n - k < fu128 → ∀ (H : Heap) (locs : List Loc) (ls : Array Slot), qWH E (qr S 25 μ) s H locs → lv_has ls 7 [(6, .int (nI k)), (0, .ref (eA E 70)), (1, .int (nI j)), (2, .int (nI f)), (3, .int (nI i)), (4, .int (nI q)), (5, .int (nI n))] → W p l e (qRm 3) s m ([.ref (eA E 70), .int (nI j), .int (nI f), .int (nI i), .int (nI q), .int (nI n)] : List Value).toArray below meth c H locs 0 0 (MQ below (qQpi E (nI n) (fun u => ∃ μ, u = qr (qr S 25 μ) 24 (cpy η (40 * j + f) η (40 * i + q) n)) s.heap.size) ([.ref (eA E 70), .int (nI j), .int (nI f), .int (nI i), .int (nI q), .int (nI n)] : List Value).toArray s 0 0 (qAA E s.heap.size)) (F0 m 128 ls []) := by
                        intro fu128
                        induction fu128 with
                        | zero =>
                          intro k μ hkn hm hfu
                          exact absurd hfu (Nat.not_lt_zero _)
                        | succ fu128 ih128 =>
                          intro k μ hkn hm hfu H locs ls hW hl
                          refine lv_iload X.x X.b d_R_copy_128 (lv_at hl 0 rfl) ?_
                          refine lv_iload X.x X.b d_R_copy_130 (lv_at hl 6 rfl) ?_
                          refine lv_icmp_ge (tgt := 162) X.x X.b d_R_copy_132 (by decide) (fun c132 => ?_) (fun c132 => ?_)
                          · have c132 : n ≤ k := (nI_leI (a := n) (b := k) (by omega) (by omega)).mp c132
                            have hmF : ∀ v, v < n → μ v = η (40 * j + f + v) := fun v hv => hm v (by omega)
                            refine lv_iconst (v := nI 0) X.x X.b d_R_copy_162 (by decide) ?_
                            refine lv_istore (lv' := [(6, .int (nI 0)), (0, .ref (eA E 70)), (1, .int (nI j)), (2, .int (nI f)), (3, .int (nI i)), (4, .int (nI q)), (5, .int (nI n))]) X.x X.b d_R_copy_163 hl (by decide) rfl (fun ls hl => ?_)
                            have hW : qWH E (qr (qr S 25 μ) 24 η) s H locs := by rw [qr_selfE (by rw [qr_ne (by omega), hη])]; exact hW
                            have loop165 : ∀ (fu165 : Nat) (k : Nat) (κ2 : Nat → Int32), k ≤ n → κ2 = cpy η (40 * j + f) η (40 * i + q) k → n - k < fu165 → ∀ (H : Heap) (locs : List Loc) (ls : Array Slot), qWH E (qr (qr S 25 μ) 24 κ2) s H locs → lv_has ls 7 [(6, .int (nI k)), (0, .ref (eA E 70)), (1, .int (nI j)), (2, .int (nI f)), (3, .int (nI i)), (4, .int (nI q)), (5, .int (nI n))] → W p l e (qRm 3) s m ([.ref (eA E 70), .int (nI j), .int (nI f), .int (nI i), .int (nI q), .int (nI n)] : List Value).toArray below meth c H locs 0 0 (MQ below (qQpi E (nI n) (fun u => ∃ μ, u = qr (qr S 25 μ) 24 (cpy η (40 * j + f) η (40 * i + q) n)) s.heap.size) ([.ref (eA E 70), .int (nI j), .int (nI f), .int (nI i), .int (nI q), .int (nI n)] : List Value).toArray s 0 0 (qAA E s.heap.size)) (F0 m 165 ls []) := by
                              intro fu165
                              induction fu165 with
                              | zero =>
                                intro k κ2 hkn2 hm2 hfu
                                exact absurd hfu (Nat.not_lt_zero _)
                              | succ fu165 ih165 =>
                                intro k κ2 hkn2 hm2 hfu H locs ls hW hl
                                refine lv_iload X.x X.b d_R_copy_165 (lv_at hl 0 rfl) ?_
                                refine lv_iload X.x X.b d_R_copy_167 (lv_at hl 6 rfl) ?_
                                refine lv_icmp_ge (tgt := 200) X.x X.b d_R_copy_169 (by decide) (fun c169 => ?_) (fun c169 => ?_)
                                · have c169 : n ≤ k := (nI_leI (a := n) (b := k) (by omega) (by omega)).mp c169
                                  refine lv_iload X.x X.b d_R_copy_200 (lv_at hl 6 rfl) ?_
                                  exact q_pzret X rfl hW ⟨rfl, ⟨μ, by rw [hm2, show k = n by omega]⟩⟩ d_R_copy_202
                                · have c169 : ¬ n ≤ k := fun z => c169 ((nI_leI (a := n) (b := k) (by omega) (by omega)).mpr z)
                                  refine lv_aload_n X.x X.b d_R_copy_172 rfl (lv_at hl 1 rfl) ?_
                                  refine q_getr X hW qj4 rfl _ ds_R 19 (by decide) mw_705 rfl (c1 := 80) rfl d_R_copy_173 ?_
                                  refine lv_bipush (v := nI 40) X.x X.b d_R_copy_176 (by decide) ?_
                                  refine lv_iload_n X.x X.b d_R_copy_178 rfl (lv_at hl 4 rfl) ?_
                                  refine lv_imul X.x X.b d_R_copy_179 ?_
                                  rw [pk_mul]
                                  refine lv_iload X.x X.b d_R_copy_180 (lv_at hl 5 rfl) ?_
                                  refine lv_iadd X.x X.b d_R_copy_182 ?_
                                  rw [nI_add]
                                  refine lv_iload X.x X.b d_R_copy_183 (lv_at hl 0 rfl) ?_
                                  refine lv_iadd X.x X.b d_R_copy_185 ?_
                                  rw [nI_add]
                                  refine lv_aload_n X.x X.b d_R_copy_186 rfl (lv_at hl 1 rfl) ?_
                                  refine q_getr X hW qj4 rfl _ ds_R 20 (by decide) mw_706 rfl (c1 := 81) rfl d_R_copy_187 ?_
                                  refine lv_iload X.x X.b d_R_copy_190 (lv_at hl 0 rfl) ?_
                                  refine g_ald X hW ds_81 (q_in (by omega) (by decide)) (p0 := k) (q_tn (by omega) (by omega)) (v := μ k) (by rw [qr_ne (by omega), qr_at]) d_R_copy_192 ?_
                                  refine g_ast X hW ds_80 (q_in (by omega) (by decide)) (p0 := 40 * i + q + k) (q_tn (by omega) (by omega)) (ρ := κ2) (by rw [qr_at]) d_R_copy_193 (fun H locs hW => ?_)
                                  obtain ⟨r193, er193⟩ : ∃ z, z = upd κ2 (40 * i + q + k) (μ k) := ⟨_, rfl⟩
                                  rw [← er193] at hW
                                  rw [qr_qr] at hW
                                  refine lv_iinc (v := nI (k + 1)) (lv' := [(6, .int (nI (k + 1))), (0, .ref (eA E 70)), (1, .int (nI j)), (2, .int (nI f)), (3, .int (nI i)), (4, .int (nI q)), (5, .int (nI n))]) X.x X.b d_R_copy_194 hl (k := 0) rfl (by rw [show Int32.ofInt 1 = nI 1 from by decide, nI_add]) (by decide) rfl (fun ls hl => ?_)
                                  refine lv_goto (tgt := 165) X.x X.b d_R_copy_197 (by decide) ?_
                                  exact ih165 (k + 1) r193 (by omega) (by rw [er193, hm2, hmF k (by omega)]; exact cpy_s) (by omega) _ _ _ hW (lv_sub hl [0, 1, 2, 3, 4, 5, 6] rfl)
                            exact loop165 (n - 0 + 1) 0 η (by omega) cpy_0 (Nat.lt_succ_self _) _ _ _ hW (lv_sub hl [0, 1, 2, 3, 4, 5, 6] rfl)
                          · have c132 : ¬ n ≤ k := fun z => c132 ((nI_leI (a := n) (b := k) (by omega) (by omega)).mpr z)
                            refine lv_aload_n X.x X.b d_R_copy_135 rfl (lv_at hl 1 rfl) ?_
                            refine q_getr X hW qj4 rfl _ ds_R 20 (by decide) mw_706 rfl (c1 := 81) rfl d_R_copy_136 ?_
                            refine lv_iload X.x X.b d_R_copy_139 (lv_at hl 0 rfl) ?_
                            refine lv_aload_n X.x X.b d_R_copy_141 rfl (lv_at hl 1 rfl) ?_
                            refine q_getr X hW qj4 rfl _ ds_R 19 (by decide) mw_705 rfl (c1 := 80) rfl d_R_copy_142 ?_
                            refine lv_bipush (v := nI 40) X.x X.b d_R_copy_145 (by decide) ?_
                            refine lv_iload_n X.x X.b d_R_copy_147 rfl (lv_at hl 2 rfl) ?_
                            refine lv_imul X.x X.b d_R_copy_148 ?_
                            rw [pk_mul]
                            refine lv_iload_n X.x X.b d_R_copy_149 rfl (lv_at hl 3 rfl) ?_
                            refine lv_iadd X.x X.b d_R_copy_150 ?_
                            rw [nI_add]
                            refine lv_iload X.x X.b d_R_copy_151 (lv_at hl 0 rfl) ?_
                            refine lv_iadd X.x X.b d_R_copy_153 ?_
                            rw [nI_add]
                            refine g_ald X hW ds_80 (q_in (by omega) (by decide)) (p0 := 40 * j + f + k) (q_tn (by omega) (by omega)) (v := η (40 * j + f + k)) (by rw [qr_ne (by omega), hη]) d_R_copy_154 ?_
                            refine g_ast X hW ds_81 (q_in (by omega) (by decide)) (p0 := k) (q_tn (by omega) (by omega)) (ρ := μ) (by rw [qr_at]) d_R_copy_155 (fun H locs hW => ?_)
                            obtain ⟨r155, er155⟩ : ∃ z, z = upd μ k (η (40 * j + f + k)) := ⟨_, rfl⟩
                            rw [← er155] at hW
                            rw [qr_qr] at hW
                            refine lv_iinc (v := nI (k + 1)) (lv' := [(6, .int (nI (k + 1))), (0, .ref (eA E 70)), (1, .int (nI j)), (2, .int (nI f)), (3, .int (nI i)), (4, .int (nI q)), (5, .int (nI n))]) X.x X.b d_R_copy_156 hl (k := 0) rfl (by rw [show Int32.ofInt 1 = nI 1 from by decide, nI_add]) (by decide) rfl (fun ls hl => ?_)
                            refine lv_goto (tgt := 128) X.x X.b d_R_copy_159 (by decide) ?_
                            exact ih128 (k + 1) r155 (by omega) (fun v hv => by rw [er155]; unfold upd; by_cases z : v = k; rw [if_pos z, z]; rw [if_neg z]; exact hm v (by omega)) (by omega) _ _ _ hW (lv_sub hl [0, 1, 2, 3, 4, 5, 6] rfl)
                      exact loop128 (n - 0 + 1) 0 κ (by omega) (fun v hv => absurd hv (Nat.not_lt_zero v)) (Nat.lt_succ_self _) _ _ _ hW (lv_sub hl [0, 1, 2, 3, 4, 5, 6] rfl)
                    · exact absurd ((lgN2 (by omega) (by omega) (by omega)).mpr (by omega)) c115
          · exact absurd hd c58
        · exact absurd c36 hc
    · have c11 := b2i_e c11
      have c11 := mt (inR_i (by omega) (by decide)).mpr c11
      omega
set_option maxHeartbeats 1000000 in
set_option maxRecDepth 20000 in
theorem c_R_copy_b (l : Launch) (E : QE) (S : QM) (ω ζ η ψ : Nat → Int32) (hω : S 22 = ω) (hζ : S 23 = ζ) (hη : S 24 = η) (hψ : S 19 = ψ) (x y z u v : Int32) (h : ¬ (inR 0 3 x ∧ inR 0 3 z)) : qCI E l y_R_copy prog_7_method_102_code 7 .int 3 [.ref (eA E 70), .int x, .int y, .int z, .int u, .int v] S (-1000001) (qr S 19 (fnR ψ 0)) := by
  refine qCI_of (by decide) (Nat.le_of_ble_eq_true rfl) (fun p e s m below meth c ls X hW hl => ?_)
  have hl : lv_has ls 7 [(0, .ref (eA E 70)), (1, .int x), (2, .int y), (3, .int z), (4, .int u), (5, .int v)] := hl
  refine lv_iload_n X.x X.b d_R_copy_0 rfl (lv_at hl 1 rfl) ?_
  refine q_csi X (c_R_isSheet l E S x) hW ok_R_isSheet mw_1033 ⟨by decide, by decide⟩ (As := [.int x]) rfl rfl (Nat.le_of_ble_eq_true rfl) (lv := [(0, .ref (eA E 70)), (1, .int x), (2, .int y), (3, .int z), (4, .int u), (5, .int v)]) hl ⟨Nat.le_refl 0, Nat.le_refl 0⟩ d_R_copy_1 (fun H locs hW => ?_)
  refine lv_if_eq (tgt := 14) X.x X.b d_R_copy_4 (by decide) (fun c4 => ?_) (fun c4 => ?_)
  · have c4 := b2i_e c4
    refine lv_aload_n X.x X.b d_R_copy_14 rfl (lv_at hl 0 rfl) ?_
    refine lv_ldc (v := (-1000001)) X.x X.b X.ow (X.ts _ mw_767) d_R_copy_15 ?_
    refine q_cvi X (c_R_finding_0 l E S ψ (by rw [hψ])) hW (q_recv X hW ds_R rfl) ok_R_finding mw_768 ⟨by decide, by decide⟩ (As := [.int (-1000001)]) rfl rfl (Nat.le_of_ble_eq_true rfl) (lv := [(0, .ref (eA E 70)), (1, .int x), (2, .int y), (3, .int z), (4, .int u), (5, .int v)]) hl ⟨Nat.le_refl 0, Nat.le_refl 0⟩ d_R_copy_17 (fun H locs hW => ?_)
    have hW : qWH E (qr S 19 (fnR ψ 0)) s H locs := hW
    exact q_zret X rfl hW ⟨rfl, rfl⟩ d_R_copy_20
  · have c4 := b2i_n c4
    refine lv_iload_n X.x X.b d_R_copy_7 rfl (lv_at hl 3 rfl) ?_
    refine q_csi X (c_R_isSheet l E S z) hW ok_R_isSheet mw_1033 ⟨by decide, by decide⟩ (As := [.int z]) rfl rfl (Nat.le_of_ble_eq_true rfl) (lv := [(0, .ref (eA E 70)), (1, .int x), (2, .int y), (3, .int z), (4, .int u), (5, .int v)]) hl ⟨Nat.le_refl 0, Nat.le_refl 0⟩ d_R_copy_8 (fun H locs hW => ?_)
    refine lv_if_ne (tgt := 21) X.x X.b d_R_copy_11 (by decide) (fun c11 => ?_) (fun c11 => ?_)
    · have c11 := b2i_n c11
      exact absurd ⟨c4, c11⟩ h
    · have c11 := b2i_e c11
      refine lv_aload_n X.x X.b d_R_copy_14 rfl (lv_at hl 0 rfl) ?_
      refine lv_ldc (v := (-1000001)) X.x X.b X.ow (X.ts _ mw_767) d_R_copy_15 ?_
      refine q_cvi X (c_R_finding_0 l E S ψ (by rw [hψ])) hW (q_recv X hW ds_R rfl) ok_R_finding mw_768 ⟨by decide, by decide⟩ (As := [.int (-1000001)]) rfl rfl (Nat.le_of_ble_eq_true rfl) (lv := [(0, .ref (eA E 70)), (1, .int x), (2, .int y), (3, .int z), (4, .int u), (5, .int v)]) hl ⟨Nat.le_refl 0, Nat.le_refl 0⟩ d_R_copy_17 (fun H locs hW => ?_)
      have hW : qWH E (qr S 19 (fnR ψ 0)) s H locs := hW
      exact q_zret X rfl hW ⟨rfl, rfl⟩ d_R_copy_20
set_option maxHeartbeats 1000000 in
set_option maxRecDepth 20000 in
theorem c_R_lacks_a (l : Launch) (E : QE) (S : QM) (ω ζ η ψ : Nat → Int32) (hω : S 22 = ω) (hζ : S 23 = ζ) (hη : S 24 = η) (hψ : S 19 = ψ) (x d : Int32) (h : ¬ inR 0 3 x) : qCI E l y_R_lacks prog_7_method_72_code 3 .int 3 [.ref (eA E 70), .int x, .int d] S (-1000001) S := by
  refine qCI_of (by decide) (Nat.le_of_ble_eq_true rfl) (fun p e s m below meth c ls X hW hl => ?_)
  have hl : lv_has ls 3 [(0, .ref (eA E 70)), (1, .int x), (2, .int d)] := hl
  refine lv_iload_n X.x X.b d_R_lacks_0 rfl (lv_at hl 1 rfl) ?_
  refine q_csi X (c_R_isSheet l E S x) hW ok_R_isSheet mw_1033 ⟨by decide, by decide⟩ (As := [.int x]) rfl rfl (Nat.le_of_ble_eq_true rfl) (lv := [(0, .ref (eA E 70)), (1, .int x), (2, .int d)]) hl ⟨Nat.le_refl 0, Nat.le_refl 0⟩ d_R_lacks_1 (fun H locs hW => ?_)
  refine lv_if_ne (tgt := 12) X.x X.b d_R_lacks_4 (by decide) (fun c4 => ?_) (fun c4 => ?_)
  · have c4 := b2i_n c4
    exact absurd c4 h
  · have c4 := b2i_e c4
    refine lv_ldc (v := (-1000001)) X.x X.b X.ow (X.ts _ mw_767) d_R_lacks_7 ?_
    refine lv_goto (tgt := 36) X.x X.b d_R_lacks_9 (by decide) ?_
    exact q_zret X rfl hW ⟨rfl, rfl⟩ d_R_lacks_36
set_option maxHeartbeats 1000000 in
set_option maxRecDepth 20000 in
theorem c_R_lacks_b (l : Launch) (E : QE) (S : QM) (ω ζ η ψ : Nat → Int32) (hω : S 22 = ω) (hζ : S 23 = ζ) (hη : S 24 = η) (hψ : S 19 = ψ) (j : Nat) (d : Int32) (hj : j < 4) (hb : ω j = 0) : qCI E l y_R_lacks prog_7_method_72_code 3 .int 3 [.ref (eA E 70), .int (nI j), .int d] S (-1000006) S := by
  refine qCI_of (by decide) (Nat.le_of_ble_eq_true rfl) (fun p e s m below meth c ls X hW hl => ?_)
  have hl : lv_has ls 3 [(0, .ref (eA E 70)), (1, .int (nI j)), (2, .int d)] := hl
  refine lv_iload_n X.x X.b d_R_lacks_0 rfl (lv_at hl 1 rfl) ?_
  refine q_csi X (c_R_isSheet l E S (nI j)) hW ok_R_isSheet mw_1033 ⟨by decide, by decide⟩ (As := [.int (nI j)]) rfl rfl (Nat.le_of_ble_eq_true rfl) (lv := [(0, .ref (eA E 70)), (1, .int (nI j)), (2, .int d)]) hl ⟨Nat.le_refl 0, Nat.le_refl 0⟩ d_R_lacks_1 (fun H locs hW => ?_)
  refine lv_if_ne (tgt := 12) X.x X.b d_R_lacks_4 (by decide) (fun c4 => ?_) (fun c4 => ?_)
  · have c4 := b2i_n c4
    have c4 := (inR_i (by omega) (by decide)).mp c4
    refine lv_aload_n X.x X.b d_R_lacks_12 rfl (lv_at hl 0 rfl) ?_
    refine q_getr X hW qj4 rfl _ ds_R 17 (by decide) mw_703 rfl (c1 := 78) rfl d_R_lacks_13 ?_
    refine lv_iload_n X.x X.b d_R_lacks_16 rfl (lv_at hl 1 rfl) ?_
    refine g_ald X hW ds_78 (q_in (by omega) (by decide)) (p0 := j) (q_tn (by omega) (by omega)) (v := ω j) (by rw [hω]) d_R_lacks_17 ?_
    refine lv_if_ne (tgt := 26) X.x X.b d_R_lacks_18 (by decide) (fun c18 => ?_) (fun c18 => ?_)
    · exact absurd hb c18
    · refine lv_ldc (v := (-1000006)) X.x X.b X.ow (X.ts _ mw_1036) d_R_lacks_21 ?_
      refine lv_goto (tgt := 36) X.x X.b d_R_lacks_23 (by decide) ?_
      exact q_zret X rfl hW ⟨rfl, rfl⟩ d_R_lacks_36
  · have c4 := b2i_e c4
    have c4 := mt (inR_i (by omega) (by decide)).mpr c4
    omega
set_option maxHeartbeats 1000000 in
set_option maxRecDepth 20000 in
theorem c_R_lacks_c (l : Launch) (E : QE) (S : QM) (ω ζ η ψ : Nat → Int32) (hω : S 22 = ω) (hζ : S 23 = ζ) (hη : S 24 = η) (hψ : S 19 = ψ) (j : Nat) (d : Int32) (hj : j < 4) (hb : ¬ ω j = 0) (hd : ¬ d = 0) : qCI E l y_R_lacks prog_7_method_72_code 3 .int 3 [.ref (eA E 70), .int (nI j), .int d] S (nI 0) S := by
  refine qCI_of (by decide) (Nat.le_of_ble_eq_true rfl) (fun p e s m below meth c ls X hW hl => ?_)
  have hl : lv_has ls 3 [(0, .ref (eA E 70)), (1, .int (nI j)), (2, .int d)] := hl
  refine lv_iload_n X.x X.b d_R_lacks_0 rfl (lv_at hl 1 rfl) ?_
  refine q_csi X (c_R_isSheet l E S (nI j)) hW ok_R_isSheet mw_1033 ⟨by decide, by decide⟩ (As := [.int (nI j)]) rfl rfl (Nat.le_of_ble_eq_true rfl) (lv := [(0, .ref (eA E 70)), (1, .int (nI j)), (2, .int d)]) hl ⟨Nat.le_refl 0, Nat.le_refl 0⟩ d_R_lacks_1 (fun H locs hW => ?_)
  refine lv_if_ne (tgt := 12) X.x X.b d_R_lacks_4 (by decide) (fun c4 => ?_) (fun c4 => ?_)
  · have c4 := b2i_n c4
    have c4 := (inR_i (by omega) (by decide)).mp c4
    refine lv_aload_n X.x X.b d_R_lacks_12 rfl (lv_at hl 0 rfl) ?_
    refine q_getr X hW qj4 rfl _ ds_R 17 (by decide) mw_703 rfl (c1 := 78) rfl d_R_lacks_13 ?_
    refine lv_iload_n X.x X.b d_R_lacks_16 rfl (lv_at hl 1 rfl) ?_
    refine g_ald X hW ds_78 (q_in (by omega) (by decide)) (p0 := j) (q_tn (by omega) (by omega)) (v := ω j) (by rw [hω]) d_R_lacks_17 ?_
    refine lv_if_ne (tgt := 26) X.x X.b d_R_lacks_18 (by decide) (fun c18 => ?_) (fun c18 => ?_)
    · refine lv_iload_n X.x X.b d_R_lacks_26 rfl (lv_at hl 2 rfl) ?_
      refine lv_if_eq (tgt := 34) X.x X.b d_R_lacks_27 (by decide) (fun c27 => ?_) (fun c27 => ?_)
      · exact absurd c27 hd
      · refine lv_iconst (v := nI 0) X.x X.b d_R_lacks_30 (by decide) ?_
        refine lv_goto (tgt := 36) X.x X.b d_R_lacks_31 (by decide) ?_
        exact q_zret X rfl hW ⟨rfl, rfl⟩ d_R_lacks_36
    · exact absurd c18 hb
  · have c4 := b2i_e c4
    have c4 := mt (inR_i (by omega) (by decide)).mpr c4
    omega
set_option maxHeartbeats 1000000 in
set_option maxRecDepth 20000 in
theorem c_R_lacks_d (l : Launch) (E : QE) (S : QM) (ω ζ η ψ : Nat → Int32) (hω : S 22 = ω) (hζ : S 23 = ζ) (hη : S 24 = η) (hψ : S 19 = ψ) (j : Nat) (d : Int32) (hj : j < 4) (hb : ¬ ω j = 0) (hd : d = 0) : qCI E l y_R_lacks prog_7_method_72_code 3 .int 3 [.ref (eA E 70), .int (nI j), .int d] S (-1000001) S := by
  refine qCI_of (by decide) (Nat.le_of_ble_eq_true rfl) (fun p e s m below meth c ls X hW hl => ?_)
  have hl : lv_has ls 3 [(0, .ref (eA E 70)), (1, .int (nI j)), (2, .int d)] := hl
  refine lv_iload_n X.x X.b d_R_lacks_0 rfl (lv_at hl 1 rfl) ?_
  refine q_csi X (c_R_isSheet l E S (nI j)) hW ok_R_isSheet mw_1033 ⟨by decide, by decide⟩ (As := [.int (nI j)]) rfl rfl (Nat.le_of_ble_eq_true rfl) (lv := [(0, .ref (eA E 70)), (1, .int (nI j)), (2, .int d)]) hl ⟨Nat.le_refl 0, Nat.le_refl 0⟩ d_R_lacks_1 (fun H locs hW => ?_)
  refine lv_if_ne (tgt := 12) X.x X.b d_R_lacks_4 (by decide) (fun c4 => ?_) (fun c4 => ?_)
  · have c4 := b2i_n c4
    have c4 := (inR_i (by omega) (by decide)).mp c4
    refine lv_aload_n X.x X.b d_R_lacks_12 rfl (lv_at hl 0 rfl) ?_
    refine q_getr X hW qj4 rfl _ ds_R 17 (by decide) mw_703 rfl (c1 := 78) rfl d_R_lacks_13 ?_
    refine lv_iload_n X.x X.b d_R_lacks_16 rfl (lv_at hl 1 rfl) ?_
    refine g_ald X hW ds_78 (q_in (by omega) (by decide)) (p0 := j) (q_tn (by omega) (by omega)) (v := ω j) (by rw [hω]) d_R_lacks_17 ?_
    refine lv_if_ne (tgt := 26) X.x X.b d_R_lacks_18 (by decide) (fun c18 => ?_) (fun c18 => ?_)
    · refine lv_iload_n X.x X.b d_R_lacks_26 rfl (lv_at hl 2 rfl) ?_
      refine lv_if_eq (tgt := 34) X.x X.b d_R_lacks_27 (by decide) (fun c27 => ?_) (fun c27 => ?_)
      · refine lv_ldc (v := (-1000001)) X.x X.b X.ow (X.ts _ mw_767) d_R_lacks_34 ?_
        exact q_zret X rfl hW ⟨rfl, rfl⟩ d_R_lacks_36
      · exact absurd hd c27
    · exact absurd c18 hb
  · have c4 := b2i_e c4
    have c4 := mt (inR_i (by omega) (by decide)).mpr c4
    omega
set_option maxHeartbeats 1000000 in
set_option maxRecDepth 20000 in
theorem c_R_load_la (l : Launch) (E : QE) (S : QM) (ν : Nat → Int32) (hν : S 16 = ν) (hwf : WF ν) (ω ζ η ψ : Nat → Int32) (hω : S 22 = ω) (hζ : S 23 = ζ) (hη : S 24 = η) (hψ : S 19 = ψ) (x : Int32) (h : ¬ inR 0 3 x) : qCI E l y_R_load prog_7_method_105_code 3 .int 4 [.ref (eA E 70), .int x] S (-1000001) (qr S 19 (fnR ψ 0)) := by
  refine qCI_of (by decide) (Nat.le_of_ble_eq_true rfl) (fun p e s m below meth c ls X hW hl => ?_)
  have hl : lv_has ls 3 [(0, .ref (eA E 70)), (1, .int x)] := hl
  have htl := hwf.tl
  have hwl := hwf.wl
  have hdl := hwf.dl
  refine lv_aload_n X.x X.b d_R_load_0 rfl (lv_at hl 0 rfl) ?_
  refine lv_iload_n X.x X.b d_R_load_1 rfl (lv_at hl 1 rfl) ?_
  refine lv_iconst (v := nI 1) X.x X.b d_R_load_2 (by decide) ?_
  refine q_cvi X (c_R_lacks_a l E S ω ζ η ψ (by rw [hω]) (by rw [hζ]) (by rw [hη]) (by rw [hψ]) x (nI 1) h) hW (q_recv X hW ds_R rfl) ok_R_lacks mw_1029 ⟨by decide, by decide⟩ (As := [.int x, .int (nI 1)]) rfl rfl (Nat.le_of_ble_eq_true rfl) (lv := [(0, .ref (eA E 70)), (1, .int x)]) hl ⟨Nat.le_refl 0, Nat.le_refl 0⟩ d_R_load_3 (fun H locs hW => ?_)
  refine lv_if_eq (tgt := 20) X.x X.b d_R_load_6 (by decide) (fun c6 => ?_) (fun c6 => ?_)
  · exact absurd c6 (by decide)
  · refine lv_aload_n X.x X.b d_R_load_9 rfl (lv_at hl 0 rfl) ?_
    refine lv_aload_n X.x X.b d_R_load_10 rfl (lv_at hl 0 rfl) ?_
    refine lv_iload_n X.x X.b d_R_load_11 rfl (lv_at hl 1 rfl) ?_
    refine lv_iconst (v := nI 1) X.x X.b d_R_load_12 (by decide) ?_
    refine q_cvi X (c_R_lacks_a l E S ω ζ η ψ (by rw [hω]) (by rw [hζ]) (by rw [hη]) (by rw [hψ]) x (nI 1) h) hW (q_recv X hW ds_R rfl) ok_R_lacks mw_1029 ⟨by decide, by decide⟩ (As := [.int x, .int (nI 1)]) rfl rfl (Nat.le_of_ble_eq_true rfl) (lv := [(0, .ref (eA E 70)), (1, .int x)]) hl ⟨Nat.le_refl 0, Nat.le_refl 0⟩ d_R_load_13 (fun H locs hW => ?_)
    refine q_cvi X (c_R_finding_0 l E S ψ (by rw [hψ])) hW (q_recv X hW ds_R rfl) ok_R_finding mw_768 ⟨by decide, by decide⟩ (As := [.int (-1000001)]) rfl rfl (Nat.le_of_ble_eq_true rfl) (lv := [(0, .ref (eA E 70)), (1, .int x)]) hl ⟨Nat.le_refl 0, Nat.le_refl 0⟩ d_R_load_16 (fun H locs hW => ?_)
    have hW : qWH E (qr S 19 (fnR ψ 0)) s H locs := hW
    exact q_zret X rfl hW ⟨rfl, rfl⟩ d_R_load_19
set_option maxHeartbeats 1000000 in
set_option maxRecDepth 20000 in
theorem c_R_load_lb (l : Launch) (E : QE) (S : QM) (ν : Nat → Int32) (hν : S 16 = ν) (hwf : WF ν) (ω ζ η ψ : Nat → Int32) (hω : S 22 = ω) (hζ : S 23 = ζ) (hη : S 24 = η) (hψ : S 19 = ψ) (j : Nat) (hj : j < 4) (hb : ω j = 0) : qCI E l y_R_load prog_7_method_105_code 3 .int 4 [.ref (eA E 70), .int (nI j)] S (-1000006) (qr S 19 (fnR ψ 5)) := by
  refine qCI_of (by decide) (Nat.le_of_ble_eq_true rfl) (fun p e s m below meth c ls X hW hl => ?_)
  have hl : lv_has ls 3 [(0, .ref (eA E 70)), (1, .int (nI j))] := hl
  have htl := hwf.tl
  have hwl := hwf.wl
  have hdl := hwf.dl
  refine lv_aload_n X.x X.b d_R_load_0 rfl (lv_at hl 0 rfl) ?_
  refine lv_iload_n X.x X.b d_R_load_1 rfl (lv_at hl 1 rfl) ?_
  refine lv_iconst (v := nI 1) X.x X.b d_R_load_2 (by decide) ?_
  refine q_cvi X (c_R_lacks_b l E S ω ζ η ψ (by rw [hω]) (by rw [hζ]) (by rw [hη]) (by rw [hψ]) j (nI 1) hj hb) hW (q_recv X hW ds_R rfl) ok_R_lacks mw_1029 ⟨by decide, by decide⟩ (As := [.int (nI j), .int (nI 1)]) rfl rfl (Nat.le_of_ble_eq_true rfl) (lv := [(0, .ref (eA E 70)), (1, .int (nI j))]) hl ⟨Nat.le_refl 0, Nat.le_refl 0⟩ d_R_load_3 (fun H locs hW => ?_)
  refine lv_if_eq (tgt := 20) X.x X.b d_R_load_6 (by decide) (fun c6 => ?_) (fun c6 => ?_)
  · exact absurd c6 (by decide)
  · refine lv_aload_n X.x X.b d_R_load_9 rfl (lv_at hl 0 rfl) ?_
    refine lv_aload_n X.x X.b d_R_load_10 rfl (lv_at hl 0 rfl) ?_
    refine lv_iload_n X.x X.b d_R_load_11 rfl (lv_at hl 1 rfl) ?_
    refine lv_iconst (v := nI 1) X.x X.b d_R_load_12 (by decide) ?_
    refine q_cvi X (c_R_lacks_b l E S ω ζ η ψ (by rw [hω]) (by rw [hζ]) (by rw [hη]) (by rw [hψ]) j (nI 1) hj hb) hW (q_recv X hW ds_R rfl) ok_R_lacks mw_1029 ⟨by decide, by decide⟩ (As := [.int (nI j), .int (nI 1)]) rfl rfl (Nat.le_of_ble_eq_true rfl) (lv := [(0, .ref (eA E 70)), (1, .int (nI j))]) hl ⟨Nat.le_refl 0, Nat.le_refl 0⟩ d_R_load_13 (fun H locs hW => ?_)
    refine q_cvi X (c_R_finding_5 l E S ψ (by rw [hψ])) hW (q_recv X hW ds_R rfl) ok_R_finding mw_768 ⟨by decide, by decide⟩ (As := [.int (-1000006)]) rfl rfl (Nat.le_of_ble_eq_true rfl) (lv := [(0, .ref (eA E 70)), (1, .int (nI j))]) hl ⟨Nat.le_refl 0, Nat.le_refl 0⟩ d_R_load_16 (fun H locs hW => ?_)
    have hW : qWH E (qr S 19 (fnR ψ 5)) s H locs := hW
    exact q_zret X rfl hW ⟨rfl, rfl⟩ d_R_load_19
set_option maxHeartbeats 1000000 in
set_option maxRecDepth 20000 in
theorem c_R_judge_la (l : Launch) (E : QE) (S : QM) (ν : Nat → Int32) (hν : S 16 = ν) (hwf : WF ν) (ω ζ η ψ : Nat → Int32) (hω : S 22 = ω) (hζ : S 23 = ζ) (hη : S 24 = η) (hψ : S 19 = ψ) (x : Int32) (h : ¬ inR 0 3 x) : qCI E l y_R_judge prog_7_method_106_code 3 .int 4 [.ref (eA E 70), .int x] S (-1000001) (qr S 19 (fnR ψ 0)) := by
  refine qCI_of (by decide) (Nat.le_of_ble_eq_true rfl) (fun p e s m below meth c ls X hW hl => ?_)
  have hl : lv_has ls 3 [(0, .ref (eA E 70)), (1, .int x)] := hl
  have htl := hwf.tl
  have hwl := hwf.wl
  have hdl := hwf.dl
  refine lv_aload_n X.x X.b d_R_judge_0 rfl (lv_at hl 0 rfl) ?_
  refine lv_iload_n X.x X.b d_R_judge_1 rfl (lv_at hl 1 rfl) ?_
  refine lv_iconst (v := nI 1) X.x X.b d_R_judge_2 (by decide) ?_
  refine q_cvi X (c_R_lacks_a l E S ω ζ η ψ (by rw [hω]) (by rw [hζ]) (by rw [hη]) (by rw [hψ]) x (nI 1) h) hW (q_recv X hW ds_R rfl) ok_R_lacks mw_1029 ⟨by decide, by decide⟩ (As := [.int x, .int (nI 1)]) rfl rfl (Nat.le_of_ble_eq_true rfl) (lv := [(0, .ref (eA E 70)), (1, .int x)]) hl ⟨Nat.le_refl 0, Nat.le_refl 0⟩ d_R_judge_3 (fun H locs hW => ?_)
  refine lv_if_eq (tgt := 20) X.x X.b d_R_judge_6 (by decide) (fun c6 => ?_) (fun c6 => ?_)
  · exact absurd c6 (by decide)
  · refine lv_aload_n X.x X.b d_R_judge_9 rfl (lv_at hl 0 rfl) ?_
    refine lv_aload_n X.x X.b d_R_judge_10 rfl (lv_at hl 0 rfl) ?_
    refine lv_iload_n X.x X.b d_R_judge_11 rfl (lv_at hl 1 rfl) ?_
    refine lv_iconst (v := nI 1) X.x X.b d_R_judge_12 (by decide) ?_
    refine q_cvi X (c_R_lacks_a l E S ω ζ η ψ (by rw [hω]) (by rw [hζ]) (by rw [hη]) (by rw [hψ]) x (nI 1) h) hW (q_recv X hW ds_R rfl) ok_R_lacks mw_1029 ⟨by decide, by decide⟩ (As := [.int x, .int (nI 1)]) rfl rfl (Nat.le_of_ble_eq_true rfl) (lv := [(0, .ref (eA E 70)), (1, .int x)]) hl ⟨Nat.le_refl 0, Nat.le_refl 0⟩ d_R_judge_13 (fun H locs hW => ?_)
    refine q_cvi X (c_R_finding_0 l E S ψ (by rw [hψ])) hW (q_recv X hW ds_R rfl) ok_R_finding mw_768 ⟨by decide, by decide⟩ (As := [.int (-1000001)]) rfl rfl (Nat.le_of_ble_eq_true rfl) (lv := [(0, .ref (eA E 70)), (1, .int x)]) hl ⟨Nat.le_refl 0, Nat.le_refl 0⟩ d_R_judge_16 (fun H locs hW => ?_)
    have hW : qWH E (qr S 19 (fnR ψ 0)) s H locs := hW
    exact q_zret X rfl hW ⟨rfl, rfl⟩ d_R_judge_19
set_option maxHeartbeats 1000000 in
set_option maxRecDepth 20000 in
theorem c_R_judge_lb (l : Launch) (E : QE) (S : QM) (ν : Nat → Int32) (hν : S 16 = ν) (hwf : WF ν) (ω ζ η ψ : Nat → Int32) (hω : S 22 = ω) (hζ : S 23 = ζ) (hη : S 24 = η) (hψ : S 19 = ψ) (j : Nat) (hj : j < 4) (hb : ω j = 0) : qCI E l y_R_judge prog_7_method_106_code 3 .int 4 [.ref (eA E 70), .int (nI j)] S (-1000006) (qr S 19 (fnR ψ 5)) := by
  refine qCI_of (by decide) (Nat.le_of_ble_eq_true rfl) (fun p e s m below meth c ls X hW hl => ?_)
  have hl : lv_has ls 3 [(0, .ref (eA E 70)), (1, .int (nI j))] := hl
  have htl := hwf.tl
  have hwl := hwf.wl
  have hdl := hwf.dl
  refine lv_aload_n X.x X.b d_R_judge_0 rfl (lv_at hl 0 rfl) ?_
  refine lv_iload_n X.x X.b d_R_judge_1 rfl (lv_at hl 1 rfl) ?_
  refine lv_iconst (v := nI 1) X.x X.b d_R_judge_2 (by decide) ?_
  refine q_cvi X (c_R_lacks_b l E S ω ζ η ψ (by rw [hω]) (by rw [hζ]) (by rw [hη]) (by rw [hψ]) j (nI 1) hj hb) hW (q_recv X hW ds_R rfl) ok_R_lacks mw_1029 ⟨by decide, by decide⟩ (As := [.int (nI j), .int (nI 1)]) rfl rfl (Nat.le_of_ble_eq_true rfl) (lv := [(0, .ref (eA E 70)), (1, .int (nI j))]) hl ⟨Nat.le_refl 0, Nat.le_refl 0⟩ d_R_judge_3 (fun H locs hW => ?_)
  refine lv_if_eq (tgt := 20) X.x X.b d_R_judge_6 (by decide) (fun c6 => ?_) (fun c6 => ?_)
  · exact absurd c6 (by decide)
  · refine lv_aload_n X.x X.b d_R_judge_9 rfl (lv_at hl 0 rfl) ?_
    refine lv_aload_n X.x X.b d_R_judge_10 rfl (lv_at hl 0 rfl) ?_
    refine lv_iload_n X.x X.b d_R_judge_11 rfl (lv_at hl 1 rfl) ?_
    refine lv_iconst (v := nI 1) X.x X.b d_R_judge_12 (by decide) ?_
    refine q_cvi X (c_R_lacks_b l E S ω ζ η ψ (by rw [hω]) (by rw [hζ]) (by rw [hη]) (by rw [hψ]) j (nI 1) hj hb) hW (q_recv X hW ds_R rfl) ok_R_lacks mw_1029 ⟨by decide, by decide⟩ (As := [.int (nI j), .int (nI 1)]) rfl rfl (Nat.le_of_ble_eq_true rfl) (lv := [(0, .ref (eA E 70)), (1, .int (nI j))]) hl ⟨Nat.le_refl 0, Nat.le_refl 0⟩ d_R_judge_13 (fun H locs hW => ?_)
    refine q_cvi X (c_R_finding_5 l E S ψ (by rw [hψ])) hW (q_recv X hW ds_R rfl) ok_R_finding mw_768 ⟨by decide, by decide⟩ (As := [.int (-1000006)]) rfl rfl (Nat.le_of_ble_eq_true rfl) (lv := [(0, .ref (eA E 70)), (1, .int (nI j))]) hl ⟨Nat.le_refl 0, Nat.le_refl 0⟩ d_R_judge_16 (fun H locs hW => ?_)
    have hW : qWH E (qr S 19 (fnR ψ 5)) s H locs := hW
    exact q_zret X rfl hW ⟨rfl, rfl⟩ d_R_judge_19
set_option maxHeartbeats 1000000 in
set_option maxRecDepth 20000 in
theorem c_R_load_g (l : Launch) (E : QE) (S : QM) (ν : Nat → Int32) (hν : S 16 = ν) (hwf : WF ν) (ω ζ η ψ : Nat → Int32) (hω : S 22 = ω) (hζ : S 23 = ζ) (hη : S 24 = η) (hψ : S 19 = ψ) (j sz : Nat) (hj : j < 4) (hs2 : ζ j = nI sz) (hsz : sz ≤ 40) (hb : ¬ ω j = 0) : qCI E l y_R_load prog_7_method_105_code 3 .int 4 [.ref (eA E 70), .int (nI j)] S (nI (ldN ν (shr η j) sz)) (qr S 16 (ldR (shr η j) (ldN ν (shr η j) sz) ν)) := by
  refine qCI_of (by decide) (Nat.le_of_ble_eq_true rfl) (fun p e s m below meth c ls X hW hl => ?_)
  have hl : lv_has ls 3 [(0, .ref (eA E 70)), (1, .int (nI j))] := hl
  have htl := hwf.tl
  have hwl := hwf.wl
  have hdl := hwf.dl
  refine lv_aload_n X.x X.b d_R_load_0 rfl (lv_at hl 0 rfl) ?_
  refine lv_iload_n X.x X.b d_R_load_1 rfl (lv_at hl 1 rfl) ?_
  refine lv_iconst (v := nI 1) X.x X.b d_R_load_2 (by decide) ?_
  refine q_cvi X (c_R_lacks_c l E S ω ζ η ψ (by rw [hω]) (by rw [hζ]) (by rw [hη]) (by rw [hψ]) j (nI 1) hj hb (by decide)) hW (q_recv X hW ds_R rfl) ok_R_lacks mw_1029 ⟨by decide, by decide⟩ (As := [.int (nI j), .int (nI 1)]) rfl rfl (Nat.le_of_ble_eq_true rfl) (lv := [(0, .ref (eA E 70)), (1, .int (nI j))]) hl ⟨Nat.le_refl 0, Nat.le_refl 0⟩ d_R_load_3 (fun H locs hW => ?_)
  refine lv_if_eq (tgt := 20) X.x X.b d_R_load_6 (by decide) (fun c6 => ?_) (fun c6 => ?_)
  · have c6 : 0 = 0 := (nI_eq (a := 0) (b := 0) (by omega) (by omega)).mp c6
    refine lv_iconst (v := nI 0) X.x X.b d_R_load_20 (by decide) ?_
    refine lv_istore_n (lv' := [(2, .int (nI 0)), (0, .ref (eA E 70)), (1, .int (nI j))]) X.x X.b d_R_load_21 rfl hl (by decide) rfl (fun ls hl => ?_)
    have hW : qWH E (qr S 16 ν) s H locs := by rw [← hν, qr_self]; exact hW
    have loop22 : ∀ (fu22 : Nat) (i : Nat) (μ : Nat → Int32), i ≤ nW ν → μ = ldR (shr η j) i ν → @lst (ldP ν (shr η j) sz) (fun i => inferInstanceAs (Decidable (¬ ((i < sz ∧ i < nW ν) ∧ inR 0 255 ((shr η j) i))))) (40 - i) i = ldN ν (shr η j) sz → nW ν - i < fu22 → ∀ (H : Heap) (locs : List Loc) (ls : Array Slot), qWH E (qr S 16 μ) s H locs → lv_has ls 3 [(2, .int (nI i)), (0, .ref (eA E 70)), (1, .int (nI j))] → W p l e (qRm 4) s m ([.ref (eA E 70), .int (nI j)] : List Value).toArray below meth c H locs 0 0 (MQ below (qQi E (nI (ldN ν (shr η j) sz)) (qr S 16 (ldR (shr η j) (ldN ν (shr η j) sz) ν)) s.heap.size) ([.ref (eA E 70), .int (nI j)] : List Value).toArray s 0 0 (qAA E s.heap.size)) (F0 m 22 ls []) := by
      intro fu22
      induction fu22 with
      | zero =>
        intro i μ hi hm hL hfu
        exact absurd hfu (Nat.not_lt_zero _)
      | succ fu22 ih22 =>
        intro i μ hi hm hL hfu H locs ls hW hl
        have hμ := (ldR_ok (σ := shr η j) hwf i (by omega)).1
        rw [← hm] at hμ
        have enW := (ldR_ok (σ := shr η j) hwf i (by omega)).2.1
        rw [← hm] at enW
        refine lv_iload_n X.x X.b d_R_load_22 rfl (lv_at hl 0 rfl) ?_
        refine lv_aload_n X.x X.b d_R_load_23 rfl (lv_at hl 1 rfl) ?_
        refine q_getr X hW qj4 rfl _ ds_R 18 (by decide) mw_704 rfl (c1 := 79) rfl d_R_load_24 ?_
        refine lv_iload_n X.x X.b d_R_load_27 rfl (lv_at hl 2 rfl) ?_
        refine g_ald X hW ds_79 (q_in (by omega) (by decide)) (p0 := j) (q_tn (by omega) (by omega)) (v := ζ j) (by rw [qr_ne (by omega), hζ]) d_R_load_28 ?_
        rw [hs2]
        refine lv_icmp_ge (tgt := 84) X.x X.b d_R_load_29 (by decide) (fun c29 => ?_) (fun c29 => ?_)
        · have c29 : sz ≤ i := (nI_leI (a := sz) (b := i) (by omega) (by omega)).mp c29
          refine lv_iload_n X.x X.b d_R_load_84 rfl (lv_at hl 0 rfl) ?_
          exact q_zret X rfl hW ⟨congrArg nI (show i = ldN ν (shr η j) sz from (by rw [← hL, show 40 - i = (40 - i - 1) + 1 by omega, lst, if_pos (show ldP ν (shr η j) sz i from by rintro ⟨⟨q1, q2⟩, q3⟩; omega)])), by rw [hm, show i = ldN ν (shr η j) sz from (by rw [← hL, show 40 - i = (40 - i - 1) + 1 by omega, lst, if_pos (show ldP ν (shr η j) sz i from by rintro ⟨⟨q1, q2⟩, q3⟩; omega)])]⟩ d_R_load_85
        · have c29 : ¬ sz ≤ i := fun z => c29 ((nI_leI (a := sz) (b := i) (by omega) (by omega)).mpr z)
          refine lv_aload_n X.x X.b d_R_load_32 rfl (lv_at hl 1 rfl) ?_
          refine lv_iload_n X.x X.b d_R_load_33 rfl (lv_at hl 0 rfl) ?_
          refine q_cvi X (c_R_isWalker l E (qr S 16 μ) μ (by rw [qr_at]) hμ (nI i)) hW (q_recv X hW ds_R rfl) ok_R_isWalker mw_841 ⟨by decide, by decide⟩ (As := [.int (nI i)]) rfl rfl (Nat.le_of_ble_eq_true rfl) (lv := [(2, .int (nI i)), (0, .ref (eA E 70)), (1, .int (nI j))]) hl ⟨Nat.le_refl 0, Nat.le_refl 0⟩ d_R_load_34 (fun H locs hW => ?_)
          refine lv_if_eq (tgt := 84) X.x X.b d_R_load_37 (by decide) (fun c37 => ?_) (fun c37 => ?_)
          · have c37 := b2i_e c37
            have c37 := mt (isW_i hμ (by omega)).mpr c37
            refine lv_iload_n X.x X.b d_R_load_84 rfl (lv_at hl 0 rfl) ?_
            exact q_zret X rfl hW ⟨congrArg nI (show i = ldN ν (shr η j) sz from (by rw [← hL, show 40 - i = (40 - i - 1) + 1 by omega, lst, if_pos (show ldP ν (shr η j) sz i from by rintro ⟨⟨q1, q2⟩, q3⟩; omega)])), by rw [hm, show i = ldN ν (shr η j) sz from (by rw [← hL, show 40 - i = (40 - i - 1) + 1 by omega, lst, if_pos (show ldP ν (shr η j) sz i from by rintro ⟨⟨q1, q2⟩, q3⟩; omega)])]⟩ d_R_load_85
          · have c37 := b2i_n c37
            have c37 := (isW_i hμ (by omega)).mp c37
            refine lv_aload_n X.x X.b d_R_load_40 rfl (lv_at hl 1 rfl) ?_
            refine q_getr X hW qj4 rfl _ ds_R 19 (by decide) mw_705 rfl (c1 := 80) rfl d_R_load_41 ?_
            refine lv_bipush (v := nI 40) X.x X.b d_R_load_44 (by decide) ?_
            refine lv_iload_n X.x X.b d_R_load_46 rfl (lv_at hl 2 rfl) ?_
            refine lv_imul X.x X.b d_R_load_47 ?_
            rw [pk_mul]
            refine lv_iload_n X.x X.b d_R_load_48 rfl (lv_at hl 0 rfl) ?_
            refine lv_iadd X.x X.b d_R_load_49 ?_
            rw [nI_add]
            refine g_ald X hW ds_80 (q_in (by omega) (by decide)) (p0 := 40 * j + i) (q_tn (by omega) (by omega)) (v := η (40 * j + i)) (by rw [qr_ne (by omega), hη]) d_R_load_50 ?_
            refine q_csi X (c_R_isSet l E (qr S 16 μ) (η (40 * j + i))) hW ok_R_isSet mw_859 ⟨by decide, by decide⟩ (As := [.int (η (40 * j + i))]) rfl rfl (Nat.le_of_ble_eq_true rfl) (lv := [(2, .int (nI i)), (0, .ref (eA E 70)), (1, .int (nI j))]) hl ⟨Nat.le_refl 0, Nat.le_refl 0⟩ d_R_load_51 (fun H locs hW => ?_)
            refine lv_if_eq (tgt := 84) X.x X.b d_R_load_54 (by decide) (fun c54 => ?_) (fun c54 => ?_)
            · have c54 := b2i_e c54
              refine lv_iload_n X.x X.b d_R_load_84 rfl (lv_at hl 0 rfl) ?_
              exact q_zret X rfl hW ⟨congrArg nI (show i = ldN ν (shr η j) sz from (by rw [← hL, show 40 - i = (40 - i - 1) + 1 by omega, lst, if_pos (show ldP ν (shr η j) sz i from by rintro ⟨⟨q1, q2⟩, q3⟩; exact c54 q3)])), by rw [hm, show i = ldN ν (shr η j) sz from (by rw [← hL, show 40 - i = (40 - i - 1) + 1 by omega, lst, if_pos (show ldP ν (shr η j) sz i from by rintro ⟨⟨q1, q2⟩, q3⟩; exact c54 q3)])]⟩ d_R_load_85
            · have c54 := b2i_n c54
              refine lv_aload_n X.x X.b d_R_load_57 rfl (lv_at hl 1 rfl) ?_
              refine q_getr X hW qj4 rfl _ ds_R 0 (by decide) mw_686 rfl (c1 := 71) rfl d_R_load_58 ?_
              refine lv_iload_n X.x X.b d_R_load_61 rfl (lv_at hl 0 rfl) ?_
              refine lv_iconst (v := nI 3) X.x X.b d_R_load_62 (by decide) ?_
              refine q_csi X (c_R_walkerAt l E (qr S 16 μ) i 3) hW ok_R_walkerAt mw_802 ⟨by decide, by decide⟩ (As := [.int (nI i), .int (nI 3)]) rfl rfl (Nat.le_of_ble_eq_true rfl) (lv := [(2, .int (nI i)), (0, .ref (eA E 70)), (1, .int (nI j))]) hl ⟨Nat.le_refl 0, Nat.le_refl 0⟩ d_R_load_63 (fun H locs hW => ?_)
              refine lv_aload_n X.x X.b d_R_load_66 rfl (lv_at hl 1 rfl) ?_
              refine q_getr X hW qj4 rfl _ ds_R 19 (by decide) mw_705 rfl (c1 := 80) rfl d_R_load_67 ?_
              refine lv_bipush (v := nI 40) X.x X.b d_R_load_70 (by decide) ?_
              refine lv_iload_n X.x X.b d_R_load_72 rfl (lv_at hl 2 rfl) ?_
              refine lv_imul X.x X.b d_R_load_73 ?_
              rw [pk_mul]
              refine lv_iload_n X.x X.b d_R_load_74 rfl (lv_at hl 0 rfl) ?_
              refine lv_iadd X.x X.b d_R_load_75 ?_
              rw [nI_add]
              refine g_ald X hW ds_80 (q_in (by omega) (by decide)) (p0 := 40 * j + i) (q_tn (by omega) (by omega)) (v := η (40 * j + i)) (by rw [qr_ne (by omega), hη]) d_R_load_76 ?_
              refine g_ast X hW ds_71 (q_in (by omega) (by decide)) (p0 := 44 + 6 * i + 3) (q_tn (by omega) (by omega)) (ρ := μ) (by rw [qr_at]) d_R_load_77 (fun H locs hW => ?_)
              obtain ⟨r77, er77⟩ : ∃ z, z = upd μ (44 + 6 * i + 3) (η (40 * j + i)) := ⟨_, rfl⟩
              rw [← er77] at hW
              rw [qr_qr] at hW
              refine lv_iinc (v := nI (i + 1)) (lv' := [(2, .int (nI (i + 1))), (0, .ref (eA E 70)), (1, .int (nI j))]) X.x X.b d_R_load_78 hl (k := 0) rfl (by rw [show Int32.ofInt 1 = nI 1 from by decide, nI_add]) (by decide) rfl (fun ls hl => ?_)
              refine lv_goto (tgt := 22) X.x X.b d_R_load_81 (by decide) ?_
              exact ih22 (i + 1) r77 (by omega) (by rw [er77, hm]; rfl) (by rw [← hL, show 40 - i = (40 - (i + 1)) + 1 by omega, lst, if_neg (fun z => z ⟨⟨by omega, by omega⟩, c54⟩)]) (by omega) _ _ _ hW (lv_sub hl [0, 1, 2] rfl)
    exact loop22 (nW ν - 0 + 1) 0 ν (by omega) rfl rfl (Nat.lt_succ_self _) _ _ _ hW (lv_sub hl [0, 1, 2] rfl)
  · exact absurd (by decide) c6
set_option maxHeartbeats 1000000 in
set_option maxRecDepth 20000 in
theorem c_R_judge_g (l : Launch) (E : QE) (S : QM) (ν : Nat → Int32) (hν : S 16 = ν) (hwf : WF ν) (ω ζ η ψ : Nat → Int32) (hω : S 22 = ω) (hζ : S 23 = ζ) (hη : S 24 = η) (hψ : S 19 = ψ) (j sz : Nat) (hj : j < 4) (hs2 : ζ j = nI sz) (hsz : sz ≤ 40) (hb : ¬ ω j = 0) (hF : (lst (fun i => ¬ (i < nW ν ∧ ν (44 + 6 * i) = shr η j i)) sz 0) = sz) : qCI E l y_R_judge prog_7_method_106_code 3 .int 4 [.ref (eA E 70), .int (nI j)] S (nI 0) S := by
  refine qCI_of (by decide) (Nat.le_of_ble_eq_true rfl) (fun p e s m below meth c ls X hW hl => ?_)
  have hl : lv_has ls 3 [(0, .ref (eA E 70)), (1, .int (nI j))] := hl
  have htl := hwf.tl
  have hwl := hwf.wl
  have hdl := hwf.dl
  refine lv_aload_n X.x X.b d_R_judge_0 rfl (lv_at hl 0 rfl) ?_
  refine lv_iload_n X.x X.b d_R_judge_1 rfl (lv_at hl 1 rfl) ?_
  refine lv_iconst (v := nI 1) X.x X.b d_R_judge_2 (by decide) ?_
  refine q_cvi X (c_R_lacks_c l E S ω ζ η ψ (by rw [hω]) (by rw [hζ]) (by rw [hη]) (by rw [hψ]) j (nI 1) hj hb (by decide)) hW (q_recv X hW ds_R rfl) ok_R_lacks mw_1029 ⟨by decide, by decide⟩ (As := [.int (nI j), .int (nI 1)]) rfl rfl (Nat.le_of_ble_eq_true rfl) (lv := [(0, .ref (eA E 70)), (1, .int (nI j))]) hl ⟨Nat.le_refl 0, Nat.le_refl 0⟩ d_R_judge_3 (fun H locs hW => ?_)
  refine lv_if_eq (tgt := 20) X.x X.b d_R_judge_6 (by decide) (fun c6 => ?_) (fun c6 => ?_)
  · have c6 : 0 = 0 := (nI_eq (a := 0) (b := 0) (by omega) (by omega)).mp c6
    refine lv_iconst (v := nI 0) X.x X.b d_R_judge_20 (by decide) ?_
    refine lv_istore_n (lv' := [(2, .int (nI 0)), (0, .ref (eA E 70)), (1, .int (nI j))]) X.x X.b d_R_judge_21 rfl hl (by decide) rfl (fun ls hl => ?_)
    have loop22 : ∀ (fu22 : Nat) (i : Nat), i ≤ sz → lst (fun i => ¬ (i < nW ν ∧ ν (44 + 6 * i) = shr η j i)) (sz - i) i = (lst (fun i => ¬ (i < nW ν ∧ ν (44 + 6 * i) = shr η j i)) sz 0) → sz - i < fu22 → ∀ (H : Heap) (locs : List Loc) (ls : Array Slot), qWH E S s H locs → lv_has ls 3 [(2, .int (nI i)), (0, .ref (eA E 70)), (1, .int (nI j))] → W p l e (qRm 4) s m ([.ref (eA E 70), .int (nI j)] : List Value).toArray below meth c H locs 0 0 (MQ below (qQi E (nI 0) S s.heap.size) ([.ref (eA E 70), .int (nI j)] : List Value).toArray s 0 0 (qAA E s.heap.size)) (F0 m 22 ls []) := by
      intro fu22
      induction fu22 with
      | zero =>
        intro i hi hL hfu
        exact absurd hfu (Nat.not_lt_zero _)
      | succ fu22 ih22 =>
        intro i hi hL hfu H locs ls hW hl
        refine lv_iload_n X.x X.b d_R_judge_22 rfl (lv_at hl 0 rfl) ?_
        refine lv_aload_n X.x X.b d_R_judge_23 rfl (lv_at hl 1 rfl) ?_
        refine q_getr X hW qj4 rfl _ ds_R 18 (by decide) mw_704 rfl (c1 := 79) rfl d_R_judge_24 ?_
        refine lv_iload_n X.x X.b d_R_judge_27 rfl (lv_at hl 2 rfl) ?_
        refine g_ald X hW ds_79 (q_in (by omega) (by decide)) (p0 := j) (q_tn (by omega) (by omega)) (v := ζ j) (by rw [hζ]) d_R_judge_28 ?_
        rw [hs2]
        refine lv_icmp_ge (tgt := 66) X.x X.b d_R_judge_29 (by decide) (fun c29 => ?_) (fun c29 => ?_)
        · have c29 : sz ≤ i := (nI_leI (a := sz) (b := i) (by omega) (by omega)).mp c29
          refine lv_iload_n X.x X.b d_R_judge_66 rfl (lv_at hl 0 rfl) ?_
          refine lv_aload_n X.x X.b d_R_judge_67 rfl (lv_at hl 1 rfl) ?_
          refine q_getr X hW qj4 rfl _ ds_R 18 (by decide) mw_704 rfl (c1 := 79) rfl d_R_judge_68 ?_
          refine lv_iload_n X.x X.b d_R_judge_71 rfl (lv_at hl 2 rfl) ?_
          refine g_ald X hW ds_79 (q_in (by omega) (by decide)) (p0 := j) (q_tn (by omega) (by omega)) (v := ζ j) (by rw [hζ]) d_R_judge_72 ?_
          rw [hs2]
          refine lv_icmp_ne (tgt := 80) X.x X.b d_R_judge_73 (by decide) (fun c73 => ?_) (fun c73 => ?_)
          · have c73 : ¬ i = sz := fun z => c73 ((nI_eq (a := i) (b := sz) (by omega) (by omega)).mpr z)
            refine lv_iconst (v := nI 1) X.x X.b d_R_judge_80 (by decide) ?_
            refine lv_iload_n X.x X.b d_R_judge_81 rfl (lv_at hl 0 rfl) ?_
            refine lv_iadd X.x X.b d_R_judge_82 ?_
            rw [nI_add]
            have hi0 : i = (lst (fun i => ¬ (i < nW ν ∧ ν (44 + 6 * i) = shr η j i)) sz 0) := (by rw [← hL, show sz - i = 0 by omega, lst])
            exact absurd (hi0.trans hF) (by omega)
          · have c73 : i = sz := (nI_eq (a := i) (b := sz) (by omega) (by omega)).mp c73
            refine lv_iconst (v := nI 0) X.x X.b d_R_judge_76 (by decide) ?_
            refine lv_goto (tgt := 83) X.x X.b d_R_judge_77 (by decide) ?_
            have hi0 : i = (lst (fun i => ¬ (i < nW ν ∧ ν (44 + 6 * i) = shr η j i)) sz 0) := (by rw [← hL, show sz - i = 0 by omega, lst])
            exact q_zret X rfl hW ⟨rfl, rfl⟩ d_R_judge_83
        · have c29 : ¬ sz ≤ i := fun z => c29 ((nI_leI (a := sz) (b := i) (by omega) (by omega)).mpr z)
          refine lv_aload_n X.x X.b d_R_judge_32 rfl (lv_at hl 1 rfl) ?_
          refine lv_iload_n X.x X.b d_R_judge_33 rfl (lv_at hl 0 rfl) ?_
          refine q_cvi X (c_R_isWalker l E S ν (by rw [hν]) hwf (nI i)) hW (q_recv X hW ds_R rfl) ok_R_isWalker mw_841 ⟨by decide, by decide⟩ (As := [.int (nI i)]) rfl rfl (Nat.le_of_ble_eq_true rfl) (lv := [(2, .int (nI i)), (0, .ref (eA E 70)), (1, .int (nI j))]) hl ⟨Nat.le_refl 0, Nat.le_refl 0⟩ d_R_judge_34 (fun H locs hW => ?_)
          refine lv_if_eq (tgt := 66) X.x X.b d_R_judge_37 (by decide) (fun c37 => ?_) (fun c37 => ?_)
          · have c37 := b2i_e c37
            have c37 := mt (isW_i hwf (by omega)).mpr c37
            refine lv_iload_n X.x X.b d_R_judge_66 rfl (lv_at hl 0 rfl) ?_
            refine lv_aload_n X.x X.b d_R_judge_67 rfl (lv_at hl 1 rfl) ?_
            refine q_getr X hW qj4 rfl _ ds_R 18 (by decide) mw_704 rfl (c1 := 79) rfl d_R_judge_68 ?_
            refine lv_iload_n X.x X.b d_R_judge_71 rfl (lv_at hl 2 rfl) ?_
            refine g_ald X hW ds_79 (q_in (by omega) (by decide)) (p0 := j) (q_tn (by omega) (by omega)) (v := ζ j) (by rw [hζ]) d_R_judge_72 ?_
            rw [hs2]
            refine lv_icmp_ne (tgt := 80) X.x X.b d_R_judge_73 (by decide) (fun c73 => ?_) (fun c73 => ?_)
            · have c73 : ¬ i = sz := fun z => c73 ((nI_eq (a := i) (b := sz) (by omega) (by omega)).mpr z)
              refine lv_iconst (v := nI 1) X.x X.b d_R_judge_80 (by decide) ?_
              refine lv_iload_n X.x X.b d_R_judge_81 rfl (lv_at hl 0 rfl) ?_
              refine lv_iadd X.x X.b d_R_judge_82 ?_
              rw [nI_add]
              have hi0 : i = (lst (fun i => ¬ (i < nW ν ∧ ν (44 + 6 * i) = shr η j i)) sz 0) := (by rw [← hL, show sz - i = (sz - i - 1) + 1 by omega, lst, if_pos (show ¬ (i < nW ν ∧ ν (44 + 6 * i) = shr η j i) from fun z => by omega)])
              exact absurd (hi0.trans hF) (by omega)
            · have c73 : i = sz := (nI_eq (a := i) (b := sz) (by omega) (by omega)).mp c73
              refine lv_iconst (v := nI 0) X.x X.b d_R_judge_76 (by decide) ?_
              refine lv_goto (tgt := 83) X.x X.b d_R_judge_77 (by decide) ?_
              have hi0 : i = (lst (fun i => ¬ (i < nW ν ∧ ν (44 + 6 * i) = shr η j i)) sz 0) := (by rw [← hL, show sz - i = (sz - i - 1) + 1 by omega, lst, if_pos (show ¬ (i < nW ν ∧ ν (44 + 6 * i) = shr η j i) from fun z => by omega)])
              exact q_zret X rfl hW ⟨rfl, rfl⟩ d_R_judge_83
          · have c37 := b2i_n c37
            have c37 := (isW_i hwf (by omega)).mp c37
            refine lv_aload_n X.x X.b d_R_judge_40 rfl (lv_at hl 1 rfl) ?_
            refine q_getr X hW qj4 rfl _ ds_R 19 (by decide) mw_705 rfl (c1 := 80) rfl d_R_judge_41 ?_
            refine lv_bipush (v := nI 40) X.x X.b d_R_judge_44 (by decide) ?_
            refine lv_iload_n X.x X.b d_R_judge_46 rfl (lv_at hl 2 rfl) ?_
            refine lv_imul X.x X.b d_R_judge_47 ?_
            rw [pk_mul]
            refine lv_iload_n X.x X.b d_R_judge_48 rfl (lv_at hl 0 rfl) ?_
            refine lv_iadd X.x X.b d_R_judge_49 ?_
            rw [nI_add]
            refine g_ald X hW ds_80 (q_in (by omega) (by decide)) (p0 := 40 * j + i) (q_tn (by omega) (by omega)) (v := η (40 * j + i)) (by rw [hη]) d_R_judge_50 ?_
            refine lv_aload_n X.x X.b d_R_judge_51 rfl (lv_at hl 1 rfl) ?_
            refine lv_iload_n X.x X.b d_R_judge_52 rfl (lv_at hl 0 rfl) ?_
            refine lv_iconst (v := nI 0) X.x X.b d_R_judge_53 (by decide) ?_
            refine q_cvi X (c_R_walkerIs_z l E S ν (by rw [hν]) i (by omega)) hW (q_recv X hW ds_R rfl) ok_R_walkerIs mw_845 ⟨by decide, by decide⟩ (As := [.int (nI i), .int (nI 0)]) rfl rfl (Nat.le_of_ble_eq_true rfl) (lv := [(2, .int (nI i)), (0, .ref (eA E 70)), (1, .int (nI j))]) hl ⟨Nat.le_refl 0, Nat.le_refl 0⟩ d_R_judge_54 (fun H locs hW => ?_)
            refine lv_icmp_ne (tgt := 66) X.x X.b d_R_judge_57 (by decide) (fun c57 => ?_) (fun c57 => ?_)
            · refine lv_iload_n X.x X.b d_R_judge_66 rfl (lv_at hl 0 rfl) ?_
              refine lv_aload_n X.x X.b d_R_judge_67 rfl (lv_at hl 1 rfl) ?_
              refine q_getr X hW qj4 rfl _ ds_R 18 (by decide) mw_704 rfl (c1 := 79) rfl d_R_judge_68 ?_
              refine lv_iload_n X.x X.b d_R_judge_71 rfl (lv_at hl 2 rfl) ?_
              refine g_ald X hW ds_79 (q_in (by omega) (by decide)) (p0 := j) (q_tn (by omega) (by omega)) (v := ζ j) (by rw [hζ]) d_R_judge_72 ?_
              rw [hs2]
              refine lv_icmp_ne (tgt := 80) X.x X.b d_R_judge_73 (by decide) (fun c73 => ?_) (fun c73 => ?_)
              · have c73 : ¬ i = sz := fun z => c73 ((nI_eq (a := i) (b := sz) (by omega) (by omega)).mpr z)
                refine lv_iconst (v := nI 1) X.x X.b d_R_judge_80 (by decide) ?_
                refine lv_iload_n X.x X.b d_R_judge_81 rfl (lv_at hl 0 rfl) ?_
                refine lv_iadd X.x X.b d_R_judge_82 ?_
                rw [nI_add]
                have hi0 : i = (lst (fun i => ¬ (i < nW ν ∧ ν (44 + 6 * i) = shr η j i)) sz 0) := (by rw [← hL, show sz - i = (sz - i - 1) + 1 by omega, lst, if_pos (show ¬ (i < nW ν ∧ ν (44 + 6 * i) = shr η j i) from fun z => c57 z.2.symm)])
                exact absurd (hi0.trans hF) (by omega)
              · have c73 : i = sz := (nI_eq (a := i) (b := sz) (by omega) (by omega)).mp c73
                refine lv_iconst (v := nI 0) X.x X.b d_R_judge_76 (by decide) ?_
                refine lv_goto (tgt := 83) X.x X.b d_R_judge_77 (by decide) ?_
                have hi0 : i = (lst (fun i => ¬ (i < nW ν ∧ ν (44 + 6 * i) = shr η j i)) sz 0) := (by rw [← hL, show sz - i = (sz - i - 1) + 1 by omega, lst, if_pos (show ¬ (i < nW ν ∧ ν (44 + 6 * i) = shr η j i) from fun z => c57 z.2.symm)])
                exact q_zret X rfl hW ⟨rfl, rfl⟩ d_R_judge_83
            · refine lv_iinc (v := nI (i + 1)) (lv' := [(2, .int (nI (i + 1))), (0, .ref (eA E 70)), (1, .int (nI j))]) X.x X.b d_R_judge_60 hl (k := 0) rfl (by rw [show Int32.ofInt 1 = nI 1 from by decide, nI_add]) (by decide) rfl (fun ls hl => ?_)
              refine lv_goto (tgt := 22) X.x X.b d_R_judge_63 (by decide) ?_
              exact ih22 (i + 1) (by omega) (by rw [← hL, show sz - i = (sz - (i + 1)) + 1 by omega, lst, if_neg (fun z => z ⟨by omega, c57.symm⟩)]) (by omega) _ _ _ hW (lv_sub hl [0, 1, 2] rfl)
    exact loop22 (sz - 0 + 1) 0 (by omega) rfl (Nat.lt_succ_self _) _ _ _ hW (lv_sub hl [0, 1, 2] rfl)
  · exact absurd (by decide) c6
set_option maxHeartbeats 1000000 in
set_option maxRecDepth 20000 in
theorem c_R_judge_n (l : Launch) (E : QE) (S : QM) (ν : Nat → Int32) (hν : S 16 = ν) (hwf : WF ν) (ω ζ η ψ : Nat → Int32) (hω : S 22 = ω) (hζ : S 23 = ζ) (hη : S 24 = η) (hψ : S 19 = ψ) (j sz : Nat) (hj : j < 4) (hs2 : ζ j = nI sz) (hsz : sz ≤ 40) (hb : ¬ ω j = 0) (hF : ¬ (lst (fun i => ¬ (i < nW ν ∧ ν (44 + 6 * i) = shr η j i)) sz 0) = sz) : qCI E l y_R_judge prog_7_method_106_code 3 .int 4 [.ref (eA E 70), .int (nI j)] S (nI (1 + (lst (fun i => ¬ (i < nW ν ∧ ν (44 + 6 * i) = shr η j i)) sz 0))) S := by
  refine qCI_of (by decide) (Nat.le_of_ble_eq_true rfl) (fun p e s m below meth c ls X hW hl => ?_)
  have hl : lv_has ls 3 [(0, .ref (eA E 70)), (1, .int (nI j))] := hl
  have htl := hwf.tl
  have hwl := hwf.wl
  have hdl := hwf.dl
  refine lv_aload_n X.x X.b d_R_judge_0 rfl (lv_at hl 0 rfl) ?_
  refine lv_iload_n X.x X.b d_R_judge_1 rfl (lv_at hl 1 rfl) ?_
  refine lv_iconst (v := nI 1) X.x X.b d_R_judge_2 (by decide) ?_
  refine q_cvi X (c_R_lacks_c l E S ω ζ η ψ (by rw [hω]) (by rw [hζ]) (by rw [hη]) (by rw [hψ]) j (nI 1) hj hb (by decide)) hW (q_recv X hW ds_R rfl) ok_R_lacks mw_1029 ⟨by decide, by decide⟩ (As := [.int (nI j), .int (nI 1)]) rfl rfl (Nat.le_of_ble_eq_true rfl) (lv := [(0, .ref (eA E 70)), (1, .int (nI j))]) hl ⟨Nat.le_refl 0, Nat.le_refl 0⟩ d_R_judge_3 (fun H locs hW => ?_)
  refine lv_if_eq (tgt := 20) X.x X.b d_R_judge_6 (by decide) (fun c6 => ?_) (fun c6 => ?_)
  · have c6 : 0 = 0 := (nI_eq (a := 0) (b := 0) (by omega) (by omega)).mp c6
    refine lv_iconst (v := nI 0) X.x X.b d_R_judge_20 (by decide) ?_
    refine lv_istore_n (lv' := [(2, .int (nI 0)), (0, .ref (eA E 70)), (1, .int (nI j))]) X.x X.b d_R_judge_21 rfl hl (by decide) rfl (fun ls hl => ?_)
    have loop22 : ∀ (fu22 : Nat) (i : Nat), i ≤ sz → lst (fun i => ¬ (i < nW ν ∧ ν (44 + 6 * i) = shr η j i)) (sz - i) i = (lst (fun i => ¬ (i < nW ν ∧ ν (44 + 6 * i) = shr η j i)) sz 0) → sz - i < fu22 → ∀ (H : Heap) (locs : List Loc) (ls : Array Slot), qWH E S s H locs → lv_has ls 3 [(2, .int (nI i)), (0, .ref (eA E 70)), (1, .int (nI j))] → W p l e (qRm 4) s m ([.ref (eA E 70), .int (nI j)] : List Value).toArray below meth c H locs 0 0 (MQ below (qQi E (nI (1 + (lst (fun i => ¬ (i < nW ν ∧ ν (44 + 6 * i) = shr η j i)) sz 0))) S s.heap.size) ([.ref (eA E 70), .int (nI j)] : List Value).toArray s 0 0 (qAA E s.heap.size)) (F0 m 22 ls []) := by
      intro fu22
      induction fu22 with
      | zero =>
        intro i hi hL hfu
        exact absurd hfu (Nat.not_lt_zero _)
      | succ fu22 ih22 =>
        intro i hi hL hfu H locs ls hW hl
        refine lv_iload_n X.x X.b d_R_judge_22 rfl (lv_at hl 0 rfl) ?_
        refine lv_aload_n X.x X.b d_R_judge_23 rfl (lv_at hl 1 rfl) ?_
        refine q_getr X hW qj4 rfl _ ds_R 18 (by decide) mw_704 rfl (c1 := 79) rfl d_R_judge_24 ?_
        refine lv_iload_n X.x X.b d_R_judge_27 rfl (lv_at hl 2 rfl) ?_
        refine g_ald X hW ds_79 (q_in (by omega) (by decide)) (p0 := j) (q_tn (by omega) (by omega)) (v := ζ j) (by rw [hζ]) d_R_judge_28 ?_
        rw [hs2]
        refine lv_icmp_ge (tgt := 66) X.x X.b d_R_judge_29 (by decide) (fun c29 => ?_) (fun c29 => ?_)
        · have c29 : sz ≤ i := (nI_leI (a := sz) (b := i) (by omega) (by omega)).mp c29
          refine lv_iload_n X.x X.b d_R_judge_66 rfl (lv_at hl 0 rfl) ?_
          refine lv_aload_n X.x X.b d_R_judge_67 rfl (lv_at hl 1 rfl) ?_
          refine q_getr X hW qj4 rfl _ ds_R 18 (by decide) mw_704 rfl (c1 := 79) rfl d_R_judge_68 ?_
          refine lv_iload_n X.x X.b d_R_judge_71 rfl (lv_at hl 2 rfl) ?_
          refine g_ald X hW ds_79 (q_in (by omega) (by decide)) (p0 := j) (q_tn (by omega) (by omega)) (v := ζ j) (by rw [hζ]) d_R_judge_72 ?_
          rw [hs2]
          refine lv_icmp_ne (tgt := 80) X.x X.b d_R_judge_73 (by decide) (fun c73 => ?_) (fun c73 => ?_)
          · have c73 : ¬ i = sz := fun z => c73 ((nI_eq (a := i) (b := sz) (by omega) (by omega)).mpr z)
            refine lv_iconst (v := nI 1) X.x X.b d_R_judge_80 (by decide) ?_
            refine lv_iload_n X.x X.b d_R_judge_81 rfl (lv_at hl 0 rfl) ?_
            refine lv_iadd X.x X.b d_R_judge_82 ?_
            rw [nI_add]
            have hi0 : i = (lst (fun i => ¬ (i < nW ν ∧ ν (44 + 6 * i) = shr η j i)) sz 0) := (by rw [← hL, show sz - i = 0 by omega, lst])
            exact q_zret X rfl hW ⟨congrArg (fun q => nI (1 + q)) hi0, rfl⟩ d_R_judge_83
          · have c73 : i = sz := (nI_eq (a := i) (b := sz) (by omega) (by omega)).mp c73
            refine lv_iconst (v := nI 0) X.x X.b d_R_judge_76 (by decide) ?_
            refine lv_goto (tgt := 83) X.x X.b d_R_judge_77 (by decide) ?_
            have hi0 : i = (lst (fun i => ¬ (i < nW ν ∧ ν (44 + 6 * i) = shr η j i)) sz 0) := (by rw [← hL, show sz - i = 0 by omega, lst])
            exact absurd (show (lst (fun i => ¬ (i < nW ν ∧ ν (44 + 6 * i) = shr η j i)) sz 0) = sz by omega) hF
        · have c29 : ¬ sz ≤ i := fun z => c29 ((nI_leI (a := sz) (b := i) (by omega) (by omega)).mpr z)
          refine lv_aload_n X.x X.b d_R_judge_32 rfl (lv_at hl 1 rfl) ?_
          refine lv_iload_n X.x X.b d_R_judge_33 rfl (lv_at hl 0 rfl) ?_
          refine q_cvi X (c_R_isWalker l E S ν (by rw [hν]) hwf (nI i)) hW (q_recv X hW ds_R rfl) ok_R_isWalker mw_841 ⟨by decide, by decide⟩ (As := [.int (nI i)]) rfl rfl (Nat.le_of_ble_eq_true rfl) (lv := [(2, .int (nI i)), (0, .ref (eA E 70)), (1, .int (nI j))]) hl ⟨Nat.le_refl 0, Nat.le_refl 0⟩ d_R_judge_34 (fun H locs hW => ?_)
          refine lv_if_eq (tgt := 66) X.x X.b d_R_judge_37 (by decide) (fun c37 => ?_) (fun c37 => ?_)
          · have c37 := b2i_e c37
            have c37 := mt (isW_i hwf (by omega)).mpr c37
            refine lv_iload_n X.x X.b d_R_judge_66 rfl (lv_at hl 0 rfl) ?_
            refine lv_aload_n X.x X.b d_R_judge_67 rfl (lv_at hl 1 rfl) ?_
            refine q_getr X hW qj4 rfl _ ds_R 18 (by decide) mw_704 rfl (c1 := 79) rfl d_R_judge_68 ?_
            refine lv_iload_n X.x X.b d_R_judge_71 rfl (lv_at hl 2 rfl) ?_
            refine g_ald X hW ds_79 (q_in (by omega) (by decide)) (p0 := j) (q_tn (by omega) (by omega)) (v := ζ j) (by rw [hζ]) d_R_judge_72 ?_
            rw [hs2]
            refine lv_icmp_ne (tgt := 80) X.x X.b d_R_judge_73 (by decide) (fun c73 => ?_) (fun c73 => ?_)
            · have c73 : ¬ i = sz := fun z => c73 ((nI_eq (a := i) (b := sz) (by omega) (by omega)).mpr z)
              refine lv_iconst (v := nI 1) X.x X.b d_R_judge_80 (by decide) ?_
              refine lv_iload_n X.x X.b d_R_judge_81 rfl (lv_at hl 0 rfl) ?_
              refine lv_iadd X.x X.b d_R_judge_82 ?_
              rw [nI_add]
              have hi0 : i = (lst (fun i => ¬ (i < nW ν ∧ ν (44 + 6 * i) = shr η j i)) sz 0) := (by rw [← hL, show sz - i = (sz - i - 1) + 1 by omega, lst, if_pos (show ¬ (i < nW ν ∧ ν (44 + 6 * i) = shr η j i) from fun z => by omega)])
              exact q_zret X rfl hW ⟨congrArg (fun q => nI (1 + q)) hi0, rfl⟩ d_R_judge_83
            · have c73 : i = sz := (nI_eq (a := i) (b := sz) (by omega) (by omega)).mp c73
              refine lv_iconst (v := nI 0) X.x X.b d_R_judge_76 (by decide) ?_
              refine lv_goto (tgt := 83) X.x X.b d_R_judge_77 (by decide) ?_
              have hi0 : i = (lst (fun i => ¬ (i < nW ν ∧ ν (44 + 6 * i) = shr η j i)) sz 0) := (by rw [← hL, show sz - i = (sz - i - 1) + 1 by omega, lst, if_pos (show ¬ (i < nW ν ∧ ν (44 + 6 * i) = shr η j i) from fun z => by omega)])
              exact absurd (show (lst (fun i => ¬ (i < nW ν ∧ ν (44 + 6 * i) = shr η j i)) sz 0) = sz by omega) hF
          · have c37 := b2i_n c37
            have c37 := (isW_i hwf (by omega)).mp c37
            refine lv_aload_n X.x X.b d_R_judge_40 rfl (lv_at hl 1 rfl) ?_
            refine q_getr X hW qj4 rfl _ ds_R 19 (by decide) mw_705 rfl (c1 := 80) rfl d_R_judge_41 ?_
            refine lv_bipush (v := nI 40) X.x X.b d_R_judge_44 (by decide) ?_
            refine lv_iload_n X.x X.b d_R_judge_46 rfl (lv_at hl 2 rfl) ?_
            refine lv_imul X.x X.b d_R_judge_47 ?_
            rw [pk_mul]
            refine lv_iload_n X.x X.b d_R_judge_48 rfl (lv_at hl 0 rfl) ?_
            refine lv_iadd X.x X.b d_R_judge_49 ?_
            rw [nI_add]
            refine g_ald X hW ds_80 (q_in (by omega) (by decide)) (p0 := 40 * j + i) (q_tn (by omega) (by omega)) (v := η (40 * j + i)) (by rw [hη]) d_R_judge_50 ?_
            refine lv_aload_n X.x X.b d_R_judge_51 rfl (lv_at hl 1 rfl) ?_
            refine lv_iload_n X.x X.b d_R_judge_52 rfl (lv_at hl 0 rfl) ?_
            refine lv_iconst (v := nI 0) X.x X.b d_R_judge_53 (by decide) ?_
            refine q_cvi X (c_R_walkerIs_z l E S ν (by rw [hν]) i (by omega)) hW (q_recv X hW ds_R rfl) ok_R_walkerIs mw_845 ⟨by decide, by decide⟩ (As := [.int (nI i), .int (nI 0)]) rfl rfl (Nat.le_of_ble_eq_true rfl) (lv := [(2, .int (nI i)), (0, .ref (eA E 70)), (1, .int (nI j))]) hl ⟨Nat.le_refl 0, Nat.le_refl 0⟩ d_R_judge_54 (fun H locs hW => ?_)
            refine lv_icmp_ne (tgt := 66) X.x X.b d_R_judge_57 (by decide) (fun c57 => ?_) (fun c57 => ?_)
            · refine lv_iload_n X.x X.b d_R_judge_66 rfl (lv_at hl 0 rfl) ?_
              refine lv_aload_n X.x X.b d_R_judge_67 rfl (lv_at hl 1 rfl) ?_
              refine q_getr X hW qj4 rfl _ ds_R 18 (by decide) mw_704 rfl (c1 := 79) rfl d_R_judge_68 ?_
              refine lv_iload_n X.x X.b d_R_judge_71 rfl (lv_at hl 2 rfl) ?_
              refine g_ald X hW ds_79 (q_in (by omega) (by decide)) (p0 := j) (q_tn (by omega) (by omega)) (v := ζ j) (by rw [hζ]) d_R_judge_72 ?_
              rw [hs2]
              refine lv_icmp_ne (tgt := 80) X.x X.b d_R_judge_73 (by decide) (fun c73 => ?_) (fun c73 => ?_)
              · have c73 : ¬ i = sz := fun z => c73 ((nI_eq (a := i) (b := sz) (by omega) (by omega)).mpr z)
                refine lv_iconst (v := nI 1) X.x X.b d_R_judge_80 (by decide) ?_
                refine lv_iload_n X.x X.b d_R_judge_81 rfl (lv_at hl 0 rfl) ?_
                refine lv_iadd X.x X.b d_R_judge_82 ?_
                rw [nI_add]
                have hi0 : i = (lst (fun i => ¬ (i < nW ν ∧ ν (44 + 6 * i) = shr η j i)) sz 0) := (by rw [← hL, show sz - i = (sz - i - 1) + 1 by omega, lst, if_pos (show ¬ (i < nW ν ∧ ν (44 + 6 * i) = shr η j i) from fun z => c57 z.2.symm)])
                exact q_zret X rfl hW ⟨congrArg (fun q => nI (1 + q)) hi0, rfl⟩ d_R_judge_83
              · have c73 : i = sz := (nI_eq (a := i) (b := sz) (by omega) (by omega)).mp c73
                refine lv_iconst (v := nI 0) X.x X.b d_R_judge_76 (by decide) ?_
                refine lv_goto (tgt := 83) X.x X.b d_R_judge_77 (by decide) ?_
                have hi0 : i = (lst (fun i => ¬ (i < nW ν ∧ ν (44 + 6 * i) = shr η j i)) sz 0) := (by rw [← hL, show sz - i = (sz - i - 1) + 1 by omega, lst, if_pos (show ¬ (i < nW ν ∧ ν (44 + 6 * i) = shr η j i) from fun z => c57 z.2.symm)])
                exact absurd (show (lst (fun i => ¬ (i < nW ν ∧ ν (44 + 6 * i) = shr η j i)) sz 0) = sz by omega) hF
            · refine lv_iinc (v := nI (i + 1)) (lv' := [(2, .int (nI (i + 1))), (0, .ref (eA E 70)), (1, .int (nI j))]) X.x X.b d_R_judge_60 hl (k := 0) rfl (by rw [show Int32.ofInt 1 = nI 1 from by decide, nI_add]) (by decide) rfl (fun ls hl => ?_)
              refine lv_goto (tgt := 22) X.x X.b d_R_judge_63 (by decide) ?_
              exact ih22 (i + 1) (by omega) (by rw [← hL, show sz - i = (sz - (i + 1)) + 1 by omega, lst, if_neg (fun z => z ⟨by omega, c57.symm⟩)]) (by omega) _ _ _ hW (lv_sub hl [0, 1, 2] rfl)
    exact loop22 (sz - 0 + 1) 0 (by omega) rfl (Nat.lt_succ_self _) _ _ _ hW (lv_sub hl [0, 1, 2] rfl)
  · exact absurd (by decide) c6
