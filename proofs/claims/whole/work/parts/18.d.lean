theorem d_R_bits_0 : decode prog_7_method_8_code 0 = .ok (.iconst 0, 1) := by decide +kernel
theorem d_R_bits_1 : decode prog_7_method_8_code 1 = .ok (.istore_n 1, 1) := by decide +kernel
theorem d_R_bits_2 : decode prog_7_method_8_code 2 = .ok (.iload_n 0, 1) := by decide +kernel
theorem d_R_bits_3 : decode prog_7_method_8_code 3 = .ok (.istore_n 2, 1) := by decide +kernel
theorem d_R_bits_4 : decode prog_7_method_8_code 4 = .ok (.iload_n 2, 1) := by decide +kernel
theorem d_R_bits_5 : decode prog_7_method_8_code 5 = .ok (.ifCond .eq 15, 3) := by decide +kernel
theorem d_R_bits_8 : decode prog_7_method_8_code 8 = .ok (.iinc 1 1, 3) := by decide +kernel
theorem d_R_bits_11 : decode prog_7_method_8_code 11 = .ok (.iload_n 2, 1) := by decide +kernel
theorem d_R_bits_12 : decode prog_7_method_8_code 12 = .ok (.iload_n 2, 1) := by decide +kernel
theorem d_R_bits_13 : decode prog_7_method_8_code 13 = .ok (.iconst 1, 1) := by decide +kernel
theorem d_R_bits_14 : decode prog_7_method_8_code 14 = .ok (.isub, 1) := by decide +kernel
theorem d_R_bits_15 : decode prog_7_method_8_code 15 = .ok (.iand, 1) := by decide +kernel
theorem d_R_bits_16 : decode prog_7_method_8_code 16 = .ok (.istore_n 2, 1) := by decide +kernel
theorem d_R_bits_17 : decode prog_7_method_8_code 17 = .ok (.goto (-13), 3) := by decide +kernel
theorem d_R_bits_20 : decode prog_7_method_8_code 20 = .ok (.iload_n 1, 1) := by decide +kernel
theorem d_R_bits_21 : decode prog_7_method_8_code 21 = .ok (.ireturn, 1) := by decide +kernel
theorem d_R_giveUp_0 : decode prog_7_method_71_code 0 = .ok (.aload_n 0, 1) := by decide +kernel
theorem d_R_giveUp_1 : decode prog_7_method_71_code 1 = .ok (.iload_n 1, 1) := by decide +kernel
theorem d_R_giveUp_2 : decode prog_7_method_71_code 2 = .ok (.invokevirtual 122, 3) := by decide +kernel
theorem d_R_giveUp_5 : decode prog_7_method_71_code 5 = .ok (.ifCond .eq 13, 3) := by decide +kernel
theorem d_R_giveUp_8 : decode prog_7_method_71_code 8 = .ok (.iload_n 2, 1) := by decide +kernel
theorem d_R_giveUp_9 : decode prog_7_method_71_code 9 = .ok (.iconst 0, 1) := by decide +kernel
theorem d_R_giveUp_10 : decode prog_7_method_71_code 10 = .ok (.bipush 20, 2) := by decide +kernel
theorem d_R_giveUp_12 : decode prog_7_method_71_code 12 = .ok (.invokestatic 70, 3) := by decide +kernel
theorem d_R_giveUp_15 : decode prog_7_method_71_code 15 = .ok (.ifCond .ne 10, 3) := by decide +kernel
theorem d_R_giveUp_25 : decode prog_7_method_71_code 25 = .ok (.iload_n 1, 1) := by decide +kernel
theorem d_R_giveUp_26 : decode prog_7_method_71_code 26 = .ok (.iconst 3, 1) := by decide +kernel
theorem d_R_giveUp_27 : decode prog_7_method_71_code 27 = .ok (.invokestatic 88, 3) := by decide +kernel
theorem d_R_giveUp_30 : decode prog_7_method_71_code 30 = .ok (.istore_n 3, 1) := by decide +kernel
theorem d_R_giveUp_31 : decode prog_7_method_71_code 31 = .ok (.aload_n 0, 1) := by decide +kernel
theorem d_R_giveUp_32 : decode prog_7_method_71_code 32 = .ok (.getfield 9, 3) := by decide +kernel
theorem d_R_giveUp_35 : decode prog_7_method_71_code 35 = .ok (.iload_n 3, 1) := by decide +kernel
theorem d_R_giveUp_36 : decode prog_7_method_71_code 36 = .ok (.iaload, 1) := by decide +kernel
theorem d_R_giveUp_37 : decode prog_7_method_71_code 37 = .ok (.istore 4, 2) := by decide +kernel
theorem d_R_giveUp_39 : decode prog_7_method_71_code 39 = .ok (.iconst (-1), 1) := by decide +kernel
theorem d_R_giveUp_40 : decode prog_7_method_71_code 40 = .ok (.istore 5, 2) := by decide +kernel
theorem d_R_giveUp_42 : decode prog_7_method_71_code 42 = .ok (.iconst 1, 1) := by decide +kernel
theorem d_R_giveUp_43 : decode prog_7_method_71_code 43 = .ok (.aload_n 0, 1) := by decide +kernel
theorem d_R_giveUp_44 : decode prog_7_method_71_code 44 = .ok (.getfield 9, 3) := by decide +kernel
theorem d_R_giveUp_47 : decode prog_7_method_71_code 47 = .ok (.iconst 1, 1) := by decide +kernel
theorem d_R_giveUp_48 : decode prog_7_method_71_code 48 = .ok (.iaload, 1) := by decide +kernel
theorem d_R_giveUp_49 : decode prog_7_method_71_code 49 = .ok (.ishl, 1) := by decide +kernel
theorem d_R_giveUp_50 : decode prog_7_method_71_code 50 = .ok (.iconst 1, 1) := by decide +kernel
theorem d_R_giveUp_51 : decode prog_7_method_71_code 51 = .ok (.isub, 1) := by decide +kernel
theorem d_R_giveUp_52 : decode prog_7_method_71_code 52 = .ok (.istore 6, 2) := by decide +kernel
theorem d_R_giveUp_54 : decode prog_7_method_71_code 54 = .ok (.iload 6, 2) := by decide +kernel
theorem d_R_giveUp_56 : decode prog_7_method_71_code 56 = .ok (.ifCond .lt 58, 3) := by decide +kernel
theorem d_R_giveUp_59 : decode prog_7_method_71_code 59 = .ok (.aload_n 0, 1) := by decide +kernel
theorem d_R_giveUp_60 : decode prog_7_method_71_code 60 = .ok (.getfield 9, 3) := by decide +kernel
theorem d_R_giveUp_63 : decode prog_7_method_71_code 63 = .ok (.iload_n 3, 1) := by decide +kernel
theorem d_R_giveUp_64 : decode prog_7_method_71_code 64 = .ok (.iload 4, 2) := by decide +kernel
theorem d_R_giveUp_66 : decode prog_7_method_71_code 66 = .ok (.iload 6, 2) := by decide +kernel
theorem d_R_giveUp_68 : decode prog_7_method_71_code 68 = .ok (.iconst (-1), 1) := by decide +kernel
theorem d_R_giveUp_69 : decode prog_7_method_71_code 69 = .ok (.ixor, 1) := by decide +kernel
theorem d_R_giveUp_70 : decode prog_7_method_71_code 70 = .ok (.iand, 1) := by decide +kernel
theorem d_R_giveUp_71 : decode prog_7_method_71_code 71 = .ok (.iastore, 1) := by decide +kernel
theorem d_R_giveUp_72 : decode prog_7_method_71_code 72 = .ok (.iload 5, 2) := by decide +kernel
theorem d_R_giveUp_74 : decode prog_7_method_71_code 74 = .ok (.ifCond .lt 16, 3) := by decide +kernel
theorem d_R_giveUp_77 : decode prog_7_method_71_code 77 = .ok (.iload 6, 2) := by decide +kernel
theorem d_R_giveUp_79 : decode prog_7_method_71_code 79 = .ok (.invokestatic 230, 3) := by decide +kernel
theorem d_R_giveUp_82 : decode prog_7_method_71_code 82 = .ok (.iload 5, 2) := by decide +kernel
theorem d_R_giveUp_84 : decode prog_7_method_71_code 84 = .ok (.invokestatic 230, 3) := by decide +kernel
theorem d_R_giveUp_87 : decode prog_7_method_71_code 87 = .ok (.if_icmp .gt 17, 3) := by decide +kernel
theorem d_R_giveUp_90 : decode prog_7_method_71_code 90 = .ok (.aload_n 0, 1) := by decide +kernel
theorem d_R_giveUp_91 : decode prog_7_method_71_code 91 = .ok (.iload_n 1, 1) := by decide +kernel
theorem d_R_giveUp_92 : decode prog_7_method_71_code 92 = .ok (.iload_n 2, 1) := by decide +kernel
theorem d_R_giveUp_93 : decode prog_7_method_71_code 93 = .ok (.invokevirtual 227, 3) := by decide +kernel
theorem d_R_giveUp_96 : decode prog_7_method_71_code 96 = .ok (.ifCond .eq 8, 3) := by decide +kernel
theorem d_R_giveUp_99 : decode prog_7_method_71_code 99 = .ok (.iload 6, 2) := by decide +kernel
theorem d_R_giveUp_101 : decode prog_7_method_71_code 101 = .ok (.goto 5, 3) := by decide +kernel
theorem d_R_giveUp_104 : decode prog_7_method_71_code 104 = .ok (.iload 5, 2) := by decide +kernel
theorem d_R_giveUp_106 : decode prog_7_method_71_code 106 = .ok (.istore 5, 2) := by decide +kernel
theorem d_R_giveUp_108 : decode prog_7_method_71_code 108 = .ok (.iinc 6 (-1), 3) := by decide +kernel
theorem d_R_giveUp_111 : decode prog_7_method_71_code 111 = .ok (.goto (-57), 3) := by decide +kernel
theorem d_R_giveUp_114 : decode prog_7_method_71_code 114 = .ok (.aload_n 0, 1) := by decide +kernel
theorem d_R_giveUp_115 : decode prog_7_method_71_code 115 = .ok (.getfield 9, 3) := by decide +kernel
theorem d_R_giveUp_118 : decode prog_7_method_71_code 118 = .ok (.iload_n 3, 1) := by decide +kernel
theorem d_R_giveUp_119 : decode prog_7_method_71_code 119 = .ok (.iload 4, 2) := by decide +kernel
theorem d_R_giveUp_121 : decode prog_7_method_71_code 121 = .ok (.iastore, 1) := by decide +kernel
theorem d_R_giveUp_122 : decode prog_7_method_71_code 122 = .ok (.aload_n 0, 1) := by decide +kernel
theorem d_R_giveUp_123 : decode prog_7_method_71_code 123 = .ok (.iload 5, 2) := by decide +kernel
theorem d_R_giveUp_125 : decode prog_7_method_71_code 125 = .ok (.invokevirtual 214, 3) := by decide +kernel
theorem d_R_giveUp_128 : decode prog_7_method_71_code 128 = .ok (.ireturn, 1) := by decide +kernel
theorem d_R_giveUp_18 : decode prog_7_method_71_code 18 = .ok (.aload_n 0, 1) := by decide +kernel
theorem d_R_giveUp_19 : decode prog_7_method_71_code 19 = .ok (.ldc 60, 2) := by decide +kernel
theorem d_R_giveUp_21 : decode prog_7_method_71_code 21 = .ok (.invokevirtual 66, 3) := by decide +kernel
theorem d_R_giveUp_24 : decode prog_7_method_71_code 24 = .ok (.ireturn, 1) := by decide +kernel
theorem d_R_odds_0 : decode prog_7_method_79_code 0 = .ok (.aload_n 0, 1) := by decide +kernel
theorem d_R_odds_1 : decode prog_7_method_79_code 1 = .ok (.iload_n 1, 1) := by decide +kernel
theorem d_R_odds_2 : decode prog_7_method_79_code 2 = .ok (.invokevirtual 122, 3) := by decide +kernel
theorem d_R_odds_5 : decode prog_7_method_79_code 5 = .ok (.ifCond .eq 31, 3) := by decide +kernel
theorem d_R_odds_8 : decode prog_7_method_79_code 8 = .ok (.aload_n 0, 1) := by decide +kernel
theorem d_R_odds_9 : decode prog_7_method_79_code 9 = .ok (.iload_n 2, 1) := by decide +kernel
theorem d_R_odds_10 : decode prog_7_method_79_code 10 = .ok (.invokevirtual 116, 3) := by decide +kernel
theorem d_R_odds_13 : decode prog_7_method_79_code 13 = .ok (.ifCond .eq 23, 3) := by decide +kernel
theorem d_R_odds_16 : decode prog_7_method_79_code 16 = .ok (.iload_n 3, 1) := by decide +kernel
theorem d_R_odds_17 : decode prog_7_method_79_code 17 = .ok (.iconst 0, 1) := by decide +kernel
theorem d_R_odds_18 : decode prog_7_method_79_code 18 = .ok (.bipush 15, 2) := by decide +kernel
theorem d_R_odds_20 : decode prog_7_method_79_code 20 = .ok (.invokestatic 70, 3) := by decide +kernel
theorem d_R_odds_23 : decode prog_7_method_79_code 23 = .ok (.ifCond .eq 13, 3) := by decide +kernel
theorem d_R_odds_26 : decode prog_7_method_79_code 26 = .ok (.iload 4, 2) := by decide +kernel
theorem d_R_odds_28 : decode prog_7_method_79_code 28 = .ok (.iconst 0, 1) := by decide +kernel
theorem d_R_odds_29 : decode prog_7_method_79_code 29 = .ok (.iconst 1, 1) := by decide +kernel
theorem d_R_odds_30 : decode prog_7_method_79_code 30 = .ok (.invokestatic 70, 3) := by decide +kernel
theorem d_R_odds_33 : decode prog_7_method_79_code 33 = .ok (.ifCond .ne 11, 3) := by decide +kernel
theorem d_R_odds_44 : decode prog_7_method_79_code 44 = .ok (.iload_n 1, 1) := by decide +kernel
theorem d_R_odds_45 : decode prog_7_method_79_code 45 = .ok (.iconst 0, 1) := by decide +kernel
theorem d_R_odds_46 : decode prog_7_method_79_code 46 = .ok (.invokestatic 88, 3) := by decide +kernel
theorem d_R_odds_49 : decode prog_7_method_79_code 49 = .ok (.istore 5, 2) := by decide +kernel
theorem d_R_odds_51 : decode prog_7_method_79_code 51 = .ok (.aload_n 0, 1) := by decide +kernel
theorem d_R_odds_52 : decode prog_7_method_79_code 52 = .ok (.getfield 9, 3) := by decide +kernel
theorem d_R_odds_55 : decode prog_7_method_79_code 55 = .ok (.iload 5, 2) := by decide +kernel
theorem d_R_odds_57 : decode prog_7_method_79_code 57 = .ok (.iaload, 1) := by decide +kernel
theorem d_R_odds_58 : decode prog_7_method_79_code 58 = .ok (.istore 6, 2) := by decide +kernel
theorem d_R_odds_60 : decode prog_7_method_79_code 60 = .ok (.iconst 0, 1) := by decide +kernel
theorem d_R_odds_61 : decode prog_7_method_79_code 61 = .ok (.istore 7, 2) := by decide +kernel
theorem d_R_odds_63 : decode prog_7_method_79_code 63 = .ok (.iconst 0, 1) := by decide +kernel
theorem d_R_odds_64 : decode prog_7_method_79_code 64 = .ok (.istore 8, 2) := by decide +kernel
theorem d_R_odds_66 : decode prog_7_method_79_code 66 = .ok (.iload 8, 2) := by decide +kernel
theorem d_R_odds_68 : decode prog_7_method_79_code 68 = .ok (.bipush 16, 2) := by decide +kernel
theorem d_R_odds_70 : decode prog_7_method_79_code 70 = .ok (.if_icmp .ge 37, 3) := by decide +kernel
theorem d_R_odds_73 : decode prog_7_method_79_code 73 = .ok (.aload_n 0, 1) := by decide +kernel
theorem d_R_odds_74 : decode prog_7_method_79_code 74 = .ok (.getfield 9, 3) := by decide +kernel
theorem d_R_odds_77 : decode prog_7_method_79_code 77 = .ok (.iload 5, 2) := by decide +kernel
theorem d_R_odds_79 : decode prog_7_method_79_code 79 = .ok (.iload 8, 2) := by decide +kernel
theorem d_R_odds_81 : decode prog_7_method_79_code 81 = .ok (.iastore, 1) := by decide +kernel
theorem d_R_odds_82 : decode prog_7_method_79_code 82 = .ok (.iload 7, 2) := by decide +kernel
theorem d_R_odds_84 : decode prog_7_method_79_code 84 = .ok (.aload_n 0, 1) := by decide +kernel
theorem d_R_odds_85 : decode prog_7_method_79_code 85 = .ok (.iload_n 1, 1) := by decide +kernel
theorem d_R_odds_86 : decode prog_7_method_79_code 86 = .ok (.iload_n 2, 1) := by decide +kernel
theorem d_R_odds_87 : decode prog_7_method_79_code 87 = .ok (.invokevirtual 146, 3) := by decide +kernel
theorem d_R_odds_90 : decode prog_7_method_79_code 90 = .ok (.ifCond .eq 7, 3) := by decide +kernel
theorem d_R_odds_93 : decode prog_7_method_79_code 93 = .ok (.iconst 1, 1) := by decide +kernel
theorem d_R_odds_94 : decode prog_7_method_79_code 94 = .ok (.goto 4, 3) := by decide +kernel
theorem d_R_odds_97 : decode prog_7_method_79_code 97 = .ok (.iconst 0, 1) := by decide +kernel
theorem d_R_odds_98 : decode prog_7_method_79_code 98 = .ok (.iadd, 1) := by decide +kernel
theorem d_R_odds_99 : decode prog_7_method_79_code 99 = .ok (.istore 7, 2) := by decide +kernel
theorem d_R_odds_101 : decode prog_7_method_79_code 101 = .ok (.iinc 8 1, 3) := by decide +kernel
theorem d_R_odds_104 : decode prog_7_method_79_code 104 = .ok (.goto (-38), 3) := by decide +kernel
theorem d_R_odds_107 : decode prog_7_method_79_code 107 = .ok (.aload_n 0, 1) := by decide +kernel
theorem d_R_odds_108 : decode prog_7_method_79_code 108 = .ok (.getfield 9, 3) := by decide +kernel
theorem d_R_odds_111 : decode prog_7_method_79_code 111 = .ok (.iload 5, 2) := by decide +kernel
theorem d_R_odds_113 : decode prog_7_method_79_code 113 = .ok (.iload 6, 2) := by decide +kernel
theorem d_R_odds_115 : decode prog_7_method_79_code 115 = .ok (.iastore, 1) := by decide +kernel
theorem d_R_odds_116 : decode prog_7_method_79_code 116 = .ok (.bipush 16, 2) := by decide +kernel
theorem d_R_odds_118 : decode prog_7_method_79_code 118 = .ok (.istore 8, 2) := by decide +kernel
theorem d_R_odds_120 : decode prog_7_method_79_code 120 = .ok (.iload 7, 2) := by decide +kernel
theorem d_R_odds_122 : decode prog_7_method_79_code 122 = .ok (.istore 9, 2) := by decide +kernel
theorem d_R_odds_124 : decode prog_7_method_79_code 124 = .ok (.iload 9, 2) := by decide +kernel
theorem d_R_odds_126 : decode prog_7_method_79_code 126 = .ok (.ifCond .eq 21, 3) := by decide +kernel
theorem d_R_odds_129 : decode prog_7_method_79_code 129 = .ok (.iload 8, 2) := by decide +kernel
theorem d_R_odds_131 : decode prog_7_method_79_code 131 = .ok (.iload 9, 2) := by decide +kernel
theorem d_R_odds_133 : decode prog_7_method_79_code 133 = .ok (.irem, 1) := by decide +kernel
theorem d_R_odds_134 : decode prog_7_method_79_code 134 = .ok (.istore 10, 2) := by decide +kernel
theorem d_R_odds_136 : decode prog_7_method_79_code 136 = .ok (.iload 9, 2) := by decide +kernel
theorem d_R_odds_138 : decode prog_7_method_79_code 138 = .ok (.istore 8, 2) := by decide +kernel
theorem d_R_odds_140 : decode prog_7_method_79_code 140 = .ok (.iload 10, 2) := by decide +kernel
theorem d_R_odds_142 : decode prog_7_method_79_code 142 = .ok (.istore 9, 2) := by decide +kernel
theorem d_R_odds_144 : decode prog_7_method_79_code 144 = .ok (.goto (-20), 3) := by decide +kernel
theorem d_R_odds_147 : decode prog_7_method_79_code 147 = .ok (.lconst 1, 1) := by decide +kernel
theorem d_R_odds_148 : decode prog_7_method_79_code 148 = .ok (.lstore 10, 2) := by decide +kernel
theorem d_R_odds_150 : decode prog_7_method_79_code 150 = .ok (.iconst 0, 1) := by decide +kernel
theorem d_R_odds_151 : decode prog_7_method_79_code 151 = .ok (.istore 12, 2) := by decide +kernel
theorem d_R_odds_153 : decode prog_7_method_79_code 153 = .ok (.iload 12, 2) := by decide +kernel
theorem d_R_odds_155 : decode prog_7_method_79_code 155 = .ok (.iload_n 3, 1) := by decide +kernel
theorem d_R_odds_156 : decode prog_7_method_79_code 156 = .ok (.if_icmp .ge 30, 3) := by decide +kernel
theorem d_R_odds_159 : decode prog_7_method_79_code 159 = .ok (.lload 10, 2) := by decide +kernel
theorem d_R_odds_161 : decode prog_7_method_79_code 161 = .ok (.iload 4, 2) := by decide +kernel
theorem d_R_odds_163 : decode prog_7_method_79_code 163 = .ok (.ifCond .ne 8, 3) := by decide +kernel
theorem d_R_odds_166 : decode prog_7_method_79_code 166 = .ok (.iload 7, 2) := by decide +kernel
theorem d_R_odds_168 : decode prog_7_method_79_code 168 = .ok (.goto 5, 3) := by decide +kernel
theorem d_R_odds_173 : decode prog_7_method_79_code 173 = .ok (.iload 8, 2) := by decide +kernel
theorem d_R_odds_175 : decode prog_7_method_79_code 175 = .ok (.idiv, 1) := by decide +kernel
theorem d_R_odds_176 : decode prog_7_method_79_code 176 = .ok (.i2l, 1) := by decide +kernel
theorem d_R_odds_177 : decode prog_7_method_79_code 177 = .ok (.lmul, 1) := by decide +kernel
theorem d_R_odds_178 : decode prog_7_method_79_code 178 = .ok (.lstore 10, 2) := by decide +kernel
theorem d_R_odds_180 : decode prog_7_method_79_code 180 = .ok (.iinc 12 1, 3) := by decide +kernel
theorem d_R_odds_183 : decode prog_7_method_79_code 183 = .ok (.goto (-30), 3) := by decide +kernel
theorem d_R_odds_186 : decode prog_7_method_79_code 186 = .ok (.lload 10, 2) := by decide +kernel
theorem d_R_odds_188 : decode prog_7_method_79_code 188 = .ok (.lreturn, 1) := by decide +kernel
theorem d_R_odds_171 : decode prog_7_method_79_code 171 = .ok (.bipush 16, 2) := by decide +kernel
theorem d_R_odds_36 : decode prog_7_method_79_code 36 = .ok (.aload_n 0, 1) := by decide +kernel
theorem d_R_odds_37 : decode prog_7_method_79_code 37 = .ok (.ldc 60, 2) := by decide +kernel
theorem d_R_odds_39 : decode prog_7_method_79_code 39 = .ok (.invokevirtual 66, 3) := by decide +kernel
theorem d_R_odds_42 : decode prog_7_method_79_code 42 = .ok (.i2l, 1) := by decide +kernel
theorem d_R_odds_43 : decode prog_7_method_79_code 43 = .ok (.lreturn, 1) := by decide +kernel
theorem d_R_feed_0 : decode prog_7_method_81_code 0 = .ok (.iload_n 2, 1) := by decide +kernel
theorem d_R_feed_1 : decode prog_7_method_81_code 1 = .ok (.iconst 1, 1) := by decide +kernel
theorem d_R_feed_2 : decode prog_7_method_81_code 2 = .ok (.iconst 4, 1) := by decide +kernel
theorem d_R_feed_3 : decode prog_7_method_81_code 3 = .ok (.invokestatic 70, 3) := by decide +kernel
theorem d_R_feed_6 : decode prog_7_method_81_code 6 = .ok (.ifCond .ne 10, 3) := by decide +kernel
theorem d_R_feed_16 : decode prog_7_method_81_code 16 = .ok (.aload_n 0, 1) := by decide +kernel
theorem d_R_feed_17 : decode prog_7_method_81_code 17 = .ok (.getfield 251, 3) := by decide +kernel
theorem d_R_feed_20 : decode prog_7_method_81_code 20 = .ok (.iload_n 2, 1) := by decide +kernel
theorem d_R_feed_21 : decode prog_7_method_81_code 21 = .ok (.iadd, 1) := by decide +kernel
theorem d_R_feed_22 : decode prog_7_method_81_code 22 = .ok (.bipush 120, 2) := by decide +kernel
theorem d_R_feed_24 : decode prog_7_method_81_code 24 = .ok (.if_icmp .le 10, 3) := by decide +kernel
theorem d_R_feed_34 : decode prog_7_method_81_code 34 = .ok (.iload_n 2, 1) := by decide +kernel
theorem d_R_feed_35 : decode prog_7_method_81_code 35 = .ok (.iconst 1, 1) := by decide +kernel
theorem d_R_feed_36 : decode prog_7_method_81_code 36 = .ok (.isub, 1) := by decide +kernel
theorem d_R_feed_37 : decode prog_7_method_81_code 37 = .ok (.istore_n 3, 1) := by decide +kernel
theorem d_R_feed_38 : decode prog_7_method_81_code 38 = .ok (.iload_n 3, 1) := by decide +kernel
theorem d_R_feed_39 : decode prog_7_method_81_code 39 = .ok (.ifCond .lt 38, 3) := by decide +kernel
theorem d_R_feed_42 : decode prog_7_method_81_code 42 = .ok (.aload_n 0, 1) := by decide +kernel
theorem d_R_feed_43 : decode prog_7_method_81_code 43 = .ok (.getfield 22, 3) := by decide +kernel
theorem d_R_feed_46 : decode prog_7_method_81_code 46 = .ok (.aload_n 0, 1) := by decide +kernel
theorem d_R_feed_47 : decode prog_7_method_81_code 47 = .ok (.getfield 251, 3) := by decide +kernel
theorem d_R_feed_50 : decode prog_7_method_81_code 50 = .ok (.iload_n 1, 1) := by decide +kernel
theorem d_R_feed_51 : decode prog_7_method_81_code 51 = .ok (.bipush 8, 2) := by decide +kernel
theorem d_R_feed_53 : decode prog_7_method_81_code 53 = .ok (.iload_n 3, 1) := by decide +kernel
theorem d_R_feed_54 : decode prog_7_method_81_code 54 = .ok (.imul, 1) := by decide +kernel
theorem d_R_feed_55 : decode prog_7_method_81_code 55 = .ok (.ishr, 1) := by decide +kernel
theorem d_R_feed_56 : decode prog_7_method_81_code 56 = .ok (.sipush 255, 3) := by decide +kernel
theorem d_R_feed_59 : decode prog_7_method_81_code 59 = .ok (.iand, 1) := by decide +kernel
theorem d_R_feed_60 : decode prog_7_method_81_code 60 = .ok (.iastore, 1) := by decide +kernel
theorem d_R_feed_61 : decode prog_7_method_81_code 61 = .ok (.aload_n 0, 1) := by decide +kernel
theorem d_R_feed_62 : decode prog_7_method_81_code 62 = .ok (.dup, 1) := by decide +kernel
theorem d_R_feed_63 : decode prog_7_method_81_code 63 = .ok (.getfield 251, 3) := by decide +kernel
theorem d_R_feed_66 : decode prog_7_method_81_code 66 = .ok (.iconst 1, 1) := by decide +kernel
theorem d_R_feed_67 : decode prog_7_method_81_code 67 = .ok (.iadd, 1) := by decide +kernel
theorem d_R_feed_68 : decode prog_7_method_81_code 68 = .ok (.putfield 251, 3) := by decide +kernel
theorem d_R_feed_71 : decode prog_7_method_81_code 71 = .ok (.iinc 3 (-1), 3) := by decide +kernel
theorem d_R_feed_74 : decode prog_7_method_81_code 74 = .ok (.goto (-36), 3) := by decide +kernel
theorem d_R_feed_77 : decode prog_7_method_81_code 77 = .ok (.aload_n 0, 1) := by decide +kernel
theorem d_R_feed_78 : decode prog_7_method_81_code 78 = .ok (.getfield 251, 3) := by decide +kernel
theorem d_R_feed_81 : decode prog_7_method_81_code 81 = .ok (.ireturn, 1) := by decide +kernel
theorem d_R_feed_27 : decode prog_7_method_81_code 27 = .ok (.aload_n 0, 1) := by decide +kernel
theorem d_R_feed_28 : decode prog_7_method_81_code 28 = .ok (.ldc 97, 2) := by decide +kernel
theorem d_R_feed_30 : decode prog_7_method_81_code 30 = .ok (.invokevirtual 66, 3) := by decide +kernel
theorem d_R_feed_33 : decode prog_7_method_81_code 33 = .ok (.ireturn, 1) := by decide +kernel
theorem d_R_feed_9 : decode prog_7_method_81_code 9 = .ok (.aload_n 0, 1) := by decide +kernel
theorem d_R_feed_10 : decode prog_7_method_81_code 10 = .ok (.ldc 60, 2) := by decide +kernel
theorem d_R_feed_12 : decode prog_7_method_81_code 12 = .ok (.invokevirtual 66, 3) := by decide +kernel
theorem d_R_feed_15 : decode prog_7_method_81_code 15 = .ok (.ireturn, 1) := by decide +kernel
theorem d_R_wipe_0 : decode prog_7_method_82_code 0 = .ok (.aload_n 0, 1) := by decide +kernel
theorem d_R_wipe_1 : decode prog_7_method_82_code 1 = .ok (.getfield 251, 3) := by decide +kernel
theorem d_R_wipe_4 : decode prog_7_method_82_code 4 = .ok (.istore_n 1, 1) := by decide +kernel
theorem d_R_wipe_5 : decode prog_7_method_82_code 5 = .ok (.aload_n 0, 1) := by decide +kernel
theorem d_R_wipe_6 : decode prog_7_method_82_code 6 = .ok (.iconst 0, 1) := by decide +kernel
theorem d_R_wipe_7 : decode prog_7_method_82_code 7 = .ok (.putfield 251, 3) := by decide +kernel
theorem d_R_wipe_10 : decode prog_7_method_82_code 10 = .ok (.iload_n 1, 1) := by decide +kernel
theorem d_R_wipe_11 : decode prog_7_method_82_code 11 = .ok (.ireturn, 1) := by decide +kernel
theorem d_R_image_0 : decode prog_7_method_107_code 0 = .ok (.aload_n 0, 1) := by decide +kernel
theorem d_R_image_1 : decode prog_7_method_107_code 1 = .ok (.getfield 9, 3) := by decide +kernel
theorem d_R_image_4 : decode prog_7_method_107_code 4 = .ok (.aload_n 0, 1) := by decide +kernel
theorem d_R_image_5 : decode prog_7_method_107_code 5 = .ok (.getfield 13, 3) := by decide +kernel
theorem d_R_image_8 : decode prog_7_method_107_code 8 = .ok (.invokestatic 61, 3) := by decide +kernel
theorem d_R_image_11 : decode prog_7_method_107_code 11 = .ok (.aload_n 0, 1) := by decide +kernel
theorem d_R_image_12 : decode prog_7_method_107_code 12 = .ok (.iconst 1, 1) := by decide +kernel
theorem d_R_image_13 : decode prog_7_method_107_code 13 = .ok (.putfield 344, 3) := by decide +kernel
theorem d_R_image_16 : decode prog_7_method_107_code 16 = .ok (.iconst 1, 1) := by decide +kernel
theorem d_R_image_17 : decode prog_7_method_107_code 17 = .ok (.ireturn, 1) := by decide +kernel
theorem d_R_undo_0 : decode prog_7_method_108_code 0 = .ok (.aload_n 0, 1) := by decide +kernel
theorem d_R_undo_1 : decode prog_7_method_108_code 1 = .ok (.getfield 344, 3) := by decide +kernel
theorem d_R_undo_4 : decode prog_7_method_108_code 4 = .ok (.ifCond .ne 10, 3) := by decide +kernel
theorem d_R_undo_14 : decode prog_7_method_108_code 14 = .ok (.aload_n 0, 1) := by decide +kernel
theorem d_R_undo_15 : decode prog_7_method_108_code 15 = .ok (.getfield 13, 3) := by decide +kernel
theorem d_R_undo_18 : decode prog_7_method_108_code 18 = .ok (.aload_n 0, 1) := by decide +kernel
theorem d_R_undo_19 : decode prog_7_method_108_code 19 = .ok (.getfield 9, 3) := by decide +kernel
theorem d_R_undo_22 : decode prog_7_method_108_code 22 = .ok (.invokestatic 61, 3) := by decide +kernel
theorem d_R_undo_25 : decode prog_7_method_108_code 25 = .ok (.aload_n 0, 1) := by decide +kernel
theorem d_R_undo_26 : decode prog_7_method_108_code 26 = .ok (.getfield 9, 3) := by decide +kernel
theorem d_R_undo_29 : decode prog_7_method_108_code 29 = .ok (.iconst 0, 1) := by decide +kernel
theorem d_R_undo_30 : decode prog_7_method_108_code 30 = .ok (.iaload, 1) := by decide +kernel
theorem d_R_undo_31 : decode prog_7_method_108_code 31 = .ok (.ireturn, 1) := by decide +kernel
theorem d_R_undo_7 : decode prog_7_method_108_code 7 = .ok (.aload_n 0, 1) := by decide +kernel
theorem d_R_undo_8 : decode prog_7_method_108_code 8 = .ok (.ldc 65, 2) := by decide +kernel
theorem d_R_undo_10 : decode prog_7_method_108_code 10 = .ok (.invokevirtual 66, 3) := by decide +kernel
theorem d_R_undo_13 : decode prog_7_method_108_code 13 = .ok (.ireturn, 1) := by decide +kernel
theorem d_R_tear_0 : decode prog_7_method_109_code 0 = .ok (.aload_n 0, 1) := by decide +kernel
theorem d_R_tear_1 : decode prog_7_method_109_code 1 = .ok (.getfield 344, 3) := by decide +kernel
theorem d_R_tear_4 : decode prog_7_method_109_code 4 = .ok (.ifCond .eq 7, 3) := by decide +kernel
theorem d_R_tear_7 : decode prog_7_method_109_code 7 = .ok (.iconst 1, 1) := by decide +kernel
theorem d_R_tear_8 : decode prog_7_method_109_code 8 = .ok (.goto 4, 3) := by decide +kernel
theorem d_R_tear_12 : decode prog_7_method_109_code 12 = .ok (.istore_n 1, 1) := by decide +kernel
theorem d_R_tear_13 : decode prog_7_method_109_code 13 = .ok (.aload_n 0, 1) := by decide +kernel
theorem d_R_tear_14 : decode prog_7_method_109_code 14 = .ok (.iconst 0, 1) := by decide +kernel
theorem d_R_tear_15 : decode prog_7_method_109_code 15 = .ok (.putfield 344, 3) := by decide +kernel
theorem d_R_tear_18 : decode prog_7_method_109_code 18 = .ok (.iload_n 1, 1) := by decide +kernel
theorem d_R_tear_19 : decode prog_7_method_109_code 19 = .ok (.ireturn, 1) := by decide +kernel
theorem d_R_tear_11 : decode prog_7_method_109_code 11 = .ok (.iconst 0, 1) := by decide +kernel
theorem d_R_count_0 : decode prog_7_method_110_code 0 = .ok (.iconst 0, 1) := by decide +kernel
theorem d_R_count_1 : decode prog_7_method_110_code 1 = .ok (.istore_n 2, 1) := by decide +kernel
theorem d_R_count_2 : decode prog_7_method_110_code 2 = .ok (.iload_n 1, 1) := by decide +kernel
theorem d_R_count_3 : decode prog_7_method_110_code 3 = .ok (.tableswitch 126 0 7 #[45, 52, 59, 66, 72, 78, 83, 90], 45) := by decide +kernel
theorem d_R_count_48 : decode prog_7_method_110_code 48 = .ok (.aload_n 0, 1) := by decide +kernel
theorem d_R_count_49 : decode prog_7_method_110_code 49 = .ok (.getfield 9, 3) := by decide +kernel
theorem d_R_count_52 : decode prog_7_method_110_code 52 = .ok (.iconst 0, 1) := by decide +kernel
theorem d_R_count_53 : decode prog_7_method_110_code 53 = .ok (.iaload, 1) := by decide +kernel
theorem d_R_count_54 : decode prog_7_method_110_code 54 = .ok (.ireturn, 1) := by decide +kernel
theorem d_R_count_55 : decode prog_7_method_110_code 55 = .ok (.aload_n 0, 1) := by decide +kernel
theorem d_R_count_56 : decode prog_7_method_110_code 56 = .ok (.getfield 9, 3) := by decide +kernel
theorem d_R_count_59 : decode prog_7_method_110_code 59 = .ok (.iconst 1, 1) := by decide +kernel
theorem d_R_count_60 : decode prog_7_method_110_code 60 = .ok (.iaload, 1) := by decide +kernel
theorem d_R_count_61 : decode prog_7_method_110_code 61 = .ok (.ireturn, 1) := by decide +kernel
theorem d_R_count_62 : decode prog_7_method_110_code 62 = .ok (.aload_n 0, 1) := by decide +kernel
theorem d_R_count_63 : decode prog_7_method_110_code 63 = .ok (.getfield 9, 3) := by decide +kernel
theorem d_R_count_66 : decode prog_7_method_110_code 66 = .ok (.iconst 3, 1) := by decide +kernel
theorem d_R_count_67 : decode prog_7_method_110_code 67 = .ok (.iaload, 1) := by decide +kernel
theorem d_R_count_68 : decode prog_7_method_110_code 68 = .ok (.ireturn, 1) := by decide +kernel
theorem d_R_count_69 : decode prog_7_method_110_code 69 = .ok (.aload_n 0, 1) := by decide +kernel
theorem d_R_count_70 : decode prog_7_method_110_code 70 = .ok (.iconst 4, 1) := by decide +kernel
theorem d_R_count_71 : decode prog_7_method_110_code 71 = .ok (.invokevirtual 190, 3) := by decide +kernel
theorem d_R_count_74 : decode prog_7_method_110_code 74 = .ok (.ireturn, 1) := by decide +kernel
theorem d_R_count_75 : decode prog_7_method_110_code 75 = .ok (.aload_n 0, 1) := by decide +kernel
theorem d_R_count_76 : decode prog_7_method_110_code 76 = .ok (.iconst 5, 1) := by decide +kernel
theorem d_R_count_77 : decode prog_7_method_110_code 77 = .ok (.invokevirtual 190, 3) := by decide +kernel
theorem d_R_count_80 : decode prog_7_method_110_code 80 = .ok (.ireturn, 1) := by decide +kernel
theorem d_R_count_81 : decode prog_7_method_110_code 81 = .ok (.aload_n 0, 1) := by decide +kernel
theorem d_R_count_82 : decode prog_7_method_110_code 82 = .ok (.getfield 251, 3) := by decide +kernel
theorem d_R_count_85 : decode prog_7_method_110_code 85 = .ok (.ireturn, 1) := by decide +kernel
theorem d_R_count_86 : decode prog_7_method_110_code 86 = .ok (.aload_n 0, 1) := by decide +kernel
theorem d_R_count_87 : decode prog_7_method_110_code 87 = .ok (.getfield 9, 3) := by decide +kernel
theorem d_R_count_90 : decode prog_7_method_110_code 90 = .ok (.iconst 2, 1) := by decide +kernel
theorem d_R_count_91 : decode prog_7_method_110_code 91 = .ok (.iaload, 1) := by decide +kernel
theorem d_R_count_92 : decode prog_7_method_110_code 92 = .ok (.ireturn, 1) := by decide +kernel
theorem d_R_count_93 : decode prog_7_method_110_code 93 = .ok (.iconst 0, 1) := by decide +kernel
theorem d_R_count_94 : decode prog_7_method_110_code 94 = .ok (.istore_n 3, 1) := by decide +kernel
theorem d_R_count_95 : decode prog_7_method_110_code 95 = .ok (.iload_n 3, 1) := by decide +kernel
theorem d_R_count_96 : decode prog_7_method_110_code 96 = .ok (.bipush 10, 2) := by decide +kernel
theorem d_R_count_98 : decode prog_7_method_110_code 98 = .ok (.if_icmp .ge 29, 3) := by decide +kernel
theorem d_R_count_101 : decode prog_7_method_110_code 101 = .ok (.iload_n 2, 1) := by decide +kernel
theorem d_R_count_102 : decode prog_7_method_110_code 102 = .ok (.aload_n 0, 1) := by decide +kernel
theorem d_R_count_103 : decode prog_7_method_110_code 103 = .ok (.getfield 9, 3) := by decide +kernel
theorem d_R_count_106 : decode prog_7_method_110_code 106 = .ok (.bipush 10, 2) := by decide +kernel
theorem d_R_count_108 : decode prog_7_method_110_code 108 = .ok (.iload_n 3, 1) := by decide +kernel
theorem d_R_count_109 : decode prog_7_method_110_code 109 = .ok (.iadd, 1) := by decide +kernel
theorem d_R_count_110 : decode prog_7_method_110_code 110 = .ok (.iaload, 1) := by decide +kernel
theorem d_R_count_111 : decode prog_7_method_110_code 111 = .ok (.ifCond .ge 7, 3) := by decide +kernel
theorem d_R_count_114 : decode prog_7_method_110_code 114 = .ok (.iconst 0, 1) := by decide +kernel
theorem d_R_count_115 : decode prog_7_method_110_code 115 = .ok (.goto 4, 3) := by decide +kernel
theorem d_R_count_118 : decode prog_7_method_110_code 118 = .ok (.iconst 1, 1) := by decide +kernel
theorem d_R_count_119 : decode prog_7_method_110_code 119 = .ok (.iadd, 1) := by decide +kernel
theorem d_R_count_120 : decode prog_7_method_110_code 120 = .ok (.istore_n 2, 1) := by decide +kernel
theorem d_R_count_121 : decode prog_7_method_110_code 121 = .ok (.iinc 3 1, 3) := by decide +kernel
theorem d_R_count_124 : decode prog_7_method_110_code 124 = .ok (.goto (-29), 3) := by decide +kernel
theorem d_R_count_127 : decode prog_7_method_110_code 127 = .ok (.iload_n 2, 1) := by decide +kernel
theorem d_R_count_128 : decode prog_7_method_110_code 128 = .ok (.ireturn, 1) := by decide +kernel
theorem d_R_count_129 : decode prog_7_method_110_code 129 = .ok (.aload_n 0, 1) := by decide +kernel
theorem d_R_count_130 : decode prog_7_method_110_code 130 = .ok (.ldc 60, 2) := by decide +kernel
theorem d_R_count_132 : decode prog_7_method_110_code 132 = .ok (.invokevirtual 66, 3) := by decide +kernel
theorem d_R_count_135 : decode prog_7_method_110_code 135 = .ok (.ireturn, 1) := by decide +kernel
theorem d_R_status_0 : decode prog_7_method_111_code 0 = .ok (.iload_n 1, 1) := by decide +kernel
theorem d_R_status_1 : decode prog_7_method_111_code 1 = .ok (.iconst (-1), 1) := by decide +kernel
theorem d_R_status_2 : decode prog_7_method_111_code 2 = .ok (.bipush 6, 2) := by decide +kernel
theorem d_R_status_4 : decode prog_7_method_111_code 4 = .ok (.invokestatic 70, 3) := by decide +kernel
theorem d_R_status_7 : decode prog_7_method_111_code 7 = .ok (.ifCond .eq 14, 3) := by decide +kernel
theorem d_R_status_10 : decode prog_7_method_111_code 10 = .ok (.aload_n 0, 1) := by decide +kernel
theorem d_R_status_11 : decode prog_7_method_111_code 11 = .ok (.getfield 19, 3) := by decide +kernel
theorem d_R_status_14 : decode prog_7_method_111_code 14 = .ok (.iload_n 1, 1) := by decide +kernel
theorem d_R_status_15 : decode prog_7_method_111_code 15 = .ok (.iconst 1, 1) := by decide +kernel
theorem d_R_status_16 : decode prog_7_method_111_code 16 = .ok (.iadd, 1) := by decide +kernel
theorem d_R_status_17 : decode prog_7_method_111_code 17 = .ok (.iaload, 1) := by decide +kernel
theorem d_R_status_18 : decode prog_7_method_111_code 18 = .ok (.goto 9, 3) := by decide +kernel
theorem d_R_status_27 : decode prog_7_method_111_code 27 = .ok (.ireturn, 1) := by decide +kernel
theorem d_R_status_21 : decode prog_7_method_111_code 21 = .ok (.aload_n 0, 1) := by decide +kernel
theorem d_R_status_22 : decode prog_7_method_111_code 22 = .ok (.ldc 60, 2) := by decide +kernel
theorem d_R_status_24 : decode prog_7_method_111_code 24 = .ok (.invokevirtual 66, 3) := by decide +kernel
set_option maxHeartbeats 1000000 in
set_option maxRecDepth 20000 in
theorem c_R_bits (l : Launch) (E : QE) (S : QM) (q : Nat) (hq : q < 256) : qCI E l y_R_bits prog_7_method_8_code 3 .int 1 [.int (nI q)] S (nI (pop8 q)) S := by
  refine qCI_of (by decide) (Nat.le_of_ble_eq_true rfl) (fun p e s m below meth c ls X hW hl => ?_)
  have hl : lv_has ls 3 [(0, .int (nI q))] := hl
  refine lv_iconst (v := nI 0) X.x X.b d_R_bits_0 (by decide) ?_
  refine lv_istore_n (lv' := [(1, .int (nI 0)), (0, .int (nI q))]) X.x X.b d_R_bits_1 rfl hl (by decide) rfl (fun ls hl => ?_)
  refine lv_iload_n X.x X.b d_R_bits_2 rfl (lv_at hl 1 rfl) ?_
  refine lv_istore_n (lv' := [(2, .int (nI q)), (1, .int (nI 0)), (0, .int (nI q))]) X.x X.b d_R_bits_3 rfl hl (by decide) rfl (fun ls hl => ?_)
  have loop4 : ∀ (fu4 : Nat) (k : Nat) (r : Nat), r < 256 → k + pop8 r = pop8 q → r < fu4 → ∀ (H : Heap) (locs : List Loc) (ls : Array Slot), qWH E S s H locs → lv_has ls 3 [(2, .int (nI r)), (1, .int (nI k)), (0, .int (nI q))] → W p l e (qRm 1) s m ([.int (nI q)] : List Value).toArray below meth c H locs 0 0 (MQ below (qQi E (nI (pop8 q)) S s.heap.size) ([.int (nI q)] : List Value).toArray s 0 0 (qAA E s.heap.size)) (F0 m 4 ls []) := by
    intro fu4
    induction fu4 with
    | zero =>
      intro k r hr hk hfu
      exact absurd hfu (Nat.not_lt_zero _)
    | succ fu4 ih4 =>
      intro k r hr hk hfu H locs ls hW hl
      refine lv_iload_n X.x X.b d_R_bits_4 rfl (lv_at hl 0 rfl) ?_
      refine lv_if_eq (tgt := 20) X.x X.b d_R_bits_5 (by decide) (fun c5 => ?_) (fun c5 => ?_)
      · have c5 : r = 0 := (nI_eq (a := r) (b := 0) (by omega) (by omega)).mp c5
        refine lv_iload_n X.x X.b d_R_bits_20 rfl (lv_at hl 1 rfl) ?_
        exact q_zret X rfl hW ⟨by rw [← hk, show r = 0 by omega]; rfl, rfl⟩ d_R_bits_21
      · have c5 : ¬ r = 0 := fun z => c5 ((nI_eq (a := r) (b := 0) (by omega) (by omega)).mpr z)
        refine lv_iinc (v := nI (k + 1)) (lv' := [(1, .int (nI (k + 1))), (2, .int (nI r)), (0, .int (nI q))]) X.x X.b d_R_bits_8 hl (k := 1) rfl (by rw [show Int32.ofInt 1 = nI 1 from by decide, nI_add]) (by decide) rfl (fun ls hl => ?_)
        refine lv_iload_n X.x X.b d_R_bits_11 rfl (lv_at hl 1 rfl) ?_
        refine lv_iload_n X.x X.b d_R_bits_12 rfl (lv_at hl 1 rfl) ?_
        refine lv_iconst (v := nI 1) X.x X.b d_R_bits_13 (by decide) ?_
        refine lv_isub X.x X.b d_R_bits_14 ?_
        refine lv_iand X.x X.b d_R_bits_15 ?_
        rw [show (nI r) &&& ((nI r) - (nI 1)) = nI (r &&& (r - 1)) from (pop_st hr c5).1]
        refine lv_istore_n (lv' := [(2, .int (nI (r &&& (r - 1)))), (1, .int (nI (k + 1))), (0, .int (nI q))]) X.x X.b d_R_bits_16 rfl hl (by decide) rfl (fun ls hl => ?_)
        refine lv_goto (tgt := 4) X.x X.b d_R_bits_17 (by decide) ?_
        have hst := pop_st hr c5
        have hle : r &&& (r - 1) ≤ r - 1 := Nat.and_le_right
        have hrr : r &&& (r - 1) < 256 := by omega
        exact ih4 (k + 1) (r &&& (r - 1)) hrr (by omega) (by omega) _ _ _ hW (lv_sub hl [0, 1, 2] rfl)
  exact loop4 (q + 1) 0 q (by omega) (by omega) (Nat.lt_succ_self _) _ _ _ hW (lv_sub hl [0, 1, 2] rfl)
set_option maxHeartbeats 1000000 in
set_option maxRecDepth 20000 in
theorem c_R_giveUp_g (l : Launch) (E : QE) (S : QM) (ν : Nat → Int32) (hν : S 16 = ν) (hwf : WF ν) (α : Nat → Int32) (hα : S 18 = α) (w n : Nat) (hw : w < nW ν) (hn : n ≤ 20) (N0 : Nat) (hN : N0 = 2 ^ nT ν) (q : Nat) (hF : gvR (fun i => ν (44 + 6 * w + 4) < gotS ν w 3 (ν (44 + 6 * w + 3) &&& (nI i ^^^ (-1))) n) N0 N0 = some q) : qCPi E l y_R_giveUp prog_7_method_71_code 7 .int 11 [.ref (eA E 70), .int (nI w), .int (nI n)] S (nI q) (bhG S ν) := by
  refine qCPi_of (by decide) (Nat.le_of_ble_eq_true rfl) (fun p e s m below meth c ls X hW hl => ?_)
  have hl : lv_has ls 7 [(0, .ref (eA E 70)), (1, .int (nI w)), (2, .int (nI n))] := hl
  have hW : qWH E (qr (qr S 18 α) 16 ν) s s.heap [] := by rw [show qr (qr S 18 α) 16 ν = S from by rw [← hα, qr_self, ← hν, qr_self]]; exact hW
  have htl := hwf.tl
  have hwl := hwf.wl
  have hdl := hwf.dl
  have hqx := fun h => gvR_lt (A := (fun i => ν (44 + 6 * w + 4) < gotS ν w 3 (ν (44 + 6 * w + 3) &&& (nI i ^^^ (-1))) n)) (N := N0) h N0 q hF
  have hNp := shl_pow htl
  rw [← hN] at hNp
  have hq256 := hqx hNp.2.2
  refine lv_aload_n X.x X.b d_R_giveUp_0 rfl (lv_at hl 0 rfl) ?_
  refine lv_iload_n X.x X.b d_R_giveUp_1 rfl (lv_at hl 1 rfl) ?_
  refine q_cvi X (c_R_isWalker l E (qr (qr S 18 α) 16 ν) ν (by rw [qr_at]) hwf (nI w)) hW (q_recv X hW ds_R rfl) ok_R_isWalker mw_841 ⟨by decide, by decide⟩ (As := [.int (nI w)]) rfl rfl (Nat.le_of_ble_eq_true rfl) (lv := [(0, .ref (eA E 70)), (1, .int (nI w)), (2, .int (nI n))]) hl ⟨Nat.le_refl 0, Nat.le_refl 0⟩ d_R_giveUp_2 (fun H locs hW => ?_)
  refine lv_if_eq (tgt := 18) X.x X.b d_R_giveUp_5 (by decide) (fun c5 => ?_) (fun c5 => ?_)
  · have c5 := b2i_e c5
    have c5 := mt (isW_i hwf (by omega)).mpr c5
    omega
  · have c5 := b2i_n c5
    have c5 := (isW_i hwf (by omega)).mp c5
    refine lv_iload_n X.x X.b d_R_giveUp_8 rfl (lv_at hl 2 rfl) ?_
    refine lv_iconst (v := nI 0) X.x X.b d_R_giveUp_9 (by decide) ?_
    refine lv_bipush (v := nI 20) X.x X.b d_R_giveUp_10 (by decide) ?_
    refine q_csi X (c_R_within l E (qr (qr S 18 α) 16 ν) (nI n) (nI 0) (nI 20)) hW ok_R_within mw_757 ⟨by decide, by decide⟩ (As := [.int (nI n), .int (nI 0), .int (nI 20)]) rfl rfl (Nat.le_of_ble_eq_true rfl) (lv := [(0, .ref (eA E 70)), (1, .int (nI w)), (2, .int (nI n))]) hl ⟨Nat.le_refl 0, Nat.le_refl 0⟩ d_R_giveUp_12 (fun H locs hW => ?_)
    refine lv_if_ne (tgt := 25) X.x X.b d_R_giveUp_15 (by decide) (fun c15 => ?_) (fun c15 => ?_)
    · have c15 := b2i_n c15
      have c15 := (inR_i (by omega) (by decide)).mp c15
      refine lv_iload_n X.x X.b d_R_giveUp_25 rfl (lv_at hl 1 rfl) ?_
      refine lv_iconst (v := nI 3) X.x X.b d_R_giveUp_26 (by decide) ?_
      refine q_csi X (c_R_walkerAt l E (qr (qr S 18 α) 16 ν) w 3) hW ok_R_walkerAt mw_802 ⟨by decide, by decide⟩ (As := [.int (nI w), .int (nI 3)]) rfl rfl (Nat.le_of_ble_eq_true rfl) (lv := [(0, .ref (eA E 70)), (1, .int (nI w)), (2, .int (nI n))]) hl ⟨Nat.le_refl 0, Nat.le_refl 0⟩ d_R_giveUp_27 (fun H locs hW => ?_)
      refine lv_istore_n (lv' := [(3, .int (nI (44 + 6 * w + 3))), (0, .ref (eA E 70)), (1, .int (nI w)), (2, .int (nI n))]) X.x X.b d_R_giveUp_30 rfl hl (by decide) rfl (fun ls hl => ?_)
      refine lv_aload_n X.x X.b d_R_giveUp_31 rfl (lv_at hl 1 rfl) ?_
      refine q_getr X hW qj4 rfl _ ds_R 0 (by decide) mw_686 rfl (c1 := 71) rfl d_R_giveUp_32 ?_
      refine lv_iload_n X.x X.b d_R_giveUp_35 rfl (lv_at hl 0 rfl) ?_
      refine g_ald X hW ds_71 (q_in (by omega) (by decide)) (p0 := 44 + 6 * w + 3) (q_tn (by omega) (by omega)) (v := ν (44 + 6 * w + 3)) (by rw [qr_at]) d_R_giveUp_36 ?_
      refine lv_istore (lv' := [(4, .int (ν (44 + 6 * w + 3))), (3, .int (nI (44 + 6 * w + 3))), (0, .ref (eA E 70)), (1, .int (nI w)), (2, .int (nI n))]) X.x X.b d_R_giveUp_37 hl (by decide) rfl (fun ls hl => ?_)
      refine lv_iconst (v := (-1)) X.x X.b d_R_giveUp_39 (by decide) ?_
      refine lv_istore (lv' := [(5, .int (-1)), (4, .int (ν (44 + 6 * w + 3))), (3, .int (nI (44 + 6 * w + 3))), (0, .ref (eA E 70)), (1, .int (nI w)), (2, .int (nI n))]) X.x X.b d_R_giveUp_40 hl (by decide) rfl (fun ls hl => ?_)
      refine lv_iconst (v := nI 1) X.x X.b d_R_giveUp_42 (by decide) ?_
      refine lv_aload_n X.x X.b d_R_giveUp_43 rfl (lv_at hl 3 rfl) ?_
      refine q_getr X hW qj4 rfl _ ds_R 0 (by decide) mw_686 rfl (c1 := 71) rfl d_R_giveUp_44 ?_
      refine lv_iconst (v := nI 1) X.x X.b d_R_giveUp_47 (by decide) ?_
      refine g_ald X hW ds_71 (q_in (by omega) (by decide)) (p0 := 1) (q_tn (by omega) (by omega)) (v := ν 1) (by rw [qr_at]) d_R_giveUp_48 ?_
      rw [hwf.t]
      refine lv_ishl X.x X.b d_R_giveUp_49 ?_
      rw [show (nI 1) <<< ((nI (nT ν)) &&& 31) = nI N0 from (by rw [hN]; exact (shl_pow htl).1)]
      have hsp := shl_pow htl
      rw [← hN] at hsp
      refine lv_iconst (v := nI 1) X.x X.b d_R_giveUp_50 (by decide) ?_
      refine lv_isub X.x X.b d_R_giveUp_51 ?_
      refine lv_istore (lv' := [(6, .int ((nI N0) - (nI 1))), (5, .int (-1)), (4, .int (ν (44 + 6 * w + 3))), (3, .int (nI (44 + 6 * w + 3))), (0, .ref (eA E 70)), (1, .int (nI w)), (2, .int (nI n))]) X.x X.b d_R_giveUp_52 hl (by decide) rfl (fun ls hl => ?_)
      have loop54 : ∀ (fu54 : Nat) (j : Nat) (b : Int32) (μ : Nat → Int32) (κ : Nat → Int32), j ≤ N0 → b = oI (gvR (fun i => ν (44 + 6 * w + 4) < gotS ν w 3 (ν (44 + 6 * w + 3) &&& (nI i ^^^ (-1))) n) N0 (N0 - j)) → (∀ v, eq80 (upd μ (44 + 6 * w + 3) v) (upd ν (44 + 6 * w + 3) v)) → j < fu54 → ∀ (H : Heap) (locs : List Loc) (ls : Array Slot), qWH E (qr (qr S 18 κ) 16 μ) s H locs → lv_has ls 7 [(6, .int ((nI j) - (nI 1))), (5, .int b), (4, .int (ν (44 + 6 * w + 3))), (3, .int (nI (44 + 6 * w + 3))), (0, .ref (eA E 70)), (1, .int (nI w)), (2, .int (nI n))] → W p l e (qRm 11) s m ([.ref (eA E 70), .int (nI w), .int (nI n)] : List Value).toArray below meth c H locs 0 0 (MQ below (qQpi E (nI q) (bhG S ν) s.heap.size) ([.ref (eA E 70), .int (nI w), .int (nI n)] : List Value).toArray s 0 0 (qAA E s.heap.size)) (F0 m 54 ls []) := by
        intro fu54
        induction fu54 with
        | zero =>
          intro j b μ κ hj hb hμ hfu
          exact absurd hfu (Nat.not_lt_zero _)
        | succ fu54 ih54 =>
          intro j b μ κ hj hb hμ hfu H locs ls hW hl
          refine lv_iload X.x X.b d_R_giveUp_54 (lv_at hl 0 rfl) ?_
          refine lv_if_lt (tgt := 114) X.x X.b d_R_giveUp_56 (by decide) (fun c56 => ?_) (fun c56 => ?_)
          · have hj0 : j = 0 := (neg_j (by omega)).mp c56
            refine lv_aload_n X.x X.b d_R_giveUp_114 rfl (lv_at hl 4 rfl) ?_
            refine q_getr X hW qj4 rfl _ ds_R 0 (by decide) mw_686 rfl (c1 := 71) rfl d_R_giveUp_115 ?_
            refine lv_iload_n X.x X.b d_R_giveUp_118 rfl (lv_at hl 3 rfl) ?_
            refine lv_iload X.x X.b d_R_giveUp_119 (lv_at hl 2 rfl) ?_
            refine g_ast X hW ds_71 (q_in (by omega) (by decide)) (p0 := 44 + 6 * w + 3) (q_tn (by omega) (by omega)) (ρ := μ) (by rw [qr_at]) d_R_giveUp_121 (fun H locs hW => ?_)
            obtain ⟨r121, er121⟩ : ∃ z, z = upd μ (44 + 6 * w + 3) (ν (44 + 6 * w + 3)) := ⟨_, rfl⟩
            rw [← er121] at hW
            rw [qr_qr] at hW
            refine lv_aload_n X.x X.b d_R_giveUp_122 rfl (lv_at hl 4 rfl) ?_
            refine lv_iload X.x X.b d_R_giveUp_123 (lv_at hl 1 rfl) ?_
            have hb0 : b = nI q := by rw [hb, hj0, Nat.sub_zero, hF]; rfl
            rw [hb0]
            refine q_cvi X (c_R_orNone_g l E (qr (qr S 18 κ) 16 r121) q (by omega)) hW (q_recv X hW ds_R rfl) ok_R_orNone mw_974 ⟨by decide, by decide⟩ (As := [.int (nI q)]) rfl rfl (Nat.le_of_ble_eq_true rfl) (lv := [(6, .int ((nI j) - (nI 1))), (5, .int b), (4, .int (ν (44 + 6 * w + 3))), (3, .int (nI (44 + 6 * w + 3))), (0, .ref (eA E 70)), (1, .int (nI w)), (2, .int (nI n))]) hl ⟨Nat.le_refl 0, Nat.le_refl 0⟩ d_R_giveUp_125 (fun H locs hW => ?_)
            exact q_pzret X rfl hW ⟨rfl, ⟨_, _, by rw [er121]; have h := hμ (ν (44 + 6 * w + 3)); rw [upd_self] at h; exact h, rfl⟩⟩ d_R_giveUp_128
          · have hj1 : 1 ≤ j := by have := mt (neg_j (by omega)).mpr c56; omega
            rw [show nI j - nI 1 = nI (j - 1) from pk_sub hj1] at hl
            refine lv_aload_n X.x X.b d_R_giveUp_59 rfl (lv_at hl 4 rfl) ?_
            refine q_getr X hW qj4 rfl _ ds_R 0 (by decide) mw_686 rfl (c1 := 71) rfl d_R_giveUp_60 ?_
            refine lv_iload_n X.x X.b d_R_giveUp_63 rfl (lv_at hl 3 rfl) ?_
            refine lv_iload X.x X.b d_R_giveUp_64 (lv_at hl 2 rfl) ?_
            refine lv_iload X.x X.b d_R_giveUp_66 (lv_at hl 0 rfl) ?_
            refine lv_iconst (v := (-1)) X.x X.b d_R_giveUp_68 (by decide) ?_
            refine lv_ixor X.x X.b d_R_giveUp_69 ?_
            refine lv_iand X.x X.b d_R_giveUp_70 ?_
            refine g_ast X hW ds_71 (q_in (by omega) (by decide)) (p0 := 44 + 6 * w + 3) (q_tn (by omega) (by omega)) (ρ := μ) (by rw [qr_at]) d_R_giveUp_71 (fun H locs hW => ?_)
            obtain ⟨r71, er71⟩ : ∃ z, z = upd μ (44 + 6 * w + 3) ((ν (44 + 6 * w + 3)) &&& ((nI (j - 1)) ^^^ (-1))) := ⟨_, rfl⟩
            rw [← er71] at hW
            rw [qr_qr] at hW
            have hw71 : WF r71 := by rw [er71]; exact (hμ _).wf (WF_free hwf (by omega))
            have hn71 : nW r71 = nW ν := by have h := ((hμ (nI 0)).eqv (WF_free hwf (by omega))).nW; rw [nW_up (by omega), nW_up (by omega)] at h; rw [er71, nW_up (by omega)]; exact h
            refine lv_iload X.x X.b d_R_giveUp_72 (lv_at hl 1 rfl) ?_
            refine lv_if_lt (tgt := 90) X.x X.b d_R_giveUp_74 (by decide) (fun c74 => ?_) (fun c74 => ?_)
            · refine lv_aload_n X.x X.b d_R_giveUp_90 rfl (lv_at hl 4 rfl) ?_
              refine lv_iload_n X.x X.b d_R_giveUp_91 rfl (lv_at hl 5 rfl) ?_
              refine lv_iload_n X.x X.b d_R_giveUp_92 rfl (lv_at hl 6 rfl) ?_
              refine q_cvip X (c_R_getsThere l E (qr (qr S 18 κ) 16 r71) r71 (by rw [qr_at]) hw71 κ (by rw [qr_ne (by omega), qr_at]) w n (by omega) (by omega)) hW (q_recv X hW ds_R rfl) ok_R_getsThere mw_1014 ⟨by decide, by decide⟩ (As := [.int (nI w), .int (nI n)]) rfl rfl (Nat.le_of_ble_eq_true rfl) (lv := [(6, .int (nI (j - 1))), (5, .int b), (4, .int (ν (44 + 6 * w + 3))), (3, .int (nI (44 + 6 * w + 3))), (0, .ref (eA E 70)), (1, .int (nI w)), (2, .int (nI n))]) hl ⟨Nat.le_refl 0, Nat.le_refl 0⟩ d_R_giveUp_93 (fun H locs Sq93 hP93 hW => ?_)
              obtain ⟨τ93, α93, hτ93, rfl⟩ := hP93
              have hW : qWH E (qr (qr S 18 α93) 16 τ93) s H locs := (by have h := hW; rw [qr_in (by omega), qr_in (by omega)] at h; exact h)
              have hc93 : (r71 (44 + 6 * w + 4) < daysS n r71 (44 + 6 * w + 4)) ↔ (fun i => ν (44 + 6 * w + 4) < gotS ν w 3 (ν (44 + 6 * w + 3) &&& (nI i ^^^ (-1))) n) (j - 1) := by
                have h1 : r71 (44 + 6 * w + 4) = ν (44 + 6 * w + 4) := by have h := hμ (r71 (44 + 6 * w + 3)) (44 + 6 * w + 4) (by omega); rw [upN (by omega), upN (by omega)] at h; rw [er71, upN (by omega)]; exact h
                have h2 : daysS n r71 (44 + 6 * w + 4) = gotS ν w 3 (ν (44 + 6 * w + 3) &&& (nI (j - 1) ^^^ (-1))) n := gotW (f := 3) (WF_free hwf (by omega)) hw n (by rw [er71]; exact hμ _)
                show _ ↔ ν (44 + 6 * w + 4) < gotS ν w 3 (ν (44 + 6 * w + 3) &&& (nI (j - 1) ^^^ (-1))) n
                rw [h1, h2]
              rw [b2i_c hc93]
              refine lv_if_eq (tgt := 104) X.x X.b d_R_giveUp_96 (by decide) (fun c96 => ?_) (fun c96 => ?_)
              · have c96 := b2i_e c96
                refine lv_iload X.x X.b d_R_giveUp_104 (lv_at hl 1 rfl) ?_
                refine lv_istore (lv' := [(5, .int b), (6, .int (nI (j - 1))), (4, .int (ν (44 + 6 * w + 3))), (3, .int (nI (44 + 6 * w + 3))), (0, .ref (eA E 70)), (1, .int (nI w)), (2, .int (nI n))]) X.x X.b d_R_giveUp_106 hl (by decide) rfl (fun ls hl => ?_)
                refine lv_iinc (v := (nI (j - 1)) - (nI 1)) (lv' := [(6, .int ((nI (j - 1)) - (nI 1))), (5, .int b), (4, .int (ν (44 + 6 * w + 3))), (3, .int (nI (44 + 6 * w + 3))), (0, .ref (eA E 70)), (1, .int (nI w)), (2, .int (nI n))]) X.x X.b d_R_giveUp_108 hl (k := 1) rfl nI_decx (by decide) rfl (fun ls hl => ?_)
                refine lv_goto (tgt := 54) X.x X.b d_R_giveUp_111 (by decide) ?_
                have hgn := oI_neg (by omega) (by omega) (hb ▸ c74)
                exact ih54 (j - 1) b τ93 α93 (by omega) (by rw [gvR_s hj1 hj, if_neg (fun z => c96 z.2)]; exact hb) (eq80_st (er71 ▸ hτ93) hμ) (by omega) _ _ _ hW (lv_sub hl [0, 1, 2, 3, 4, 5, 6] rfl)
              · have c96 := b2i_n c96
                refine lv_iload X.x X.b d_R_giveUp_99 (lv_at hl 0 rfl) ?_
                refine lv_goto (tgt := 106) X.x X.b d_R_giveUp_101 (by decide) ?_
                refine lv_istore (lv' := [(5, .int (nI (j - 1))), (6, .int (nI (j - 1))), (4, .int (ν (44 + 6 * w + 3))), (3, .int (nI (44 + 6 * w + 3))), (0, .ref (eA E 70)), (1, .int (nI w)), (2, .int (nI n))]) X.x X.b d_R_giveUp_106 hl (by decide) rfl (fun ls hl => ?_)
                refine lv_iinc (v := (nI (j - 1)) - (nI 1)) (lv' := [(6, .int ((nI (j - 1)) - (nI 1))), (5, .int (nI (j - 1))), (4, .int (ν (44 + 6 * w + 3))), (3, .int (nI (44 + 6 * w + 3))), (0, .ref (eA E 70)), (1, .int (nI w)), (2, .int (nI n))]) X.x X.b d_R_giveUp_108 hl (k := 1) rfl nI_decx (by decide) rfl (fun ls hl => ?_)
                refine lv_goto (tgt := 54) X.x X.b d_R_giveUp_111 (by decide) ?_
                have hgn := oI_neg (by omega) (by omega) (hb ▸ c74)
                exact ih54 (j - 1) (nI (j - 1)) τ93 α93 (by omega) (by rw [gvR_s hj1 hj, if_pos ⟨(fun q hq => absurd (hgn.symm.trans hq) (by simp)), c96⟩]; rfl) (eq80_st (er71 ▸ hτ93) hμ) (by omega) _ _ _ hW (lv_sub hl [0, 1, 2, 3, 4, 5, 6] rfl)
            · refine lv_iload X.x X.b d_R_giveUp_77 (lv_at hl 0 rfl) ?_
              refine q_csi X (c_R_bits l E (qr (qr S 18 κ) 16 r71) (j - 1) (by omega)) hW ok_R_bits mw_1022 ⟨by decide, by decide⟩ (As := [.int (nI (j - 1))]) rfl rfl (Nat.le_of_ble_eq_true rfl) (lv := [(6, .int (nI (j - 1))), (5, .int b), (4, .int (ν (44 + 6 * w + 3))), (3, .int (nI (44 + 6 * w + 3))), (0, .ref (eA E 70)), (1, .int (nI w)), (2, .int (nI n))]) hl ⟨Nat.le_refl 0, Nat.le_refl 0⟩ d_R_giveUp_79 (fun H locs hW => ?_)
              refine lv_iload X.x X.b d_R_giveUp_82 (lv_at hl 1 rfl) ?_
              obtain ⟨q82, hq82, eo82⟩ := oI_pos (hb ▸ c74)
              have eq82 : b = nI q82 := hb.trans eo82
              have hl82 := gvR_lt (by omega) _ _ hq82
              have hpl := pop_le (q := q82)
              have hpj := pop_le (q := j - 1)
              rw [eq82]
              refine q_csi X (c_R_bits l E (qr (qr S 18 κ) 16 r71) q82 (by omega)) hW ok_R_bits mw_1022 ⟨by decide, by decide⟩ (As := [.int (nI q82)]) rfl rfl (Nat.le_of_ble_eq_true rfl) (lv := [(6, .int (nI (j - 1))), (5, .int b), (4, .int (ν (44 + 6 * w + 3))), (3, .int (nI (44 + 6 * w + 3))), (0, .ref (eA E 70)), (1, .int (nI w)), (2, .int (nI n))]) hl ⟨Nat.le_refl 0, Nat.le_refl 0⟩ d_R_giveUp_84 (fun H locs hW => ?_)
              refine lv_icmp_gt (tgt := 104) X.x X.b d_R_giveUp_87 (by decide) (fun c87 => ?_) (fun c87 => ?_)
              · have c87 : (pop8 q82) < (pop8 (j - 1)) := (nI_ltI (a := (pop8 q82)) (b := (pop8 (j - 1))) (by omega) (by omega)).mp c87
                refine lv_iload X.x X.b d_R_giveUp_104 (lv_at hl 1 rfl) ?_
                refine lv_istore (lv' := [(5, .int b), (6, .int (nI (j - 1))), (4, .int (ν (44 + 6 * w + 3))), (3, .int (nI (44 + 6 * w + 3))), (0, .ref (eA E 70)), (1, .int (nI w)), (2, .int (nI n))]) X.x X.b d_R_giveUp_106 hl (by decide) rfl (fun ls hl => ?_)
                refine lv_iinc (v := (nI (j - 1)) - (nI 1)) (lv' := [(6, .int ((nI (j - 1)) - (nI 1))), (5, .int b), (4, .int (ν (44 + 6 * w + 3))), (3, .int (nI (44 + 6 * w + 3))), (0, .ref (eA E 70)), (1, .int (nI w)), (2, .int (nI n))]) X.x X.b d_R_giveUp_108 hl (k := 1) rfl nI_decx (by decide) rfl (fun ls hl => ?_)
                refine lv_goto (tgt := 54) X.x X.b d_R_giveUp_111 (by decide) ?_
                exact ih54 (j - 1) b r71 κ (by omega) (by rw [gvR_s hj1 hj, if_neg (fun z => absurd c87 (Nat.not_lt.mpr (z.1 q82 hq82))), ← hb, eq82]) (fun v => by rw [er71, upd_upd]; exact hμ v) (by omega) _ _ _ hW (lv_sub hl [0, 1, 2, 3, 4, 5, 6] rfl)
              · have c87 : ¬ (pop8 q82) < (pop8 (j - 1)) := fun z => c87 ((nI_ltI (a := (pop8 q82)) (b := (pop8 (j - 1))) (by omega) (by omega)).mpr z)
                refine lv_aload_n X.x X.b d_R_giveUp_90 rfl (lv_at hl 4 rfl) ?_
                refine lv_iload_n X.x X.b d_R_giveUp_91 rfl (lv_at hl 5 rfl) ?_
                refine lv_iload_n X.x X.b d_R_giveUp_92 rfl (lv_at hl 6 rfl) ?_
                refine q_cvip X (c_R_getsThere l E (qr (qr S 18 κ) 16 r71) r71 (by rw [qr_at]) hw71 κ (by rw [qr_ne (by omega), qr_at]) w n (by omega) (by omega)) hW (q_recv X hW ds_R rfl) ok_R_getsThere mw_1014 ⟨by decide, by decide⟩ (As := [.int (nI w), .int (nI n)]) rfl rfl (Nat.le_of_ble_eq_true rfl) (lv := [(6, .int (nI (j - 1))), (5, .int b), (4, .int (ν (44 + 6 * w + 3))), (3, .int (nI (44 + 6 * w + 3))), (0, .ref (eA E 70)), (1, .int (nI w)), (2, .int (nI n))]) hl ⟨Nat.le_refl 0, Nat.le_refl 0⟩ d_R_giveUp_93 (fun H locs Sq93 hP93 hW => ?_)
                obtain ⟨τ93, α93, hτ93, rfl⟩ := hP93
                have hW : qWH E (qr (qr S 18 α93) 16 τ93) s H locs := (by have h := hW; rw [qr_in (by omega), qr_in (by omega)] at h; exact h)
                have hc93 : (r71 (44 + 6 * w + 4) < daysS n r71 (44 + 6 * w + 4)) ↔ (fun i => ν (44 + 6 * w + 4) < gotS ν w 3 (ν (44 + 6 * w + 3) &&& (nI i ^^^ (-1))) n) (j - 1) := by
                  have h1 : r71 (44 + 6 * w + 4) = ν (44 + 6 * w + 4) := by have h := hμ (r71 (44 + 6 * w + 3)) (44 + 6 * w + 4) (by omega); rw [upN (by omega), upN (by omega)] at h; rw [er71, upN (by omega)]; exact h
                  have h2 : daysS n r71 (44 + 6 * w + 4) = gotS ν w 3 (ν (44 + 6 * w + 3) &&& (nI (j - 1) ^^^ (-1))) n := gotW (f := 3) (WF_free hwf (by omega)) hw n (by rw [er71]; exact hμ _)
                  show _ ↔ ν (44 + 6 * w + 4) < gotS ν w 3 (ν (44 + 6 * w + 3) &&& (nI (j - 1) ^^^ (-1))) n
                  rw [h1, h2]
                rw [b2i_c hc93]
                refine lv_if_eq (tgt := 104) X.x X.b d_R_giveUp_96 (by decide) (fun c96 => ?_) (fun c96 => ?_)
                · have c96 := b2i_e c96
                  refine lv_iload X.x X.b d_R_giveUp_104 (lv_at hl 1 rfl) ?_
                  refine lv_istore (lv' := [(5, .int b), (6, .int (nI (j - 1))), (4, .int (ν (44 + 6 * w + 3))), (3, .int (nI (44 + 6 * w + 3))), (0, .ref (eA E 70)), (1, .int (nI w)), (2, .int (nI n))]) X.x X.b d_R_giveUp_106 hl (by decide) rfl (fun ls hl => ?_)
                  refine lv_iinc (v := (nI (j - 1)) - (nI 1)) (lv' := [(6, .int ((nI (j - 1)) - (nI 1))), (5, .int b), (4, .int (ν (44 + 6 * w + 3))), (3, .int (nI (44 + 6 * w + 3))), (0, .ref (eA E 70)), (1, .int (nI w)), (2, .int (nI n))]) X.x X.b d_R_giveUp_108 hl (k := 1) rfl nI_decx (by decide) rfl (fun ls hl => ?_)
                  refine lv_goto (tgt := 54) X.x X.b d_R_giveUp_111 (by decide) ?_
                  exact ih54 (j - 1) b τ93 α93 (by omega) (by rw [gvR_s hj1 hj, if_neg (fun z => c96 z.2)]; rw [← hb]) (eq80_st (er71 ▸ hτ93) hμ) (by omega) _ _ _ hW (lv_sub hl [0, 1, 2, 3, 4, 5, 6] rfl)
                · have c96 := b2i_n c96
                  refine lv_iload X.x X.b d_R_giveUp_99 (lv_at hl 0 rfl) ?_
                  refine lv_goto (tgt := 106) X.x X.b d_R_giveUp_101 (by decide) ?_
                  refine lv_istore (lv' := [(5, .int (nI (j - 1))), (6, .int (nI (j - 1))), (4, .int (ν (44 + 6 * w + 3))), (3, .int (nI (44 + 6 * w + 3))), (0, .ref (eA E 70)), (1, .int (nI w)), (2, .int (nI n))]) X.x X.b d_R_giveUp_106 hl (by decide) rfl (fun ls hl => ?_)
                  refine lv_iinc (v := (nI (j - 1)) - (nI 1)) (lv' := [(6, .int ((nI (j - 1)) - (nI 1))), (5, .int (nI (j - 1))), (4, .int (ν (44 + 6 * w + 3))), (3, .int (nI (44 + 6 * w + 3))), (0, .ref (eA E 70)), (1, .int (nI w)), (2, .int (nI n))]) X.x X.b d_R_giveUp_108 hl (k := 1) rfl nI_decx (by decide) rfl (fun ls hl => ?_)
                  refine lv_goto (tgt := 54) X.x X.b d_R_giveUp_111 (by decide) ?_
                  exact ih54 (j - 1) (nI (j - 1)) τ93 α93 (by omega) (by rw [gvR_s hj1 hj, if_pos ⟨(fun q hq => by rw [hq82] at hq; cases hq; omega), c96⟩]; rfl) (eq80_st (er71 ▸ hτ93) hμ) (by omega) _ _ _ hW (lv_sub hl [0, 1, 2, 3, 4, 5, 6] rfl)
      exact loop54 (N0 + 1) N0 (-1) ν α (by omega) (by rw [Nat.sub_self]; rfl) (fun _ => eq80.rf) (Nat.lt_succ_self _) _ _ _ hW (lv_sub hl [0, 1, 2, 3, 4, 5, 6] rfl)
    · have c15 := b2i_e c15
      have c15 := mt (inR_i (by omega) (by decide)).mpr c15
      omega
set_option maxHeartbeats 1000000 in
set_option maxRecDepth 20000 in
theorem c_R_giveUp_n (l : Launch) (E : QE) (S : QM) (ν : Nat → Int32) (hν : S 16 = ν) (hwf : WF ν) (α : Nat → Int32) (hα : S 18 = α) (ψ : Nat → Int32) (hψ : S 19 = ψ) (w n : Nat) (hw : w < nW ν) (hn : n ≤ 20) (N0 : Nat) (hN : N0 = 2 ^ nT ν) (hF : gvR (fun i => ν (44 + 6 * w + 4) < gotS ν w 3 (ν (44 + 6 * w + 3) &&& (nI i ^^^ (-1))) n) N0 N0 = none) : qCPi E l y_R_giveUp prog_7_method_71_code 7 .int 11 [.ref (eA E 70), .int (nI w), .int (nI n)] S (-1000004) (bhG (qr S 19 (fnR ψ 3)) ν) := by
  refine qCPi_of (by decide) (Nat.le_of_ble_eq_true rfl) (fun p e s m below meth c ls X hW hl => ?_)
  have hl : lv_has ls 7 [(0, .ref (eA E 70)), (1, .int (nI w)), (2, .int (nI n))] := hl
  have hW : qWH E (qr (qr S 18 α) 16 ν) s s.heap [] := by rw [show qr (qr S 18 α) 16 ν = S from by rw [← hα, qr_self, ← hν, qr_self]]; exact hW
  have htl := hwf.tl
  have hwl := hwf.wl
  have hdl := hwf.dl
  have hNp := shl_pow htl
  rw [← hN] at hNp
  refine lv_aload_n X.x X.b d_R_giveUp_0 rfl (lv_at hl 0 rfl) ?_
  refine lv_iload_n X.x X.b d_R_giveUp_1 rfl (lv_at hl 1 rfl) ?_
  refine q_cvi X (c_R_isWalker l E (qr (qr S 18 α) 16 ν) ν (by rw [qr_at]) hwf (nI w)) hW (q_recv X hW ds_R rfl) ok_R_isWalker mw_841 ⟨by decide, by decide⟩ (As := [.int (nI w)]) rfl rfl (Nat.le_of_ble_eq_true rfl) (lv := [(0, .ref (eA E 70)), (1, .int (nI w)), (2, .int (nI n))]) hl ⟨Nat.le_refl 0, Nat.le_refl 0⟩ d_R_giveUp_2 (fun H locs hW => ?_)
  refine lv_if_eq (tgt := 18) X.x X.b d_R_giveUp_5 (by decide) (fun c5 => ?_) (fun c5 => ?_)
  · have c5 := b2i_e c5
    have c5 := mt (isW_i hwf (by omega)).mpr c5
    omega
  · have c5 := b2i_n c5
    have c5 := (isW_i hwf (by omega)).mp c5
    refine lv_iload_n X.x X.b d_R_giveUp_8 rfl (lv_at hl 2 rfl) ?_
    refine lv_iconst (v := nI 0) X.x X.b d_R_giveUp_9 (by decide) ?_
    refine lv_bipush (v := nI 20) X.x X.b d_R_giveUp_10 (by decide) ?_
    refine q_csi X (c_R_within l E (qr (qr S 18 α) 16 ν) (nI n) (nI 0) (nI 20)) hW ok_R_within mw_757 ⟨by decide, by decide⟩ (As := [.int (nI n), .int (nI 0), .int (nI 20)]) rfl rfl (Nat.le_of_ble_eq_true rfl) (lv := [(0, .ref (eA E 70)), (1, .int (nI w)), (2, .int (nI n))]) hl ⟨Nat.le_refl 0, Nat.le_refl 0⟩ d_R_giveUp_12 (fun H locs hW => ?_)
    refine lv_if_ne (tgt := 25) X.x X.b d_R_giveUp_15 (by decide) (fun c15 => ?_) (fun c15 => ?_)
    · have c15 := b2i_n c15
      have c15 := (inR_i (by omega) (by decide)).mp c15
      refine lv_iload_n X.x X.b d_R_giveUp_25 rfl (lv_at hl 1 rfl) ?_
      refine lv_iconst (v := nI 3) X.x X.b d_R_giveUp_26 (by decide) ?_
      refine q_csi X (c_R_walkerAt l E (qr (qr S 18 α) 16 ν) w 3) hW ok_R_walkerAt mw_802 ⟨by decide, by decide⟩ (As := [.int (nI w), .int (nI 3)]) rfl rfl (Nat.le_of_ble_eq_true rfl) (lv := [(0, .ref (eA E 70)), (1, .int (nI w)), (2, .int (nI n))]) hl ⟨Nat.le_refl 0, Nat.le_refl 0⟩ d_R_giveUp_27 (fun H locs hW => ?_)
      refine lv_istore_n (lv' := [(3, .int (nI (44 + 6 * w + 3))), (0, .ref (eA E 70)), (1, .int (nI w)), (2, .int (nI n))]) X.x X.b d_R_giveUp_30 rfl hl (by decide) rfl (fun ls hl => ?_)
      refine lv_aload_n X.x X.b d_R_giveUp_31 rfl (lv_at hl 1 rfl) ?_
      refine q_getr X hW qj4 rfl _ ds_R 0 (by decide) mw_686 rfl (c1 := 71) rfl d_R_giveUp_32 ?_
      refine lv_iload_n X.x X.b d_R_giveUp_35 rfl (lv_at hl 0 rfl) ?_
      refine g_ald X hW ds_71 (q_in (by omega) (by decide)) (p0 := 44 + 6 * w + 3) (q_tn (by omega) (by omega)) (v := ν (44 + 6 * w + 3)) (by rw [qr_at]) d_R_giveUp_36 ?_
      refine lv_istore (lv' := [(4, .int (ν (44 + 6 * w + 3))), (3, .int (nI (44 + 6 * w + 3))), (0, .ref (eA E 70)), (1, .int (nI w)), (2, .int (nI n))]) X.x X.b d_R_giveUp_37 hl (by decide) rfl (fun ls hl => ?_)
      refine lv_iconst (v := (-1)) X.x X.b d_R_giveUp_39 (by decide) ?_
      refine lv_istore (lv' := [(5, .int (-1)), (4, .int (ν (44 + 6 * w + 3))), (3, .int (nI (44 + 6 * w + 3))), (0, .ref (eA E 70)), (1, .int (nI w)), (2, .int (nI n))]) X.x X.b d_R_giveUp_40 hl (by decide) rfl (fun ls hl => ?_)
      refine lv_iconst (v := nI 1) X.x X.b d_R_giveUp_42 (by decide) ?_
      refine lv_aload_n X.x X.b d_R_giveUp_43 rfl (lv_at hl 3 rfl) ?_
      refine q_getr X hW qj4 rfl _ ds_R 0 (by decide) mw_686 rfl (c1 := 71) rfl d_R_giveUp_44 ?_
      refine lv_iconst (v := nI 1) X.x X.b d_R_giveUp_47 (by decide) ?_
      refine g_ald X hW ds_71 (q_in (by omega) (by decide)) (p0 := 1) (q_tn (by omega) (by omega)) (v := ν 1) (by rw [qr_at]) d_R_giveUp_48 ?_
      rw [hwf.t]
      refine lv_ishl X.x X.b d_R_giveUp_49 ?_
      rw [show (nI 1) <<< ((nI (nT ν)) &&& 31) = nI N0 from (by rw [hN]; exact (shl_pow htl).1)]
      have hsp := shl_pow htl
      rw [← hN] at hsp
      refine lv_iconst (v := nI 1) X.x X.b d_R_giveUp_50 (by decide) ?_
      refine lv_isub X.x X.b d_R_giveUp_51 ?_
      refine lv_istore (lv' := [(6, .int ((nI N0) - (nI 1))), (5, .int (-1)), (4, .int (ν (44 + 6 * w + 3))), (3, .int (nI (44 + 6 * w + 3))), (0, .ref (eA E 70)), (1, .int (nI w)), (2, .int (nI n))]) X.x X.b d_R_giveUp_52 hl (by decide) rfl (fun ls hl => ?_)
      have loop54 : ∀ (fu54 : Nat) (j : Nat) (b : Int32) (μ : Nat → Int32) (κ : Nat → Int32), j ≤ N0 → b = oI (gvR (fun i => ν (44 + 6 * w + 4) < gotS ν w 3 (ν (44 + 6 * w + 3) &&& (nI i ^^^ (-1))) n) N0 (N0 - j)) → (∀ v, eq80 (upd μ (44 + 6 * w + 3) v) (upd ν (44 + 6 * w + 3) v)) → j < fu54 → ∀ (H : Heap) (locs : List Loc) (ls : Array Slot), qWH E (qr (qr S 18 κ) 16 μ) s H locs → lv_has ls 7 [(6, .int ((nI j) - (nI 1))), (5, .int b), (4, .int (ν (44 + 6 * w + 3))), (3, .int (nI (44 + 6 * w + 3))), (0, .ref (eA E 70)), (1, .int (nI w)), (2, .int (nI n))] → W p l e (qRm 11) s m ([.ref (eA E 70), .int (nI w), .int (nI n)] : List Value).toArray below meth c H locs 0 0 (MQ below (qQpi E (-1000004) (bhG (qr S 19 (fnR ψ 3)) ν) s.heap.size) ([.ref (eA E 70), .int (nI w), .int (nI n)] : List Value).toArray s 0 0 (qAA E s.heap.size)) (F0 m 54 ls []) := by
        intro fu54
        induction fu54 with
        | zero =>
          intro j b μ κ hj hb hμ hfu
          exact absurd hfu (Nat.not_lt_zero _)
        | succ fu54 ih54 =>
          intro j b μ κ hj hb hμ hfu H locs ls hW hl
          refine lv_iload X.x X.b d_R_giveUp_54 (lv_at hl 0 rfl) ?_
          refine lv_if_lt (tgt := 114) X.x X.b d_R_giveUp_56 (by decide) (fun c56 => ?_) (fun c56 => ?_)
          · have hj0 : j = 0 := (neg_j (by omega)).mp c56
            refine lv_aload_n X.x X.b d_R_giveUp_114 rfl (lv_at hl 4 rfl) ?_
            refine q_getr X hW qj4 rfl _ ds_R 0 (by decide) mw_686 rfl (c1 := 71) rfl d_R_giveUp_115 ?_
            refine lv_iload_n X.x X.b d_R_giveUp_118 rfl (lv_at hl 3 rfl) ?_
            refine lv_iload X.x X.b d_R_giveUp_119 (lv_at hl 2 rfl) ?_
            refine g_ast X hW ds_71 (q_in (by omega) (by decide)) (p0 := 44 + 6 * w + 3) (q_tn (by omega) (by omega)) (ρ := μ) (by rw [qr_at]) d_R_giveUp_121 (fun H locs hW => ?_)
            obtain ⟨r121, er121⟩ : ∃ z, z = upd μ (44 + 6 * w + 3) (ν (44 + 6 * w + 3)) := ⟨_, rfl⟩
            rw [← er121] at hW
            rw [qr_qr] at hW
            refine lv_aload_n X.x X.b d_R_giveUp_122 rfl (lv_at hl 4 rfl) ?_
            refine lv_iload X.x X.b d_R_giveUp_123 (lv_at hl 1 rfl) ?_
            have hb0 : b = (-1) := by rw [hb, hj0, Nat.sub_zero, hF]; rfl
            rw [hb0]
            refine q_cvi X (c_R_orNone_n l E (qr (qr S 18 κ) 16 r121) ψ (by rw [qr_ne (by omega), qr_ne (by omega), hψ])) hW (q_recv X hW ds_R rfl) ok_R_orNone mw_974 ⟨by decide, by decide⟩ (As := [.int (-1)]) rfl rfl (Nat.le_of_ble_eq_true rfl) (lv := [(6, .int ((nI j) - (nI 1))), (5, .int b), (4, .int (ν (44 + 6 * w + 3))), (3, .int (nI (44 + 6 * w + 3))), (0, .ref (eA E 70)), (1, .int (nI w)), (2, .int (nI n))]) hl ⟨Nat.le_refl 0, Nat.le_refl 0⟩ d_R_giveUp_125 (fun H locs hW => ?_)
            have hW : qWH E (qr (qr (qr S 18 κ) 16 r121) 19 (fnR ψ 3)) s H locs := hW
            exact q_pzret X rfl hW ⟨rfl, ⟨_, _, by rw [er121]; have h := hμ (ν (44 + 6 * w + 3)); rw [upd_self] at h; exact h, qr_3⟩⟩ d_R_giveUp_128
          · have hj1 : 1 ≤ j := by have := mt (neg_j (by omega)).mpr c56; omega
            rw [show nI j - nI 1 = nI (j - 1) from pk_sub hj1] at hl
            refine lv_aload_n X.x X.b d_R_giveUp_59 rfl (lv_at hl 4 rfl) ?_
            refine q_getr X hW qj4 rfl _ ds_R 0 (by decide) mw_686 rfl (c1 := 71) rfl d_R_giveUp_60 ?_
            refine lv_iload_n X.x X.b d_R_giveUp_63 rfl (lv_at hl 3 rfl) ?_
            refine lv_iload X.x X.b d_R_giveUp_64 (lv_at hl 2 rfl) ?_
            refine lv_iload X.x X.b d_R_giveUp_66 (lv_at hl 0 rfl) ?_
            refine lv_iconst (v := (-1)) X.x X.b d_R_giveUp_68 (by decide) ?_
            refine lv_ixor X.x X.b d_R_giveUp_69 ?_
            refine lv_iand X.x X.b d_R_giveUp_70 ?_
            refine g_ast X hW ds_71 (q_in (by omega) (by decide)) (p0 := 44 + 6 * w + 3) (q_tn (by omega) (by omega)) (ρ := μ) (by rw [qr_at]) d_R_giveUp_71 (fun H locs hW => ?_)
            obtain ⟨r71, er71⟩ : ∃ z, z = upd μ (44 + 6 * w + 3) ((ν (44 + 6 * w + 3)) &&& ((nI (j - 1)) ^^^ (-1))) := ⟨_, rfl⟩
            rw [← er71] at hW
            rw [qr_qr] at hW
            have hw71 : WF r71 := by rw [er71]; exact (hμ _).wf (WF_free hwf (by omega))
            have hn71 : nW r71 = nW ν := by have h := ((hμ (nI 0)).eqv (WF_free hwf (by omega))).nW; rw [nW_up (by omega), nW_up (by omega)] at h; rw [er71, nW_up (by omega)]; exact h
            refine lv_iload X.x X.b d_R_giveUp_72 (lv_at hl 1 rfl) ?_
            refine lv_if_lt (tgt := 90) X.x X.b d_R_giveUp_74 (by decide) (fun c74 => ?_) (fun c74 => ?_)
            · refine lv_aload_n X.x X.b d_R_giveUp_90 rfl (lv_at hl 4 rfl) ?_
              refine lv_iload_n X.x X.b d_R_giveUp_91 rfl (lv_at hl 5 rfl) ?_
              refine lv_iload_n X.x X.b d_R_giveUp_92 rfl (lv_at hl 6 rfl) ?_
              refine q_cvip X (c_R_getsThere l E (qr (qr S 18 κ) 16 r71) r71 (by rw [qr_at]) hw71 κ (by rw [qr_ne (by omega), qr_at]) w n (by omega) (by omega)) hW (q_recv X hW ds_R rfl) ok_R_getsThere mw_1014 ⟨by decide, by decide⟩ (As := [.int (nI w), .int (nI n)]) rfl rfl (Nat.le_of_ble_eq_true rfl) (lv := [(6, .int (nI (j - 1))), (5, .int b), (4, .int (ν (44 + 6 * w + 3))), (3, .int (nI (44 + 6 * w + 3))), (0, .ref (eA E 70)), (1, .int (nI w)), (2, .int (nI n))]) hl ⟨Nat.le_refl 0, Nat.le_refl 0⟩ d_R_giveUp_93 (fun H locs Sq93 hP93 hW => ?_)
              obtain ⟨τ93, α93, hτ93, rfl⟩ := hP93
              have hW : qWH E (qr (qr S 18 α93) 16 τ93) s H locs := (by have h := hW; rw [qr_in (by omega), qr_in (by omega)] at h; exact h)
              have hc93 : (r71 (44 + 6 * w + 4) < daysS n r71 (44 + 6 * w + 4)) ↔ (fun i => ν (44 + 6 * w + 4) < gotS ν w 3 (ν (44 + 6 * w + 3) &&& (nI i ^^^ (-1))) n) (j - 1) := by
                have h1 : r71 (44 + 6 * w + 4) = ν (44 + 6 * w + 4) := by have h := hμ (r71 (44 + 6 * w + 3)) (44 + 6 * w + 4) (by omega); rw [upN (by omega), upN (by omega)] at h; rw [er71, upN (by omega)]; exact h
                have h2 : daysS n r71 (44 + 6 * w + 4) = gotS ν w 3 (ν (44 + 6 * w + 3) &&& (nI (j - 1) ^^^ (-1))) n := gotW (f := 3) (WF_free hwf (by omega)) hw n (by rw [er71]; exact hμ _)
                show _ ↔ ν (44 + 6 * w + 4) < gotS ν w 3 (ν (44 + 6 * w + 3) &&& (nI (j - 1) ^^^ (-1))) n
                rw [h1, h2]
              rw [b2i_c hc93]
              refine lv_if_eq (tgt := 104) X.x X.b d_R_giveUp_96 (by decide) (fun c96 => ?_) (fun c96 => ?_)
              · have c96 := b2i_e c96
                refine lv_iload X.x X.b d_R_giveUp_104 (lv_at hl 1 rfl) ?_
                refine lv_istore (lv' := [(5, .int b), (6, .int (nI (j - 1))), (4, .int (ν (44 + 6 * w + 3))), (3, .int (nI (44 + 6 * w + 3))), (0, .ref (eA E 70)), (1, .int (nI w)), (2, .int (nI n))]) X.x X.b d_R_giveUp_106 hl (by decide) rfl (fun ls hl => ?_)
                refine lv_iinc (v := (nI (j - 1)) - (nI 1)) (lv' := [(6, .int ((nI (j - 1)) - (nI 1))), (5, .int b), (4, .int (ν (44 + 6 * w + 3))), (3, .int (nI (44 + 6 * w + 3))), (0, .ref (eA E 70)), (1, .int (nI w)), (2, .int (nI n))]) X.x X.b d_R_giveUp_108 hl (k := 1) rfl nI_decx (by decide) rfl (fun ls hl => ?_)
                refine lv_goto (tgt := 54) X.x X.b d_R_giveUp_111 (by decide) ?_
                have hgn := oI_neg (by omega) (by omega) (hb ▸ c74)
                exact ih54 (j - 1) b τ93 α93 (by omega) (by rw [gvR_s hj1 hj, if_neg (fun z => c96 z.2)]; exact hb) (eq80_st (er71 ▸ hτ93) hμ) (by omega) _ _ _ hW (lv_sub hl [0, 1, 2, 3, 4, 5, 6] rfl)
              · have c96 := b2i_n c96
                refine lv_iload X.x X.b d_R_giveUp_99 (lv_at hl 0 rfl) ?_
                refine lv_goto (tgt := 106) X.x X.b d_R_giveUp_101 (by decide) ?_
                refine lv_istore (lv' := [(5, .int (nI (j - 1))), (6, .int (nI (j - 1))), (4, .int (ν (44 + 6 * w + 3))), (3, .int (nI (44 + 6 * w + 3))), (0, .ref (eA E 70)), (1, .int (nI w)), (2, .int (nI n))]) X.x X.b d_R_giveUp_106 hl (by decide) rfl (fun ls hl => ?_)
                refine lv_iinc (v := (nI (j - 1)) - (nI 1)) (lv' := [(6, .int ((nI (j - 1)) - (nI 1))), (5, .int (nI (j - 1))), (4, .int (ν (44 + 6 * w + 3))), (3, .int (nI (44 + 6 * w + 3))), (0, .ref (eA E 70)), (1, .int (nI w)), (2, .int (nI n))]) X.x X.b d_R_giveUp_108 hl (k := 1) rfl nI_decx (by decide) rfl (fun ls hl => ?_)
                refine lv_goto (tgt := 54) X.x X.b d_R_giveUp_111 (by decide) ?_
                have hgn := oI_neg (by omega) (by omega) (hb ▸ c74)
                exact ih54 (j - 1) (nI (j - 1)) τ93 α93 (by omega) (by rw [gvR_s hj1 hj, if_pos ⟨(fun q hq => absurd (hgn.symm.trans hq) (by simp)), c96⟩]; rfl) (eq80_st (er71 ▸ hτ93) hμ) (by omega) _ _ _ hW (lv_sub hl [0, 1, 2, 3, 4, 5, 6] rfl)
            · refine lv_iload X.x X.b d_R_giveUp_77 (lv_at hl 0 rfl) ?_
              refine q_csi X (c_R_bits l E (qr (qr S 18 κ) 16 r71) (j - 1) (by omega)) hW ok_R_bits mw_1022 ⟨by decide, by decide⟩ (As := [.int (nI (j - 1))]) rfl rfl (Nat.le_of_ble_eq_true rfl) (lv := [(6, .int (nI (j - 1))), (5, .int b), (4, .int (ν (44 + 6 * w + 3))), (3, .int (nI (44 + 6 * w + 3))), (0, .ref (eA E 70)), (1, .int (nI w)), (2, .int (nI n))]) hl ⟨Nat.le_refl 0, Nat.le_refl 0⟩ d_R_giveUp_79 (fun H locs hW => ?_)
              refine lv_iload X.x X.b d_R_giveUp_82 (lv_at hl 1 rfl) ?_
              obtain ⟨q82, hq82, eo82⟩ := oI_pos (hb ▸ c74)
              have eq82 : b = nI q82 := hb.trans eo82
              have hl82 := gvR_lt (by omega) _ _ hq82
              have hpl := pop_le (q := q82)
              have hpj := pop_le (q := j - 1)
              rw [eq82]
              refine q_csi X (c_R_bits l E (qr (qr S 18 κ) 16 r71) q82 (by omega)) hW ok_R_bits mw_1022 ⟨by decide, by decide⟩ (As := [.int (nI q82)]) rfl rfl (Nat.le_of_ble_eq_true rfl) (lv := [(6, .int (nI (j - 1))), (5, .int b), (4, .int (ν (44 + 6 * w + 3))), (3, .int (nI (44 + 6 * w + 3))), (0, .ref (eA E 70)), (1, .int (nI w)), (2, .int (nI n))]) hl ⟨Nat.le_refl 0, Nat.le_refl 0⟩ d_R_giveUp_84 (fun H locs hW => ?_)
              refine lv_icmp_gt (tgt := 104) X.x X.b d_R_giveUp_87 (by decide) (fun c87 => ?_) (fun c87 => ?_)
              · have c87 : (pop8 q82) < (pop8 (j - 1)) := (nI_ltI (a := (pop8 q82)) (b := (pop8 (j - 1))) (by omega) (by omega)).mp c87
                refine lv_iload X.x X.b d_R_giveUp_104 (lv_at hl 1 rfl) ?_
                refine lv_istore (lv' := [(5, .int b), (6, .int (nI (j - 1))), (4, .int (ν (44 + 6 * w + 3))), (3, .int (nI (44 + 6 * w + 3))), (0, .ref (eA E 70)), (1, .int (nI w)), (2, .int (nI n))]) X.x X.b d_R_giveUp_106 hl (by decide) rfl (fun ls hl => ?_)
                refine lv_iinc (v := (nI (j - 1)) - (nI 1)) (lv' := [(6, .int ((nI (j - 1)) - (nI 1))), (5, .int b), (4, .int (ν (44 + 6 * w + 3))), (3, .int (nI (44 + 6 * w + 3))), (0, .ref (eA E 70)), (1, .int (nI w)), (2, .int (nI n))]) X.x X.b d_R_giveUp_108 hl (k := 1) rfl nI_decx (by decide) rfl (fun ls hl => ?_)
                refine lv_goto (tgt := 54) X.x X.b d_R_giveUp_111 (by decide) ?_
                exact ih54 (j - 1) b r71 κ (by omega) (by rw [gvR_s hj1 hj, if_neg (fun z => absurd c87 (Nat.not_lt.mpr (z.1 q82 hq82))), ← hb, eq82]) (fun v => by rw [er71, upd_upd]; exact hμ v) (by omega) _ _ _ hW (lv_sub hl [0, 1, 2, 3, 4, 5, 6] rfl)
              · have c87 : ¬ (pop8 q82) < (pop8 (j - 1)) := fun z => c87 ((nI_ltI (a := (pop8 q82)) (b := (pop8 (j - 1))) (by omega) (by omega)).mpr z)
                refine lv_aload_n X.x X.b d_R_giveUp_90 rfl (lv_at hl 4 rfl) ?_
                refine lv_iload_n X.x X.b d_R_giveUp_91 rfl (lv_at hl 5 rfl) ?_
                refine lv_iload_n X.x X.b d_R_giveUp_92 rfl (lv_at hl 6 rfl) ?_
                refine q_cvip X (c_R_getsThere l E (qr (qr S 18 κ) 16 r71) r71 (by rw [qr_at]) hw71 κ (by rw [qr_ne (by omega), qr_at]) w n (by omega) (by omega)) hW (q_recv X hW ds_R rfl) ok_R_getsThere mw_1014 ⟨by decide, by decide⟩ (As := [.int (nI w), .int (nI n)]) rfl rfl (Nat.le_of_ble_eq_true rfl) (lv := [(6, .int (nI (j - 1))), (5, .int b), (4, .int (ν (44 + 6 * w + 3))), (3, .int (nI (44 + 6 * w + 3))), (0, .ref (eA E 70)), (1, .int (nI w)), (2, .int (nI n))]) hl ⟨Nat.le_refl 0, Nat.le_refl 0⟩ d_R_giveUp_93 (fun H locs Sq93 hP93 hW => ?_)
                obtain ⟨τ93, α93, hτ93, rfl⟩ := hP93
                have hW : qWH E (qr (qr S 18 α93) 16 τ93) s H locs := (by have h := hW; rw [qr_in (by omega), qr_in (by omega)] at h; exact h)
                have hc93 : (r71 (44 + 6 * w + 4) < daysS n r71 (44 + 6 * w + 4)) ↔ (fun i => ν (44 + 6 * w + 4) < gotS ν w 3 (ν (44 + 6 * w + 3) &&& (nI i ^^^ (-1))) n) (j - 1) := by
                  have h1 : r71 (44 + 6 * w + 4) = ν (44 + 6 * w + 4) := by have h := hμ (r71 (44 + 6 * w + 3)) (44 + 6 * w + 4) (by omega); rw [upN (by omega), upN (by omega)] at h; rw [er71, upN (by omega)]; exact h
                  have h2 : daysS n r71 (44 + 6 * w + 4) = gotS ν w 3 (ν (44 + 6 * w + 3) &&& (nI (j - 1) ^^^ (-1))) n := gotW (f := 3) (WF_free hwf (by omega)) hw n (by rw [er71]; exact hμ _)
                  show _ ↔ ν (44 + 6 * w + 4) < gotS ν w 3 (ν (44 + 6 * w + 3) &&& (nI (j - 1) ^^^ (-1))) n
                  rw [h1, h2]
                rw [b2i_c hc93]
                refine lv_if_eq (tgt := 104) X.x X.b d_R_giveUp_96 (by decide) (fun c96 => ?_) (fun c96 => ?_)
                · have c96 := b2i_e c96
                  refine lv_iload X.x X.b d_R_giveUp_104 (lv_at hl 1 rfl) ?_
                  refine lv_istore (lv' := [(5, .int b), (6, .int (nI (j - 1))), (4, .int (ν (44 + 6 * w + 3))), (3, .int (nI (44 + 6 * w + 3))), (0, .ref (eA E 70)), (1, .int (nI w)), (2, .int (nI n))]) X.x X.b d_R_giveUp_106 hl (by decide) rfl (fun ls hl => ?_)
                  refine lv_iinc (v := (nI (j - 1)) - (nI 1)) (lv' := [(6, .int ((nI (j - 1)) - (nI 1))), (5, .int b), (4, .int (ν (44 + 6 * w + 3))), (3, .int (nI (44 + 6 * w + 3))), (0, .ref (eA E 70)), (1, .int (nI w)), (2, .int (nI n))]) X.x X.b d_R_giveUp_108 hl (k := 1) rfl nI_decx (by decide) rfl (fun ls hl => ?_)
                  refine lv_goto (tgt := 54) X.x X.b d_R_giveUp_111 (by decide) ?_
                  exact ih54 (j - 1) b τ93 α93 (by omega) (by rw [gvR_s hj1 hj, if_neg (fun z => c96 z.2)]; rw [← hb]) (eq80_st (er71 ▸ hτ93) hμ) (by omega) _ _ _ hW (lv_sub hl [0, 1, 2, 3, 4, 5, 6] rfl)
                · have c96 := b2i_n c96
                  refine lv_iload X.x X.b d_R_giveUp_99 (lv_at hl 0 rfl) ?_
                  refine lv_goto (tgt := 106) X.x X.b d_R_giveUp_101 (by decide) ?_
                  refine lv_istore (lv' := [(5, .int (nI (j - 1))), (6, .int (nI (j - 1))), (4, .int (ν (44 + 6 * w + 3))), (3, .int (nI (44 + 6 * w + 3))), (0, .ref (eA E 70)), (1, .int (nI w)), (2, .int (nI n))]) X.x X.b d_R_giveUp_106 hl (by decide) rfl (fun ls hl => ?_)
                  refine lv_iinc (v := (nI (j - 1)) - (nI 1)) (lv' := [(6, .int ((nI (j - 1)) - (nI 1))), (5, .int (nI (j - 1))), (4, .int (ν (44 + 6 * w + 3))), (3, .int (nI (44 + 6 * w + 3))), (0, .ref (eA E 70)), (1, .int (nI w)), (2, .int (nI n))]) X.x X.b d_R_giveUp_108 hl (k := 1) rfl nI_decx (by decide) rfl (fun ls hl => ?_)
                  refine lv_goto (tgt := 54) X.x X.b d_R_giveUp_111 (by decide) ?_
                  exact ih54 (j - 1) (nI (j - 1)) τ93 α93 (by omega) (by rw [gvR_s hj1 hj, if_pos ⟨(fun q hq => by rw [hq82] at hq; cases hq; omega), c96⟩]; rfl) (eq80_st (er71 ▸ hτ93) hμ) (by omega) _ _ _ hW (lv_sub hl [0, 1, 2, 3, 4, 5, 6] rfl)
      exact loop54 (N0 + 1) N0 (-1) ν α (by omega) (by rw [Nat.sub_self]; rfl) (fun _ => eq80.rf) (Nat.lt_succ_self _) _ _ _ hW (lv_sub hl [0, 1, 2, 3, 4, 5, 6] rfl)
    · have c15 := b2i_e c15
      have c15 := mt (inR_i (by omega) (by decide)).mpr c15
      omega
set_option maxHeartbeats 1000000 in
set_option maxRecDepth 20000 in
theorem c_R_giveUp_b (l : Launch) (E : QE) (S : QM) (ν : Nat → Int32) (hν : S 16 = ν) (hwf : WF ν) (ψ : Nat → Int32) (hψ : S 19 = ψ) (x y : Int32) (h : ¬ (isW ν x ∧ inR 0 20 y)) : qCI E l y_R_giveUp prog_7_method_71_code 7 .int 4 [.ref (eA E 70), .int x, .int y] S (-1000001) (qr S 19 (fnR ψ 0)) := by
  refine qCI_of (by decide) (Nat.le_of_ble_eq_true rfl) (fun p e s m below meth c ls X hW hl => ?_)
  have hl : lv_has ls 7 [(0, .ref (eA E 70)), (1, .int x), (2, .int y)] := hl
  have htl := hwf.tl
  have hwl := hwf.wl
  have hdl := hwf.dl
  refine lv_aload_n X.x X.b d_R_giveUp_0 rfl (lv_at hl 0 rfl) ?_
  refine lv_iload_n X.x X.b d_R_giveUp_1 rfl (lv_at hl 1 rfl) ?_
  refine q_cvi X (c_R_isWalker l E S ν (by rw [hν]) hwf x) hW (q_recv X hW ds_R rfl) ok_R_isWalker mw_841 ⟨by decide, by decide⟩ (As := [.int x]) rfl rfl (Nat.le_of_ble_eq_true rfl) (lv := [(0, .ref (eA E 70)), (1, .int x), (2, .int y)]) hl ⟨Nat.le_refl 0, Nat.le_refl 0⟩ d_R_giveUp_2 (fun H locs hW => ?_)
  refine lv_if_eq (tgt := 18) X.x X.b d_R_giveUp_5 (by decide) (fun c5 => ?_) (fun c5 => ?_)
  · have c5 := b2i_e c5
    refine lv_aload_n X.x X.b d_R_giveUp_18 rfl (lv_at hl 0 rfl) ?_
    refine lv_ldc (v := (-1000001)) X.x X.b X.ow (X.ts _ mw_767) d_R_giveUp_19 ?_
    refine q_cvi X (c_R_finding_0 l E S ψ (by rw [hψ])) hW (q_recv X hW ds_R rfl) ok_R_finding mw_768 ⟨by decide, by decide⟩ (As := [.int (-1000001)]) rfl rfl (Nat.le_of_ble_eq_true rfl) (lv := [(0, .ref (eA E 70)), (1, .int x), (2, .int y)]) hl ⟨Nat.le_refl 0, Nat.le_refl 0⟩ d_R_giveUp_21 (fun H locs hW => ?_)
    have hW : qWH E (qr S 19 (fnR ψ 0)) s H locs := hW
    exact q_zret X rfl hW ⟨rfl, rfl⟩ d_R_giveUp_24
  · have c5 := b2i_n c5
    refine lv_iload_n X.x X.b d_R_giveUp_8 rfl (lv_at hl 2 rfl) ?_
    refine lv_iconst (v := nI 0) X.x X.b d_R_giveUp_9 (by decide) ?_
    refine lv_bipush (v := nI 20) X.x X.b d_R_giveUp_10 (by decide) ?_
    refine q_csi X (c_R_within l E S y (nI 0) (nI 20)) hW ok_R_within mw_757 ⟨by decide, by decide⟩ (As := [.int y, .int (nI 0), .int (nI 20)]) rfl rfl (Nat.le_of_ble_eq_true rfl) (lv := [(0, .ref (eA E 70)), (1, .int x), (2, .int y)]) hl ⟨Nat.le_refl 0, Nat.le_refl 0⟩ d_R_giveUp_12 (fun H locs hW => ?_)
    refine lv_if_ne (tgt := 25) X.x X.b d_R_giveUp_15 (by decide) (fun c15 => ?_) (fun c15 => ?_)
    · have c15 := b2i_n c15
      exact absurd ⟨c5, c15⟩ h
    · have c15 := b2i_e c15
      refine lv_aload_n X.x X.b d_R_giveUp_18 rfl (lv_at hl 0 rfl) ?_
      refine lv_ldc (v := (-1000001)) X.x X.b X.ow (X.ts _ mw_767) d_R_giveUp_19 ?_
      refine q_cvi X (c_R_finding_0 l E S ψ (by rw [hψ])) hW (q_recv X hW ds_R rfl) ok_R_finding mw_768 ⟨by decide, by decide⟩ (As := [.int (-1000001)]) rfl rfl (Nat.le_of_ble_eq_true rfl) (lv := [(0, .ref (eA E 70)), (1, .int x), (2, .int y)]) hl ⟨Nat.le_refl 0, Nat.le_refl 0⟩ d_R_giveUp_21 (fun H locs hW => ?_)
      have hW : qWH E (qr S 19 (fnR ψ 0)) s H locs := hW
      exact q_zret X rfl hW ⟨rfl, rfl⟩ d_R_giveUp_24
set_option maxHeartbeats 1000000 in
set_option maxRecDepth 20000 in
theorem c_R_odds_0 (l : Launch) (E : QE) (S : QM) (ν : Nat → Int32) (hν : S 16 = ν) (hwf : WF ν) (w t n : Nat) (hw : w < nW ν) (ht : t < nT ν) (hn : n ≤ 15) : qCPl E l y_R_odds prog_7_method_79_code 13 6 [.ref (eA E 70), .int (nI w), .int (nI t), .int (nI n), .int (nI 0)] S (pwS (nI (redF (cntS ν w t 16) 16).1).toInt64 n) (any S 16 (fun τ => eq80 τ ν)) := by
  refine qCPl_of (by decide) (Nat.le_of_ble_eq_true rfl) (fun p e s m below meth c ls X hW hl => ?_)
  have hl : lv_has ls 13 [(0, .ref (eA E 70)), (1, .int (nI w)), (2, .int (nI t)), (3, .int (nI n)), (4, .int (nI 0))] := hl
  have htl := hwf.tl
  have hwl := hwf.wl
  have hdl := hwf.dl
  refine lv_aload_n X.x X.b d_R_odds_0 rfl (lv_at hl 0 rfl) ?_
  refine lv_iload_n X.x X.b d_R_odds_1 rfl (lv_at hl 1 rfl) ?_
  refine q_cvi X (c_R_isWalker l E S ν (by rw [hν]) hwf (nI w)) hW (q_recv X hW ds_R rfl) ok_R_isWalker mw_841 ⟨by decide, by decide⟩ (As := [.int (nI w)]) rfl rfl (Nat.le_of_ble_eq_true rfl) (lv := [(0, .ref (eA E 70)), (1, .int (nI w)), (2, .int (nI t)), (3, .int (nI n)), (4, .int (nI 0))]) hl ⟨Nat.le_refl 0, Nat.le_refl 0⟩ d_R_odds_2 (fun H locs hW => ?_)
  refine lv_if_eq (tgt := 36) X.x X.b d_R_odds_5 (by decide) (fun c5 => ?_) (fun c5 => ?_)
  · have c5 := b2i_e c5
    have c5 := mt (isW_i hwf (by omega)).mpr c5
    omega
  · have c5 := b2i_n c5
    have c5 := (isW_i hwf (by omega)).mp c5
    refine lv_aload_n X.x X.b d_R_odds_8 rfl (lv_at hl 0 rfl) ?_
    refine lv_iload_n X.x X.b d_R_odds_9 rfl (lv_at hl 2 rfl) ?_
    refine q_cvi X (c_R_isThing l E S ν (by rw [hν]) hwf (nI t)) hW (q_recv X hW ds_R rfl) ok_R_isThing mw_809 ⟨by decide, by decide⟩ (As := [.int (nI t)]) rfl rfl (Nat.le_of_ble_eq_true rfl) (lv := [(0, .ref (eA E 70)), (1, .int (nI w)), (2, .int (nI t)), (3, .int (nI n)), (4, .int (nI 0))]) hl ⟨Nat.le_refl 0, Nat.le_refl 0⟩ d_R_odds_10 (fun H locs hW => ?_)
    refine lv_if_eq (tgt := 36) X.x X.b d_R_odds_13 (by decide) (fun c13 => ?_) (fun c13 => ?_)
    · have c13 := b2i_e c13
      have c13 := mt (isT_i hwf (by omega)).mpr c13
      omega
    · have c13 := b2i_n c13
      have c13 := (isT_i hwf (by omega)).mp c13
      refine lv_iload_n X.x X.b d_R_odds_16 rfl (lv_at hl 3 rfl) ?_
      refine lv_iconst (v := nI 0) X.x X.b d_R_odds_17 (by decide) ?_
      refine lv_bipush (v := nI 15) X.x X.b d_R_odds_18 (by decide) ?_
      refine q_csi X (c_R_within l E S (nI n) (nI 0) (nI 15)) hW ok_R_within mw_757 ⟨by decide, by decide⟩ (As := [.int (nI n), .int (nI 0), .int (nI 15)]) rfl rfl (Nat.le_of_ble_eq_true rfl) (lv := [(0, .ref (eA E 70)), (1, .int (nI w)), (2, .int (nI t)), (3, .int (nI n)), (4, .int (nI 0))]) hl ⟨Nat.le_refl 0, Nat.le_refl 0⟩ d_R_odds_20 (fun H locs hW => ?_)
      refine lv_if_eq (tgt := 36) X.x X.b d_R_odds_23 (by decide) (fun c23 => ?_) (fun c23 => ?_)
      · have c23 := b2i_e c23
        have c23 := mt (inR_i (by omega) (by decide)).mpr c23
        omega
      · have c23 := b2i_n c23
        have c23 := (inR_i (by omega) (by decide)).mp c23
        refine lv_iload X.x X.b d_R_odds_26 (lv_at hl 4 rfl) ?_
        refine lv_iconst (v := nI 0) X.x X.b d_R_odds_28 (by decide) ?_
        refine lv_iconst (v := nI 1) X.x X.b d_R_odds_29 (by decide) ?_
        refine q_csi X (c_R_within l E S (nI 0) (nI 0) (nI 1)) hW ok_R_within mw_757 ⟨by decide, by decide⟩ (As := [.int (nI 0), .int (nI 0), .int (nI 1)]) rfl rfl (Nat.le_of_ble_eq_true rfl) (lv := [(0, .ref (eA E 70)), (1, .int (nI w)), (2, .int (nI t)), (3, .int (nI n)), (4, .int (nI 0))]) hl ⟨Nat.le_refl 0, Nat.le_refl 0⟩ d_R_odds_30 (fun H locs hW => ?_)
        refine lv_if_ne (tgt := 44) X.x X.b d_R_odds_33 (by decide) (fun c33 => ?_) (fun c33 => ?_)
        · have c33 := b2i_n c33
          have c33 := (inR_i (by omega) (by decide)).mp c33
          refine lv_iload_n X.x X.b d_R_odds_44 rfl (lv_at hl 1 rfl) ?_
          refine lv_iconst (v := nI 0) X.x X.b d_R_odds_45 (by decide) ?_
          refine q_csi X (c_R_walkerAt_z l E S w) hW ok_R_walkerAt mw_802 ⟨by decide, by decide⟩ (As := [.int (nI w), .int (nI 0)]) rfl rfl (Nat.le_of_ble_eq_true rfl) (lv := [(0, .ref (eA E 70)), (1, .int (nI w)), (2, .int (nI t)), (3, .int (nI n)), (4, .int (nI 0))]) hl ⟨Nat.le_refl 0, Nat.le_refl 0⟩ d_R_odds_46 (fun H locs hW => ?_)
          refine lv_istore (lv' := [(5, .int (nI (44 + 6 * w))), (0, .ref (eA E 70)), (1, .int (nI w)), (2, .int (nI t)), (3, .int (nI n)), (4, .int (nI 0))]) X.x X.b d_R_odds_49 hl (by decide) rfl (fun ls hl => ?_)
          refine lv_aload_n X.x X.b d_R_odds_51 rfl (lv_at hl 1 rfl) ?_
          refine q_getr X hW qj4 rfl _ ds_R 0 (by decide) mw_686 rfl (c1 := 71) rfl d_R_odds_52 ?_
          refine lv_iload X.x X.b d_R_odds_55 (lv_at hl 0 rfl) ?_
          refine g_ald X hW ds_71 (q_in (by omega) (by decide)) (p0 := 44 + 6 * w) (q_tn (by omega) (by omega)) (v := ν (44 + 6 * w)) (by rw [hν]) d_R_odds_57 ?_
          refine lv_istore (lv' := [(6, .int (ν (44 + 6 * w))), (5, .int (nI (44 + 6 * w))), (0, .ref (eA E 70)), (1, .int (nI w)), (2, .int (nI t)), (3, .int (nI n)), (4, .int (nI 0))]) X.x X.b d_R_odds_58 hl (by decide) rfl (fun ls hl => ?_)
          refine lv_iconst (v := nI 0) X.x X.b d_R_odds_60 (by decide) ?_
          refine lv_istore (lv' := [(7, .int (nI 0)), (6, .int (ν (44 + 6 * w))), (5, .int (nI (44 + 6 * w))), (0, .ref (eA E 70)), (1, .int (nI w)), (2, .int (nI t)), (3, .int (nI n)), (4, .int (nI 0))]) X.x X.b d_R_odds_61 hl (by decide) rfl (fun ls hl => ?_)
          refine lv_iconst (v := nI 0) X.x X.b d_R_odds_63 (by decide) ?_
          refine lv_istore (lv' := [(8, .int (nI 0)), (7, .int (nI 0)), (6, .int (ν (44 + 6 * w))), (5, .int (nI (44 + 6 * w))), (0, .ref (eA E 70)), (1, .int (nI w)), (2, .int (nI t)), (3, .int (nI n)), (4, .int (nI 0))]) X.x X.b d_R_odds_64 hl (by decide) rfl (fun ls hl => ?_)
          have hW : qWH E (qr S 16 ν) s H locs := by rw [← hν, qr_self]; exact hW
          have loop66 : ∀ (fu66 : Nat) (j : Nat) (q : Nat) (μ : Nat → Int32), j ≤ 16 → q = cntS ν w t j → (∀ v, eq80 (upd μ (44 + 6 * w) v) (upd ν (44 + 6 * w) v)) → 16 - j < fu66 → ∀ (H : Heap) (locs : List Loc) (ls : Array Slot), qWH E (qr S 16 μ) s H locs → lv_has ls 13 [(8, .int (nI j)), (7, .int (nI q)), (6, .int (ν (44 + 6 * w))), (5, .int (nI (44 + 6 * w))), (0, .ref (eA E 70)), (1, .int (nI w)), (2, .int (nI t)), (3, .int (nI n)), (4, .int (nI 0))] → W p l e (qRm 6) s m ([.ref (eA E 70), .int (nI w), .int (nI t), .int (nI n), .int (nI 0)] : List Value).toArray below meth c H locs 0 0 (MQ below (qQpl E (pwS (nI (redF (cntS ν w t 16) 16).1).toInt64 n) (any S 16 (fun τ => eq80 τ ν)) s.heap.size) ([.ref (eA E 70), .int (nI w), .int (nI t), .int (nI n), .int (nI 0)] : List Value).toArray s 0 0 (qAA E s.heap.size)) (F0 m 66 ls []) := by
            intro fu66
            induction fu66 with
            | zero =>
              intro j q μ hj hq hμ hfu
              exact absurd hfu (Nat.not_lt_zero _)
            | succ fu66 ih66 =>
              intro j q μ hj hq hμ hfu H locs ls hW hl
              have hql := cntS_le (ρ := ν) (w := w) (t := t) j
              refine lv_iload X.x X.b d_R_odds_66 (lv_at hl 0 rfl) ?_
              refine lv_bipush (v := nI 16) X.x X.b d_R_odds_68 (by decide) ?_
              refine lv_icmp_ge (tgt := 107) X.x X.b d_R_odds_70 (by decide) (fun c70 => ?_) (fun c70 => ?_)
              · have c70 : 16 ≤ j := (nI_leI (a := 16) (b := j) (by omega) (by omega)).mp c70
                refine lv_aload_n X.x X.b d_R_odds_107 rfl (lv_at hl 4 rfl) ?_
                refine q_getr X hW qj4 rfl _ ds_R 0 (by decide) mw_686 rfl (c1 := 71) rfl d_R_odds_108 ?_
                refine lv_iload X.x X.b d_R_odds_111 (lv_at hl 3 rfl) ?_
                refine lv_iload X.x X.b d_R_odds_113 (lv_at hl 2 rfl) ?_
                refine g_ast X hW ds_71 (q_in (by omega) (by decide)) (p0 := 44 + 6 * w) (q_tn (by omega) (by omega)) (ρ := μ) (by rw [qr_at]) d_R_odds_115 (fun H locs hW => ?_)
                obtain ⟨r115, er115⟩ : ∃ z, z = upd μ (44 + 6 * w) (ν (44 + 6 * w)) := ⟨_, rfl⟩
                rw [← er115] at hW
                rw [qr_qr] at hW
                refine lv_bipush (v := nI 16) X.x X.b d_R_odds_116 (by decide) ?_
                refine lv_istore (lv' := [(8, .int (nI 16)), (7, .int (nI q)), (6, .int (ν (44 + 6 * w))), (5, .int (nI (44 + 6 * w))), (0, .ref (eA E 70)), (1, .int (nI w)), (2, .int (nI t)), (3, .int (nI n)), (4, .int (nI 0))]) X.x X.b d_R_odds_118 hl (by decide) rfl (fun ls hl => ?_)
                refine lv_iload X.x X.b d_R_odds_120 (lv_at hl 1 rfl) ?_
                refine lv_istore (lv' := [(9, .int (nI q)), (8, .int (nI 16)), (7, .int (nI q)), (6, .int (ν (44 + 6 * w))), (5, .int (nI (44 + 6 * w))), (0, .ref (eA E 70)), (1, .int (nI w)), (2, .int (nI t)), (3, .int (nI n)), (4, .int (nI 0))]) X.x X.b d_R_odds_122 hl (by decide) rfl (fun ls hl => ?_)
                have loop124 : ∀ (fu124 : Nat) (a : Nat) (b : Nat), a ≤ 16 → b ≤ 16 → 1 ≤ a + b → Nat.gcd b a = Nat.gcd q 16 → b < fu124 → ∀ (H : Heap) (locs : List Loc) (ls : Array Slot), qWH E (qr S 16 r115) s H locs → lv_has ls 13 [(9, .int (nI b)), (8, .int (nI a)), (7, .int (nI q)), (6, .int (ν (44 + 6 * w))), (5, .int (nI (44 + 6 * w))), (0, .ref (eA E 70)), (1, .int (nI w)), (2, .int (nI t)), (3, .int (nI n)), (4, .int (nI 0))] → W p l e (qRm 6) s m ([.ref (eA E 70), .int (nI w), .int (nI t), .int (nI n), .int (nI 0)] : List Value).toArray below meth c H locs 0 0 (MQ below (qQpl E (pwS (nI (redF (cntS ν w t 16) 16).1).toInt64 n) (any S 16 (fun τ => eq80 τ ν)) s.heap.size) ([.ref (eA E 70), .int (nI w), .int (nI t), .int (nI n), .int (nI 0)] : List Value).toArray s 0 0 (qAA E s.heap.size)) (F0 m 124 ls []) := by
                  intro fu124
                  induction fu124 with
                  | zero =>
                    intro a b ha hb hab hg hfu
                    exact absurd hfu (Nat.not_lt_zero _)
                  | succ fu124 ih124 =>
                    intro a b ha hb hab hg hfu H locs ls hW hl
                    refine lv_iload X.x X.b d_R_odds_124 (lv_at hl 0 rfl) ?_
                    refine lv_if_eq (tgt := 147) X.x X.b d_R_odds_126 (by decide) (fun c126 => ?_) (fun c126 => ?_)
                    · have c126 : b = 0 := (nI_eq (a := b) (b := 0) (by omega) (by omega)).mp c126
                      have hb0 : b = 0 := by omega
                      have hga : a = Nat.gcd q 16 := by rw [← hg, hb0, Nat.gcd_zero_left]
                      have ha1 : 1 ≤ a := by omega
                      have hq16 : q = cntS ν w t 16 := by rw [hq, show j = 16 by omega]
                      refine lv_lconst (v := 1) X.x X.b d_R_odds_147 (by decide) ?_
                      refine lv_lstore (lv' := [(10, .long 1), (9, .int (nI b)), (8, .int (nI a)), (7, .int (nI q)), (6, .int (ν (44 + 6 * w))), (5, .int (nI (44 + 6 * w))), (0, .ref (eA E 70)), (1, .int (nI w)), (2, .int (nI t)), (3, .int (nI n)), (4, .int (nI 0))]) X.x X.b d_R_odds_148 hl (by decide) rfl (fun ls hl => ?_)
                      refine lv_iconst (v := nI 0) X.x X.b d_R_odds_150 (by decide) ?_
                      refine lv_istore (lv' := [(12, .int (nI 0)), (10, .long 1), (9, .int (nI b)), (8, .int (nI a)), (7, .int (nI q)), (6, .int (ν (44 + 6 * w))), (5, .int (nI (44 + 6 * w))), (0, .ref (eA E 70)), (1, .int (nI w)), (2, .int (nI t)), (3, .int (nI n)), (4, .int (nI 0))]) X.x X.b d_R_odds_151 hl (by decide) rfl (fun ls hl => ?_)
                      have loop153 : ∀ (fu153 : Nat) (k : Nat) (z : Int64), k ≤ n → z = fo (fun _ x => x * (nI (q / a)).toInt64) k 1 → n - k < fu153 → ∀ (H : Heap) (locs : List Loc) (ls : Array Slot), qWH E (qr S 16 r115) s H locs → lv_has ls 13 [(12, .int (nI k)), (10, .long z), (9, .int (nI b)), (8, .int (nI a)), (7, .int (nI q)), (6, .int (ν (44 + 6 * w))), (5, .int (nI (44 + 6 * w))), (0, .ref (eA E 70)), (1, .int (nI w)), (2, .int (nI t)), (3, .int (nI n)), (4, .int (nI 0))] → W p l e (qRm 6) s m ([.ref (eA E 70), .int (nI w), .int (nI t), .int (nI n), .int (nI 0)] : List Value).toArray below meth c H locs 0 0 (MQ below (qQpl E (pwS (nI (redF (cntS ν w t 16) 16).1).toInt64 n) (any S 16 (fun τ => eq80 τ ν)) s.heap.size) ([.ref (eA E 70), .int (nI w), .int (nI t), .int (nI n), .int (nI 0)] : List Value).toArray s 0 0 (qAA E s.heap.size)) (F0 m 153 ls []) := by
                        intro fu153
                        induction fu153 with
                        | zero =>
                          intro k z hk hz hfu
                          exact absurd hfu (Nat.not_lt_zero _)
                        | succ fu153 ih153 =>
                          intro k z hk hz hfu H locs ls hW hl
                          refine lv_iload X.x X.b d_R_odds_153 (lv_at hl 0 rfl) ?_
                          refine lv_iload_n X.x X.b d_R_odds_155 rfl (lv_at hl 10 rfl) ?_
                          refine lv_icmp_ge (tgt := 186) X.x X.b d_R_odds_156 (by decide) (fun c156 => ?_) (fun c156 => ?_)
                          · have c156 : n ≤ k := (nI_leI (a := n) (b := k) (by omega) (by omega)).mp c156
                            refine lv_lload X.x X.b d_R_odds_186 (lv_at hl 1 rfl) ?_
                            exact q_plret X hW ⟨by rw [hz, show k = n by omega, ← hq16, red_gcd (by omega), hga]; rfl, ⟨_, by rw [er115]; have h := hμ (ν (44 + 6 * w)); rw [upd_self] at h; exact h, rfl⟩⟩ d_R_odds_188
                          · have c156 : ¬ n ≤ k := fun z => c156 ((nI_leI (a := n) (b := k) (by omega) (by omega)).mpr z)
                            refine lv_lload X.x X.b d_R_odds_159 (lv_at hl 1 rfl) ?_
                            refine lv_iload X.x X.b d_R_odds_161 (lv_at hl 11 rfl) ?_
                            refine lv_if_ne (tgt := 171) X.x X.b d_R_odds_163 (by decide) (fun c163 => ?_) (fun c163 => ?_)
                            · exact absurd (by decide) c163
                            · have c163 : 0 = 0 := (nI_eq (a := 0) (b := 0) (by omega) (by omega)).mp c163
                              refine lv_iload X.x X.b d_R_odds_166 (lv_at hl 4 rfl) ?_
                              refine lv_goto (tgt := 173) X.x X.b d_R_odds_168 (by decide) ?_
                              refine lv_iload X.x X.b d_R_odds_173 (lv_at hl 3 rfl) ?_
                              refine lv_idiv X.x X.b d_R_odds_175 (fun z => by have z2 := (nI_eq (a := a) (b := 0) (by omega) (by omega)).mp z; omega) ?_
                              rw [pk_div (by omega) (by omega) (by omega)]
                              refine lv_i2l (v := (nI (q / a)).toInt64) X.x X.b d_R_odds_176 rfl ?_
                              refine lv_lmul X.x X.b d_R_odds_177 ?_
                              refine lv_lstore (lv' := [(10, .long (z * ((nI (q / a)).toInt64))), (12, .int (nI k)), (9, .int (nI b)), (8, .int (nI a)), (7, .int (nI q)), (6, .int (ν (44 + 6 * w))), (5, .int (nI (44 + 6 * w))), (0, .ref (eA E 70)), (1, .int (nI w)), (2, .int (nI t)), (3, .int (nI n)), (4, .int (nI 0))]) X.x X.b d_R_odds_178 hl (by decide) rfl (fun ls hl => ?_)
                              refine lv_iinc (v := nI (k + 1)) (lv' := [(12, .int (nI (k + 1))), (10, .long (z * ((nI (q / a)).toInt64))), (9, .int (nI b)), (8, .int (nI a)), (7, .int (nI q)), (6, .int (ν (44 + 6 * w))), (5, .int (nI (44 + 6 * w))), (0, .ref (eA E 70)), (1, .int (nI w)), (2, .int (nI t)), (3, .int (nI n)), (4, .int (nI 0))]) X.x X.b d_R_odds_180 hl (k := 1) rfl (by rw [show Int32.ofInt 1 = nI 1 from by decide, nI_add]) (by decide) rfl (fun ls hl => ?_)
                              refine lv_goto (tgt := 153) X.x X.b d_R_odds_183 (by decide) ?_
                              exact ih153 (k + 1) (z * ((nI (q / a)).toInt64)) (by omega) (by rw [fo_succ, ← hz]) (by omega) _ _ _ hW (lv_sub hl [0, 1, 2, 3, 4, 5, 6, 7, 8, 9, 10, 11] rfl)
                      exact loop153 (n - 0 + 1) 0 1 (by omega) rfl (Nat.lt_succ_self _) _ _ _ hW (lv_sub hl [0, 1, 2, 3, 4, 5, 6, 7, 8, 9, 10, 11] rfl)
                    · have c126 : ¬ b = 0 := fun z => c126 ((nI_eq (a := b) (b := 0) (by omega) (by omega)).mpr z)
                      refine lv_iload X.x X.b d_R_odds_129 (lv_at hl 1 rfl) ?_
                      refine lv_iload X.x X.b d_R_odds_131 (lv_at hl 0 rfl) ?_
                      refine lv_irem X.x X.b d_R_odds_133 (fun z => by have z2 := (nI_eq (a := b) (b := 0) (by omega) (by omega)).mp z; omega) ?_
                      rw [pk_rem (by omega) (by omega) (by omega)]
                      refine lv_istore (lv' := [(10, .int (nI (a % b))), (9, .int (nI b)), (8, .int (nI a)), (7, .int (nI q)), (6, .int (ν (44 + 6 * w))), (5, .int (nI (44 + 6 * w))), (0, .ref (eA E 70)), (1, .int (nI w)), (2, .int (nI t)), (3, .int (nI n)), (4, .int (nI 0))]) X.x X.b d_R_odds_134 hl (by decide) rfl (fun ls hl => ?_)
                      refine lv_iload X.x X.b d_R_odds_136 (lv_at hl 1 rfl) ?_
                      refine lv_istore (lv' := [(8, .int (nI b)), (10, .int (nI (a % b))), (9, .int (nI b)), (7, .int (nI q)), (6, .int (ν (44 + 6 * w))), (5, .int (nI (44 + 6 * w))), (0, .ref (eA E 70)), (1, .int (nI w)), (2, .int (nI t)), (3, .int (nI n)), (4, .int (nI 0))]) X.x X.b d_R_odds_138 hl (by decide) rfl (fun ls hl => ?_)
                      refine lv_iload X.x X.b d_R_odds_140 (lv_at hl 1 rfl) ?_
                      refine lv_istore (lv' := [(9, .int (nI (a % b))), (8, .int (nI b)), (10, .int (nI (a % b))), (7, .int (nI q)), (6, .int (ν (44 + 6 * w))), (5, .int (nI (44 + 6 * w))), (0, .ref (eA E 70)), (1, .int (nI w)), (2, .int (nI t)), (3, .int (nI n)), (4, .int (nI 0))]) X.x X.b d_R_odds_142 hl (by decide) rfl (fun ls hl => ?_)
                      refine lv_goto (tgt := 124) X.x X.b d_R_odds_144 (by decide) ?_
                      exact ih124 b (a % b) (by omega) (by have := Nat.mod_lt a (show 0 < b by omega); omega) (by omega) (by rw [← hg]; exact gcd_st) (by have := Nat.mod_lt a (show 0 < b by omega); omega) _ _ _ hW (lv_sub hl [0, 1, 3, 4, 5, 6, 7, 8, 9, 10] rfl)
                exact loop124 (q + 1) 16 q (by omega) (by omega) (by omega) rfl (Nat.lt_succ_self _) _ _ _ hW (lv_sub hl [0, 1, 2, 3, 4, 5, 6, 7, 8, 9] rfl)
              · have c70 : ¬ 16 ≤ j := fun z => c70 ((nI_leI (a := 16) (b := j) (by omega) (by omega)).mpr z)
                refine lv_aload_n X.x X.b d_R_odds_73 rfl (lv_at hl 4 rfl) ?_
                refine q_getr X hW qj4 rfl _ ds_R 0 (by decide) mw_686 rfl (c1 := 71) rfl d_R_odds_74 ?_
                refine lv_iload X.x X.b d_R_odds_77 (lv_at hl 3 rfl) ?_
                refine lv_iload X.x X.b d_R_odds_79 (lv_at hl 0 rfl) ?_
                refine g_ast X hW ds_71 (q_in (by omega) (by decide)) (p0 := 44 + 6 * w) (q_tn (by omega) (by omega)) (ρ := μ) (by rw [qr_at]) d_R_odds_81 (fun H locs hW => ?_)
                obtain ⟨r81, er81⟩ : ∃ z, z = upd μ (44 + 6 * w) (nI j) := ⟨_, rfl⟩
                rw [← er81] at hW
                rw [qr_qr] at hW
                have hu81 : WF (upd ν (44 + 6 * w) (nI j)) := WF_wc hwf (by omega) (by omega)
                have he81 : eqv r81 (upd ν (44 + 6 * w) (nI j)) := by rw [er81]; exact (hμ (nI j)).eqv hu81
                have hn81 : nW r81 = nW ν ∧ nT r81 = nT ν := ⟨by rw [he81.nW, nW_up (by omega)], by rw [he81.nT, nT_up (by omega)]⟩
                refine lv_iload X.x X.b d_R_odds_82 (lv_at hl 1 rfl) ?_
                refine lv_aload_n X.x X.b d_R_odds_84 rfl (lv_at hl 4 rfl) ?_
                refine lv_iload_n X.x X.b d_R_odds_85 rfl (lv_at hl 5 rfl) ?_
                refine lv_iload_n X.x X.b d_R_odds_86 rfl (lv_at hl 6 rfl) ?_
                refine q_cvi X (c_R_doesSee l E (qr S 16 r81) r81 (by rw [qr_at]) w t (by omega) (by omega)) hW (q_recv X hW ds_R rfl) ok_R_doesSee mw_866 ⟨by decide, by decide⟩ (As := [.int (nI w), .int (nI t)]) rfl rfl (Nat.le_of_ble_eq_true rfl) (lv := [(8, .int (nI j)), (7, .int (nI q)), (6, .int (ν (44 + 6 * w))), (5, .int (nI (44 + 6 * w))), (0, .ref (eA E 70)), (1, .int (nI w)), (2, .int (nI t)), (3, .int (nI n)), (4, .int (nI 0))]) hl ⟨Nat.le_refl 0, Nat.le_refl 0⟩ d_R_odds_87 (fun H locs hW => ?_)
                rw [show b2i (see r81 w t) = b2i (see (upd ν (44 + 6 * w) (nI j)) w t) from b2i_c (see_e he81 (by omega) (by omega))]
                refine lv_if_eq (tgt := 97) X.x X.b d_R_odds_90 (by decide) (fun c90 => ?_) (fun c90 => ?_)
                · have c90 := b2i_e c90
                  refine lv_iconst (v := nI 0) X.x X.b d_R_odds_97 (by decide) ?_
                  refine lv_iadd X.x X.b d_R_odds_98 ?_
                  rw [nI_add]
                  refine lv_istore (lv' := [(7, .int (nI (q + 0))), (8, .int (nI j)), (6, .int (ν (44 + 6 * w))), (5, .int (nI (44 + 6 * w))), (0, .ref (eA E 70)), (1, .int (nI w)), (2, .int (nI t)), (3, .int (nI n)), (4, .int (nI 0))]) X.x X.b d_R_odds_99 hl (by decide) rfl (fun ls hl => ?_)
                  refine lv_iinc (v := nI (j + 1)) (lv' := [(8, .int (nI (j + 1))), (7, .int (nI (q + 0))), (6, .int (ν (44 + 6 * w))), (5, .int (nI (44 + 6 * w))), (0, .ref (eA E 70)), (1, .int (nI w)), (2, .int (nI t)), (3, .int (nI n)), (4, .int (nI 0))]) X.x X.b d_R_odds_101 hl (k := 1) rfl (by rw [show Int32.ofInt 1 = nI 1 from by decide, nI_add]) (by decide) rfl (fun ls hl => ?_)
                  refine lv_goto (tgt := 66) X.x X.b d_R_odds_104 (by decide) ?_
                  exact ih66 (j + 1) (q + 0) r81 (by omega) (by show _ = (if see (upd ν (44 + 6 * w) (nI j)) w t then cntS ν w t j + 1 else cntS ν w t j); rw [← hq]; first | exact (if_pos c90).symm | exact (if_neg c90).symm) (fun v => by rw [er81, upd_upd]; exact hμ v) (by omega) _ _ _ hW (lv_sub hl [0, 1, 2, 3, 4, 5, 6, 7, 8] rfl)
                · have c90 := b2i_n c90
                  refine lv_iconst (v := nI 1) X.x X.b d_R_odds_93 (by decide) ?_
                  refine lv_goto (tgt := 98) X.x X.b d_R_odds_94 (by decide) ?_
                  refine lv_iadd X.x X.b d_R_odds_98 ?_
                  rw [nI_add]
                  refine lv_istore (lv' := [(7, .int (nI (q + 1))), (8, .int (nI j)), (6, .int (ν (44 + 6 * w))), (5, .int (nI (44 + 6 * w))), (0, .ref (eA E 70)), (1, .int (nI w)), (2, .int (nI t)), (3, .int (nI n)), (4, .int (nI 0))]) X.x X.b d_R_odds_99 hl (by decide) rfl (fun ls hl => ?_)
                  refine lv_iinc (v := nI (j + 1)) (lv' := [(8, .int (nI (j + 1))), (7, .int (nI (q + 1))), (6, .int (ν (44 + 6 * w))), (5, .int (nI (44 + 6 * w))), (0, .ref (eA E 70)), (1, .int (nI w)), (2, .int (nI t)), (3, .int (nI n)), (4, .int (nI 0))]) X.x X.b d_R_odds_101 hl (k := 1) rfl (by rw [show Int32.ofInt 1 = nI 1 from by decide, nI_add]) (by decide) rfl (fun ls hl => ?_)
                  refine lv_goto (tgt := 66) X.x X.b d_R_odds_104 (by decide) ?_
                  exact ih66 (j + 1) (q + 1) r81 (by omega) (by show _ = (if see (upd ν (44 + 6 * w) (nI j)) w t then cntS ν w t j + 1 else cntS ν w t j); rw [← hq]; first | exact (if_pos c90).symm | exact (if_neg c90).symm) (fun v => by rw [er81, upd_upd]; exact hμ v) (by omega) _ _ _ hW (lv_sub hl [0, 1, 2, 3, 4, 5, 6, 7, 8] rfl)
          exact loop66 (16 - 0 + 1) 0 0 ν (by omega) rfl (fun _ => eq80.rf) (Nat.lt_succ_self _) _ _ _ hW (lv_sub hl [0, 1, 2, 3, 4, 5, 6, 7, 8] rfl)
        · have c33 := b2i_e c33
          have c33 := mt (inR_i (by omega) (by decide)).mpr c33
          omega
set_option maxHeartbeats 1000000 in
set_option maxRecDepth 20000 in
theorem c_R_odds_1 (l : Launch) (E : QE) (S : QM) (ν : Nat → Int32) (hν : S 16 = ν) (hwf : WF ν) (w t n : Nat) (hw : w < nW ν) (ht : t < nT ν) (hn : n ≤ 15) : qCPl E l y_R_odds prog_7_method_79_code 13 6 [.ref (eA E 70), .int (nI w), .int (nI t), .int (nI n), .int (nI 1)] S (pwS (nI (redF (cntS ν w t 16) 16).2).toInt64 n) (any S 16 (fun τ => eq80 τ ν)) := by
  refine qCPl_of (by decide) (Nat.le_of_ble_eq_true rfl) (fun p e s m below meth c ls X hW hl => ?_)
  have hl : lv_has ls 13 [(0, .ref (eA E 70)), (1, .int (nI w)), (2, .int (nI t)), (3, .int (nI n)), (4, .int (nI 1))] := hl
  have htl := hwf.tl
  have hwl := hwf.wl
  have hdl := hwf.dl
  refine lv_aload_n X.x X.b d_R_odds_0 rfl (lv_at hl 0 rfl) ?_
  refine lv_iload_n X.x X.b d_R_odds_1 rfl (lv_at hl 1 rfl) ?_
  refine q_cvi X (c_R_isWalker l E S ν (by rw [hν]) hwf (nI w)) hW (q_recv X hW ds_R rfl) ok_R_isWalker mw_841 ⟨by decide, by decide⟩ (As := [.int (nI w)]) rfl rfl (Nat.le_of_ble_eq_true rfl) (lv := [(0, .ref (eA E 70)), (1, .int (nI w)), (2, .int (nI t)), (3, .int (nI n)), (4, .int (nI 1))]) hl ⟨Nat.le_refl 0, Nat.le_refl 0⟩ d_R_odds_2 (fun H locs hW => ?_)
  refine lv_if_eq (tgt := 36) X.x X.b d_R_odds_5 (by decide) (fun c5 => ?_) (fun c5 => ?_)
  · have c5 := b2i_e c5
    have c5 := mt (isW_i hwf (by omega)).mpr c5
    omega
  · have c5 := b2i_n c5
    have c5 := (isW_i hwf (by omega)).mp c5
    refine lv_aload_n X.x X.b d_R_odds_8 rfl (lv_at hl 0 rfl) ?_
    refine lv_iload_n X.x X.b d_R_odds_9 rfl (lv_at hl 2 rfl) ?_
    refine q_cvi X (c_R_isThing l E S ν (by rw [hν]) hwf (nI t)) hW (q_recv X hW ds_R rfl) ok_R_isThing mw_809 ⟨by decide, by decide⟩ (As := [.int (nI t)]) rfl rfl (Nat.le_of_ble_eq_true rfl) (lv := [(0, .ref (eA E 70)), (1, .int (nI w)), (2, .int (nI t)), (3, .int (nI n)), (4, .int (nI 1))]) hl ⟨Nat.le_refl 0, Nat.le_refl 0⟩ d_R_odds_10 (fun H locs hW => ?_)
    refine lv_if_eq (tgt := 36) X.x X.b d_R_odds_13 (by decide) (fun c13 => ?_) (fun c13 => ?_)
    · have c13 := b2i_e c13
      have c13 := mt (isT_i hwf (by omega)).mpr c13
      omega
    · have c13 := b2i_n c13
      have c13 := (isT_i hwf (by omega)).mp c13
      refine lv_iload_n X.x X.b d_R_odds_16 rfl (lv_at hl 3 rfl) ?_
      refine lv_iconst (v := nI 0) X.x X.b d_R_odds_17 (by decide) ?_
      refine lv_bipush (v := nI 15) X.x X.b d_R_odds_18 (by decide) ?_
      refine q_csi X (c_R_within l E S (nI n) (nI 0) (nI 15)) hW ok_R_within mw_757 ⟨by decide, by decide⟩ (As := [.int (nI n), .int (nI 0), .int (nI 15)]) rfl rfl (Nat.le_of_ble_eq_true rfl) (lv := [(0, .ref (eA E 70)), (1, .int (nI w)), (2, .int (nI t)), (3, .int (nI n)), (4, .int (nI 1))]) hl ⟨Nat.le_refl 0, Nat.le_refl 0⟩ d_R_odds_20 (fun H locs hW => ?_)
      refine lv_if_eq (tgt := 36) X.x X.b d_R_odds_23 (by decide) (fun c23 => ?_) (fun c23 => ?_)
      · have c23 := b2i_e c23
        have c23 := mt (inR_i (by omega) (by decide)).mpr c23
        omega
      · have c23 := b2i_n c23
        have c23 := (inR_i (by omega) (by decide)).mp c23
        refine lv_iload X.x X.b d_R_odds_26 (lv_at hl 4 rfl) ?_
        refine lv_iconst (v := nI 0) X.x X.b d_R_odds_28 (by decide) ?_
        refine lv_iconst (v := nI 1) X.x X.b d_R_odds_29 (by decide) ?_
        refine q_csi X (c_R_within l E S (nI 1) (nI 0) (nI 1)) hW ok_R_within mw_757 ⟨by decide, by decide⟩ (As := [.int (nI 1), .int (nI 0), .int (nI 1)]) rfl rfl (Nat.le_of_ble_eq_true rfl) (lv := [(0, .ref (eA E 70)), (1, .int (nI w)), (2, .int (nI t)), (3, .int (nI n)), (4, .int (nI 1))]) hl ⟨Nat.le_refl 0, Nat.le_refl 0⟩ d_R_odds_30 (fun H locs hW => ?_)
        refine lv_if_ne (tgt := 44) X.x X.b d_R_odds_33 (by decide) (fun c33 => ?_) (fun c33 => ?_)
        · have c33 := b2i_n c33
          have c33 := (inR_i (by omega) (by decide)).mp c33
          refine lv_iload_n X.x X.b d_R_odds_44 rfl (lv_at hl 1 rfl) ?_
          refine lv_iconst (v := nI 0) X.x X.b d_R_odds_45 (by decide) ?_
          refine q_csi X (c_R_walkerAt_z l E S w) hW ok_R_walkerAt mw_802 ⟨by decide, by decide⟩ (As := [.int (nI w), .int (nI 0)]) rfl rfl (Nat.le_of_ble_eq_true rfl) (lv := [(0, .ref (eA E 70)), (1, .int (nI w)), (2, .int (nI t)), (3, .int (nI n)), (4, .int (nI 1))]) hl ⟨Nat.le_refl 0, Nat.le_refl 0⟩ d_R_odds_46 (fun H locs hW => ?_)
          refine lv_istore (lv' := [(5, .int (nI (44 + 6 * w))), (0, .ref (eA E 70)), (1, .int (nI w)), (2, .int (nI t)), (3, .int (nI n)), (4, .int (nI 1))]) X.x X.b d_R_odds_49 hl (by decide) rfl (fun ls hl => ?_)
          refine lv_aload_n X.x X.b d_R_odds_51 rfl (lv_at hl 1 rfl) ?_
          refine q_getr X hW qj4 rfl _ ds_R 0 (by decide) mw_686 rfl (c1 := 71) rfl d_R_odds_52 ?_
          refine lv_iload X.x X.b d_R_odds_55 (lv_at hl 0 rfl) ?_
          refine g_ald X hW ds_71 (q_in (by omega) (by decide)) (p0 := 44 + 6 * w) (q_tn (by omega) (by omega)) (v := ν (44 + 6 * w)) (by rw [hν]) d_R_odds_57 ?_
          refine lv_istore (lv' := [(6, .int (ν (44 + 6 * w))), (5, .int (nI (44 + 6 * w))), (0, .ref (eA E 70)), (1, .int (nI w)), (2, .int (nI t)), (3, .int (nI n)), (4, .int (nI 1))]) X.x X.b d_R_odds_58 hl (by decide) rfl (fun ls hl => ?_)
          refine lv_iconst (v := nI 0) X.x X.b d_R_odds_60 (by decide) ?_
          refine lv_istore (lv' := [(7, .int (nI 0)), (6, .int (ν (44 + 6 * w))), (5, .int (nI (44 + 6 * w))), (0, .ref (eA E 70)), (1, .int (nI w)), (2, .int (nI t)), (3, .int (nI n)), (4, .int (nI 1))]) X.x X.b d_R_odds_61 hl (by decide) rfl (fun ls hl => ?_)
          refine lv_iconst (v := nI 0) X.x X.b d_R_odds_63 (by decide) ?_
          refine lv_istore (lv' := [(8, .int (nI 0)), (7, .int (nI 0)), (6, .int (ν (44 + 6 * w))), (5, .int (nI (44 + 6 * w))), (0, .ref (eA E 70)), (1, .int (nI w)), (2, .int (nI t)), (3, .int (nI n)), (4, .int (nI 1))]) X.x X.b d_R_odds_64 hl (by decide) rfl (fun ls hl => ?_)
          have hW : qWH E (qr S 16 ν) s H locs := by rw [← hν, qr_self]; exact hW
          have loop66 : ∀ (fu66 : Nat) (j : Nat) (q : Nat) (μ : Nat → Int32), j ≤ 16 → q = cntS ν w t j → (∀ v, eq80 (upd μ (44 + 6 * w) v) (upd ν (44 + 6 * w) v)) → 16 - j < fu66 → ∀ (H : Heap) (locs : List Loc) (ls : Array Slot), qWH E (qr S 16 μ) s H locs → lv_has ls 13 [(8, .int (nI j)), (7, .int (nI q)), (6, .int (ν (44 + 6 * w))), (5, .int (nI (44 + 6 * w))), (0, .ref (eA E 70)), (1, .int (nI w)), (2, .int (nI t)), (3, .int (nI n)), (4, .int (nI 1))] → W p l e (qRm 6) s m ([.ref (eA E 70), .int (nI w), .int (nI t), .int (nI n), .int (nI 1)] : List Value).toArray below meth c H locs 0 0 (MQ below (qQpl E (pwS (nI (redF (cntS ν w t 16) 16).2).toInt64 n) (any S 16 (fun τ => eq80 τ ν)) s.heap.size) ([.ref (eA E 70), .int (nI w), .int (nI t), .int (nI n), .int (nI 1)] : List Value).toArray s 0 0 (qAA E s.heap.size)) (F0 m 66 ls []) := by
            intro fu66
            induction fu66 with
            | zero =>
              intro j q μ hj hq hμ hfu
              exact absurd hfu (Nat.not_lt_zero _)
            | succ fu66 ih66 =>
              intro j q μ hj hq hμ hfu H locs ls hW hl
              have hql := cntS_le (ρ := ν) (w := w) (t := t) j
              refine lv_iload X.x X.b d_R_odds_66 (lv_at hl 0 rfl) ?_
              refine lv_bipush (v := nI 16) X.x X.b d_R_odds_68 (by decide) ?_
              refine lv_icmp_ge (tgt := 107) X.x X.b d_R_odds_70 (by decide) (fun c70 => ?_) (fun c70 => ?_)
              · have c70 : 16 ≤ j := (nI_leI (a := 16) (b := j) (by omega) (by omega)).mp c70
                refine lv_aload_n X.x X.b d_R_odds_107 rfl (lv_at hl 4 rfl) ?_
                refine q_getr X hW qj4 rfl _ ds_R 0 (by decide) mw_686 rfl (c1 := 71) rfl d_R_odds_108 ?_
                refine lv_iload X.x X.b d_R_odds_111 (lv_at hl 3 rfl) ?_
                refine lv_iload X.x X.b d_R_odds_113 (lv_at hl 2 rfl) ?_
                refine g_ast X hW ds_71 (q_in (by omega) (by decide)) (p0 := 44 + 6 * w) (q_tn (by omega) (by omega)) (ρ := μ) (by rw [qr_at]) d_R_odds_115 (fun H locs hW => ?_)
                obtain ⟨r115, er115⟩ : ∃ z, z = upd μ (44 + 6 * w) (ν (44 + 6 * w)) := ⟨_, rfl⟩
                rw [← er115] at hW
                rw [qr_qr] at hW
                refine lv_bipush (v := nI 16) X.x X.b d_R_odds_116 (by decide) ?_
                refine lv_istore (lv' := [(8, .int (nI 16)), (7, .int (nI q)), (6, .int (ν (44 + 6 * w))), (5, .int (nI (44 + 6 * w))), (0, .ref (eA E 70)), (1, .int (nI w)), (2, .int (nI t)), (3, .int (nI n)), (4, .int (nI 1))]) X.x X.b d_R_odds_118 hl (by decide) rfl (fun ls hl => ?_)
                refine lv_iload X.x X.b d_R_odds_120 (lv_at hl 1 rfl) ?_
                refine lv_istore (lv' := [(9, .int (nI q)), (8, .int (nI 16)), (7, .int (nI q)), (6, .int (ν (44 + 6 * w))), (5, .int (nI (44 + 6 * w))), (0, .ref (eA E 70)), (1, .int (nI w)), (2, .int (nI t)), (3, .int (nI n)), (4, .int (nI 1))]) X.x X.b d_R_odds_122 hl (by decide) rfl (fun ls hl => ?_)
                have loop124 : ∀ (fu124 : Nat) (a : Nat) (b : Nat), a ≤ 16 → b ≤ 16 → 1 ≤ a + b → Nat.gcd b a = Nat.gcd q 16 → b < fu124 → ∀ (H : Heap) (locs : List Loc) (ls : Array Slot), qWH E (qr S 16 r115) s H locs → lv_has ls 13 [(9, .int (nI b)), (8, .int (nI a)), (7, .int (nI q)), (6, .int (ν (44 + 6 * w))), (5, .int (nI (44 + 6 * w))), (0, .ref (eA E 70)), (1, .int (nI w)), (2, .int (nI t)), (3, .int (nI n)), (4, .int (nI 1))] → W p l e (qRm 6) s m ([.ref (eA E 70), .int (nI w), .int (nI t), .int (nI n), .int (nI 1)] : List Value).toArray below meth c H locs 0 0 (MQ below (qQpl E (pwS (nI (redF (cntS ν w t 16) 16).2).toInt64 n) (any S 16 (fun τ => eq80 τ ν)) s.heap.size) ([.ref (eA E 70), .int (nI w), .int (nI t), .int (nI n), .int (nI 1)] : List Value).toArray s 0 0 (qAA E s.heap.size)) (F0 m 124 ls []) := by
                  intro fu124
                  induction fu124 with
                  | zero =>
                    intro a b ha hb hab hg hfu
                    exact absurd hfu (Nat.not_lt_zero _)
                  | succ fu124 ih124 =>
                    intro a b ha hb hab hg hfu H locs ls hW hl
                    refine lv_iload X.x X.b d_R_odds_124 (lv_at hl 0 rfl) ?_
                    refine lv_if_eq (tgt := 147) X.x X.b d_R_odds_126 (by decide) (fun c126 => ?_) (fun c126 => ?_)
                    · have c126 : b = 0 := (nI_eq (a := b) (b := 0) (by omega) (by omega)).mp c126
                      have hb0 : b = 0 := by omega
                      have hga : a = Nat.gcd q 16 := by rw [← hg, hb0, Nat.gcd_zero_left]
                      have ha1 : 1 ≤ a := by omega
                      have hq16 : q = cntS ν w t 16 := by rw [hq, show j = 16 by omega]
                      refine lv_lconst (v := 1) X.x X.b d_R_odds_147 (by decide) ?_
                      refine lv_lstore (lv' := [(10, .long 1), (9, .int (nI b)), (8, .int (nI a)), (7, .int (nI q)), (6, .int (ν (44 + 6 * w))), (5, .int (nI (44 + 6 * w))), (0, .ref (eA E 70)), (1, .int (nI w)), (2, .int (nI t)), (3, .int (nI n)), (4, .int (nI 1))]) X.x X.b d_R_odds_148 hl (by decide) rfl (fun ls hl => ?_)
                      refine lv_iconst (v := nI 0) X.x X.b d_R_odds_150 (by decide) ?_
                      refine lv_istore (lv' := [(12, .int (nI 0)), (10, .long 1), (9, .int (nI b)), (8, .int (nI a)), (7, .int (nI q)), (6, .int (ν (44 + 6 * w))), (5, .int (nI (44 + 6 * w))), (0, .ref (eA E 70)), (1, .int (nI w)), (2, .int (nI t)), (3, .int (nI n)), (4, .int (nI 1))]) X.x X.b d_R_odds_151 hl (by decide) rfl (fun ls hl => ?_)
                      have loop153 : ∀ (fu153 : Nat) (k : Nat) (z : Int64), k ≤ n → z = fo (fun _ x => x * (nI (16 / a)).toInt64) k 1 → n - k < fu153 → ∀ (H : Heap) (locs : List Loc) (ls : Array Slot), qWH E (qr S 16 r115) s H locs → lv_has ls 13 [(12, .int (nI k)), (10, .long z), (9, .int (nI b)), (8, .int (nI a)), (7, .int (nI q)), (6, .int (ν (44 + 6 * w))), (5, .int (nI (44 + 6 * w))), (0, .ref (eA E 70)), (1, .int (nI w)), (2, .int (nI t)), (3, .int (nI n)), (4, .int (nI 1))] → W p l e (qRm 6) s m ([.ref (eA E 70), .int (nI w), .int (nI t), .int (nI n), .int (nI 1)] : List Value).toArray below meth c H locs 0 0 (MQ below (qQpl E (pwS (nI (redF (cntS ν w t 16) 16).2).toInt64 n) (any S 16 (fun τ => eq80 τ ν)) s.heap.size) ([.ref (eA E 70), .int (nI w), .int (nI t), .int (nI n), .int (nI 1)] : List Value).toArray s 0 0 (qAA E s.heap.size)) (F0 m 153 ls []) := by
                        intro fu153
                        induction fu153 with
                        | zero =>
                          intro k z hk hz hfu
                          exact absurd hfu (Nat.not_lt_zero _)
                        | succ fu153 ih153 =>
                          intro k z hk hz hfu H locs ls hW hl
                          refine lv_iload X.x X.b d_R_odds_153 (lv_at hl 0 rfl) ?_
                          refine lv_iload_n X.x X.b d_R_odds_155 rfl (lv_at hl 10 rfl) ?_
                          refine lv_icmp_ge (tgt := 186) X.x X.b d_R_odds_156 (by decide) (fun c156 => ?_) (fun c156 => ?_)
                          · have c156 : n ≤ k := (nI_leI (a := n) (b := k) (by omega) (by omega)).mp c156
                            refine lv_lload X.x X.b d_R_odds_186 (lv_at hl 1 rfl) ?_
                            exact q_plret X hW ⟨by rw [hz, show k = n by omega, ← hq16, red_gcd (by omega), hga]; rfl, ⟨_, by rw [er115]; have h := hμ (ν (44 + 6 * w)); rw [upd_self] at h; exact h, rfl⟩⟩ d_R_odds_188
                          · have c156 : ¬ n ≤ k := fun z => c156 ((nI_leI (a := n) (b := k) (by omega) (by omega)).mpr z)
                            refine lv_lload X.x X.b d_R_odds_159 (lv_at hl 1 rfl) ?_
                            refine lv_iload X.x X.b d_R_odds_161 (lv_at hl 11 rfl) ?_
                            refine lv_if_ne (tgt := 171) X.x X.b d_R_odds_163 (by decide) (fun c163 => ?_) (fun c163 => ?_)
                            · have c163 : ¬ 1 = 0 := fun z => c163 ((nI_eq (a := 1) (b := 0) (by omega) (by omega)).mpr z)
                              refine lv_bipush (v := nI 16) X.x X.b d_R_odds_171 (by decide) ?_
                              refine lv_iload X.x X.b d_R_odds_173 (lv_at hl 3 rfl) ?_
                              refine lv_idiv X.x X.b d_R_odds_175 (fun z => by have z2 := (nI_eq (a := a) (b := 0) (by omega) (by omega)).mp z; omega) ?_
                              rw [pk_div (by omega) (by omega) (by omega)]
                              refine lv_i2l (v := (nI (16 / a)).toInt64) X.x X.b d_R_odds_176 rfl ?_
                              refine lv_lmul X.x X.b d_R_odds_177 ?_
                              refine lv_lstore (lv' := [(10, .long (z * ((nI (16 / a)).toInt64))), (12, .int (nI k)), (9, .int (nI b)), (8, .int (nI a)), (7, .int (nI q)), (6, .int (ν (44 + 6 * w))), (5, .int (nI (44 + 6 * w))), (0, .ref (eA E 70)), (1, .int (nI w)), (2, .int (nI t)), (3, .int (nI n)), (4, .int (nI 1))]) X.x X.b d_R_odds_178 hl (by decide) rfl (fun ls hl => ?_)
                              refine lv_iinc (v := nI (k + 1)) (lv' := [(12, .int (nI (k + 1))), (10, .long (z * ((nI (16 / a)).toInt64))), (9, .int (nI b)), (8, .int (nI a)), (7, .int (nI q)), (6, .int (ν (44 + 6 * w))), (5, .int (nI (44 + 6 * w))), (0, .ref (eA E 70)), (1, .int (nI w)), (2, .int (nI t)), (3, .int (nI n)), (4, .int (nI 1))]) X.x X.b d_R_odds_180 hl (k := 1) rfl (by rw [show Int32.ofInt 1 = nI 1 from by decide, nI_add]) (by decide) rfl (fun ls hl => ?_)
                              refine lv_goto (tgt := 153) X.x X.b d_R_odds_183 (by decide) ?_
                              exact ih153 (k + 1) (z * ((nI (16 / a)).toInt64)) (by omega) (by rw [fo_succ, ← hz]) (by omega) _ _ _ hW (lv_sub hl [0, 1, 2, 3, 4, 5, 6, 7, 8, 9, 10, 11] rfl)
                            · exact absurd c163 (by decide)
                      exact loop153 (n - 0 + 1) 0 1 (by omega) rfl (Nat.lt_succ_self _) _ _ _ hW (lv_sub hl [0, 1, 2, 3, 4, 5, 6, 7, 8, 9, 10, 11] rfl)
                    · have c126 : ¬ b = 0 := fun z => c126 ((nI_eq (a := b) (b := 0) (by omega) (by omega)).mpr z)
                      refine lv_iload X.x X.b d_R_odds_129 (lv_at hl 1 rfl) ?_
                      refine lv_iload X.x X.b d_R_odds_131 (lv_at hl 0 rfl) ?_
                      refine lv_irem X.x X.b d_R_odds_133 (fun z => by have z2 := (nI_eq (a := b) (b := 0) (by omega) (by omega)).mp z; omega) ?_
                      rw [pk_rem (by omega) (by omega) (by omega)]
                      refine lv_istore (lv' := [(10, .int (nI (a % b))), (9, .int (nI b)), (8, .int (nI a)), (7, .int (nI q)), (6, .int (ν (44 + 6 * w))), (5, .int (nI (44 + 6 * w))), (0, .ref (eA E 70)), (1, .int (nI w)), (2, .int (nI t)), (3, .int (nI n)), (4, .int (nI 1))]) X.x X.b d_R_odds_134 hl (by decide) rfl (fun ls hl => ?_)
                      refine lv_iload X.x X.b d_R_odds_136 (lv_at hl 1 rfl) ?_
                      refine lv_istore (lv' := [(8, .int (nI b)), (10, .int (nI (a % b))), (9, .int (nI b)), (7, .int (nI q)), (6, .int (ν (44 + 6 * w))), (5, .int (nI (44 + 6 * w))), (0, .ref (eA E 70)), (1, .int (nI w)), (2, .int (nI t)), (3, .int (nI n)), (4, .int (nI 1))]) X.x X.b d_R_odds_138 hl (by decide) rfl (fun ls hl => ?_)
                      refine lv_iload X.x X.b d_R_odds_140 (lv_at hl 1 rfl) ?_
                      refine lv_istore (lv' := [(9, .int (nI (a % b))), (8, .int (nI b)), (10, .int (nI (a % b))), (7, .int (nI q)), (6, .int (ν (44 + 6 * w))), (5, .int (nI (44 + 6 * w))), (0, .ref (eA E 70)), (1, .int (nI w)), (2, .int (nI t)), (3, .int (nI n)), (4, .int (nI 1))]) X.x X.b d_R_odds_142 hl (by decide) rfl (fun ls hl => ?_)
                      refine lv_goto (tgt := 124) X.x X.b d_R_odds_144 (by decide) ?_
                      exact ih124 b (a % b) (by omega) (by have := Nat.mod_lt a (show 0 < b by omega); omega) (by omega) (by rw [← hg]; exact gcd_st) (by have := Nat.mod_lt a (show 0 < b by omega); omega) _ _ _ hW (lv_sub hl [0, 1, 3, 4, 5, 6, 7, 8, 9, 10] rfl)
                exact loop124 (q + 1) 16 q (by omega) (by omega) (by omega) rfl (Nat.lt_succ_self _) _ _ _ hW (lv_sub hl [0, 1, 2, 3, 4, 5, 6, 7, 8, 9] rfl)
              · have c70 : ¬ 16 ≤ j := fun z => c70 ((nI_leI (a := 16) (b := j) (by omega) (by omega)).mpr z)
                refine lv_aload_n X.x X.b d_R_odds_73 rfl (lv_at hl 4 rfl) ?_
                refine q_getr X hW qj4 rfl _ ds_R 0 (by decide) mw_686 rfl (c1 := 71) rfl d_R_odds_74 ?_
                refine lv_iload X.x X.b d_R_odds_77 (lv_at hl 3 rfl) ?_
                refine lv_iload X.x X.b d_R_odds_79 (lv_at hl 0 rfl) ?_
                refine g_ast X hW ds_71 (q_in (by omega) (by decide)) (p0 := 44 + 6 * w) (q_tn (by omega) (by omega)) (ρ := μ) (by rw [qr_at]) d_R_odds_81 (fun H locs hW => ?_)
                obtain ⟨r81, er81⟩ : ∃ z, z = upd μ (44 + 6 * w) (nI j) := ⟨_, rfl⟩
                rw [← er81] at hW
                rw [qr_qr] at hW
                have hu81 : WF (upd ν (44 + 6 * w) (nI j)) := WF_wc hwf (by omega) (by omega)
                have he81 : eqv r81 (upd ν (44 + 6 * w) (nI j)) := by rw [er81]; exact (hμ (nI j)).eqv hu81
                have hn81 : nW r81 = nW ν ∧ nT r81 = nT ν := ⟨by rw [he81.nW, nW_up (by omega)], by rw [he81.nT, nT_up (by omega)]⟩
                refine lv_iload X.x X.b d_R_odds_82 (lv_at hl 1 rfl) ?_
                refine lv_aload_n X.x X.b d_R_odds_84 rfl (lv_at hl 4 rfl) ?_
                refine lv_iload_n X.x X.b d_R_odds_85 rfl (lv_at hl 5 rfl) ?_
                refine lv_iload_n X.x X.b d_R_odds_86 rfl (lv_at hl 6 rfl) ?_
                refine q_cvi X (c_R_doesSee l E (qr S 16 r81) r81 (by rw [qr_at]) w t (by omega) (by omega)) hW (q_recv X hW ds_R rfl) ok_R_doesSee mw_866 ⟨by decide, by decide⟩ (As := [.int (nI w), .int (nI t)]) rfl rfl (Nat.le_of_ble_eq_true rfl) (lv := [(8, .int (nI j)), (7, .int (nI q)), (6, .int (ν (44 + 6 * w))), (5, .int (nI (44 + 6 * w))), (0, .ref (eA E 70)), (1, .int (nI w)), (2, .int (nI t)), (3, .int (nI n)), (4, .int (nI 1))]) hl ⟨Nat.le_refl 0, Nat.le_refl 0⟩ d_R_odds_87 (fun H locs hW => ?_)
                rw [show b2i (see r81 w t) = b2i (see (upd ν (44 + 6 * w) (nI j)) w t) from b2i_c (see_e he81 (by omega) (by omega))]
                refine lv_if_eq (tgt := 97) X.x X.b d_R_odds_90 (by decide) (fun c90 => ?_) (fun c90 => ?_)
                · have c90 := b2i_e c90
                  refine lv_iconst (v := nI 0) X.x X.b d_R_odds_97 (by decide) ?_
                  refine lv_iadd X.x X.b d_R_odds_98 ?_
                  rw [nI_add]
                  refine lv_istore (lv' := [(7, .int (nI (q + 0))), (8, .int (nI j)), (6, .int (ν (44 + 6 * w))), (5, .int (nI (44 + 6 * w))), (0, .ref (eA E 70)), (1, .int (nI w)), (2, .int (nI t)), (3, .int (nI n)), (4, .int (nI 1))]) X.x X.b d_R_odds_99 hl (by decide) rfl (fun ls hl => ?_)
                  refine lv_iinc (v := nI (j + 1)) (lv' := [(8, .int (nI (j + 1))), (7, .int (nI (q + 0))), (6, .int (ν (44 + 6 * w))), (5, .int (nI (44 + 6 * w))), (0, .ref (eA E 70)), (1, .int (nI w)), (2, .int (nI t)), (3, .int (nI n)), (4, .int (nI 1))]) X.x X.b d_R_odds_101 hl (k := 1) rfl (by rw [show Int32.ofInt 1 = nI 1 from by decide, nI_add]) (by decide) rfl (fun ls hl => ?_)
                  refine lv_goto (tgt := 66) X.x X.b d_R_odds_104 (by decide) ?_
                  exact ih66 (j + 1) (q + 0) r81 (by omega) (by show _ = (if see (upd ν (44 + 6 * w) (nI j)) w t then cntS ν w t j + 1 else cntS ν w t j); rw [← hq]; first | exact (if_pos c90).symm | exact (if_neg c90).symm) (fun v => by rw [er81, upd_upd]; exact hμ v) (by omega) _ _ _ hW (lv_sub hl [0, 1, 2, 3, 4, 5, 6, 7, 8] rfl)
                · have c90 := b2i_n c90
                  refine lv_iconst (v := nI 1) X.x X.b d_R_odds_93 (by decide) ?_
                  refine lv_goto (tgt := 98) X.x X.b d_R_odds_94 (by decide) ?_
                  refine lv_iadd X.x X.b d_R_odds_98 ?_
                  rw [nI_add]
                  refine lv_istore (lv' := [(7, .int (nI (q + 1))), (8, .int (nI j)), (6, .int (ν (44 + 6 * w))), (5, .int (nI (44 + 6 * w))), (0, .ref (eA E 70)), (1, .int (nI w)), (2, .int (nI t)), (3, .int (nI n)), (4, .int (nI 1))]) X.x X.b d_R_odds_99 hl (by decide) rfl (fun ls hl => ?_)
                  refine lv_iinc (v := nI (j + 1)) (lv' := [(8, .int (nI (j + 1))), (7, .int (nI (q + 1))), (6, .int (ν (44 + 6 * w))), (5, .int (nI (44 + 6 * w))), (0, .ref (eA E 70)), (1, .int (nI w)), (2, .int (nI t)), (3, .int (nI n)), (4, .int (nI 1))]) X.x X.b d_R_odds_101 hl (k := 1) rfl (by rw [show Int32.ofInt 1 = nI 1 from by decide, nI_add]) (by decide) rfl (fun ls hl => ?_)
                  refine lv_goto (tgt := 66) X.x X.b d_R_odds_104 (by decide) ?_
                  exact ih66 (j + 1) (q + 1) r81 (by omega) (by show _ = (if see (upd ν (44 + 6 * w) (nI j)) w t then cntS ν w t j + 1 else cntS ν w t j); rw [← hq]; first | exact (if_pos c90).symm | exact (if_neg c90).symm) (fun v => by rw [er81, upd_upd]; exact hμ v) (by omega) _ _ _ hW (lv_sub hl [0, 1, 2, 3, 4, 5, 6, 7, 8] rfl)
          exact loop66 (16 - 0 + 1) 0 0 ν (by omega) rfl (fun _ => eq80.rf) (Nat.lt_succ_self _) _ _ _ hW (lv_sub hl [0, 1, 2, 3, 4, 5, 6, 7, 8] rfl)
        · have c33 := b2i_e c33
          have c33 := mt (inR_i (by omega) (by decide)).mpr c33
          omega
set_option maxHeartbeats 1000000 in
set_option maxRecDepth 20000 in
theorem c_R_odds_b (l : Launch) (E : QE) (S : QM) (ν : Nat → Int32) (hν : S 16 = ν) (hwf : WF ν) (ψ : Nat → Int32) (hψ : S 19 = ψ) (x y z u : Int32) (h : ¬ (isW ν x ∧ isT ν y ∧ inR 0 15 z ∧ inR 0 1 u)) : qCL E l y_R_odds prog_7_method_79_code 13 6 [.ref (eA E 70), .int x, .int y, .int z, .int u] S ((-1000001 : Int32).toInt64) (qr S 19 (fnR ψ 0)) := by
  refine qCL_of (by decide) (Nat.le_of_ble_eq_true rfl) (fun p e s m below meth c ls X hW hl => ?_)
  have hl : lv_has ls 13 [(0, .ref (eA E 70)), (1, .int x), (2, .int y), (3, .int z), (4, .int u)] := hl
  have htl := hwf.tl
  have hwl := hwf.wl
  have hdl := hwf.dl
  refine lv_aload_n X.x X.b d_R_odds_0 rfl (lv_at hl 0 rfl) ?_
  refine lv_iload_n X.x X.b d_R_odds_1 rfl (lv_at hl 1 rfl) ?_
  refine q_cvi X (c_R_isWalker l E S ν (by rw [hν]) hwf x) hW (q_recv X hW ds_R rfl) ok_R_isWalker mw_841 ⟨by decide, by decide⟩ (As := [.int x]) rfl rfl (Nat.le_of_ble_eq_true rfl) (lv := [(0, .ref (eA E 70)), (1, .int x), (2, .int y), (3, .int z), (4, .int u)]) hl ⟨Nat.le_refl 0, Nat.le_refl 0⟩ d_R_odds_2 (fun H locs hW => ?_)
  refine lv_if_eq (tgt := 36) X.x X.b d_R_odds_5 (by decide) (fun c5 => ?_) (fun c5 => ?_)
  · have c5 := b2i_e c5
    refine lv_aload_n X.x X.b d_R_odds_36 rfl (lv_at hl 0 rfl) ?_
    refine lv_ldc (v := (-1000001)) X.x X.b X.ow (X.ts _ mw_767) d_R_odds_37 ?_
    refine q_cvi X (c_R_finding_0 l E S ψ (by rw [hψ])) hW (q_recv X hW ds_R rfl) ok_R_finding mw_768 ⟨by decide, by decide⟩ (As := [.int (-1000001)]) rfl rfl (Nat.le_of_ble_eq_true rfl) (lv := [(0, .ref (eA E 70)), (1, .int x), (2, .int y), (3, .int z), (4, .int u)]) hl ⟨Nat.le_refl 0, Nat.le_refl 0⟩ d_R_odds_39 (fun H locs hW => ?_)
    have hW : qWH E (qr S 19 (fnR ψ 0)) s H locs := hW
    refine lv_i2l (v := (-1000001).toInt64) X.x X.b d_R_odds_42 rfl ?_
    exact q_lret X hW ⟨rfl, rfl⟩ d_R_odds_43
  · have c5 := b2i_n c5
    refine lv_aload_n X.x X.b d_R_odds_8 rfl (lv_at hl 0 rfl) ?_
    refine lv_iload_n X.x X.b d_R_odds_9 rfl (lv_at hl 2 rfl) ?_
    refine q_cvi X (c_R_isThing l E S ν (by rw [hν]) hwf y) hW (q_recv X hW ds_R rfl) ok_R_isThing mw_809 ⟨by decide, by decide⟩ (As := [.int y]) rfl rfl (Nat.le_of_ble_eq_true rfl) (lv := [(0, .ref (eA E 70)), (1, .int x), (2, .int y), (3, .int z), (4, .int u)]) hl ⟨Nat.le_refl 0, Nat.le_refl 0⟩ d_R_odds_10 (fun H locs hW => ?_)
    refine lv_if_eq (tgt := 36) X.x X.b d_R_odds_13 (by decide) (fun c13 => ?_) (fun c13 => ?_)
    · have c13 := b2i_e c13
      refine lv_aload_n X.x X.b d_R_odds_36 rfl (lv_at hl 0 rfl) ?_
      refine lv_ldc (v := (-1000001)) X.x X.b X.ow (X.ts _ mw_767) d_R_odds_37 ?_
      refine q_cvi X (c_R_finding_0 l E S ψ (by rw [hψ])) hW (q_recv X hW ds_R rfl) ok_R_finding mw_768 ⟨by decide, by decide⟩ (As := [.int (-1000001)]) rfl rfl (Nat.le_of_ble_eq_true rfl) (lv := [(0, .ref (eA E 70)), (1, .int x), (2, .int y), (3, .int z), (4, .int u)]) hl ⟨Nat.le_refl 0, Nat.le_refl 0⟩ d_R_odds_39 (fun H locs hW => ?_)
      have hW : qWH E (qr S 19 (fnR ψ 0)) s H locs := hW
      refine lv_i2l (v := (-1000001).toInt64) X.x X.b d_R_odds_42 rfl ?_
      exact q_lret X hW ⟨rfl, rfl⟩ d_R_odds_43
    · have c13 := b2i_n c13
      refine lv_iload_n X.x X.b d_R_odds_16 rfl (lv_at hl 3 rfl) ?_
      refine lv_iconst (v := nI 0) X.x X.b d_R_odds_17 (by decide) ?_
      refine lv_bipush (v := nI 15) X.x X.b d_R_odds_18 (by decide) ?_
      refine q_csi X (c_R_within l E S z (nI 0) (nI 15)) hW ok_R_within mw_757 ⟨by decide, by decide⟩ (As := [.int z, .int (nI 0), .int (nI 15)]) rfl rfl (Nat.le_of_ble_eq_true rfl) (lv := [(0, .ref (eA E 70)), (1, .int x), (2, .int y), (3, .int z), (4, .int u)]) hl ⟨Nat.le_refl 0, Nat.le_refl 0⟩ d_R_odds_20 (fun H locs hW => ?_)
      refine lv_if_eq (tgt := 36) X.x X.b d_R_odds_23 (by decide) (fun c23 => ?_) (fun c23 => ?_)
      · have c23 := b2i_e c23
        refine lv_aload_n X.x X.b d_R_odds_36 rfl (lv_at hl 0 rfl) ?_
        refine lv_ldc (v := (-1000001)) X.x X.b X.ow (X.ts _ mw_767) d_R_odds_37 ?_
        refine q_cvi X (c_R_finding_0 l E S ψ (by rw [hψ])) hW (q_recv X hW ds_R rfl) ok_R_finding mw_768 ⟨by decide, by decide⟩ (As := [.int (-1000001)]) rfl rfl (Nat.le_of_ble_eq_true rfl) (lv := [(0, .ref (eA E 70)), (1, .int x), (2, .int y), (3, .int z), (4, .int u)]) hl ⟨Nat.le_refl 0, Nat.le_refl 0⟩ d_R_odds_39 (fun H locs hW => ?_)
        have hW : qWH E (qr S 19 (fnR ψ 0)) s H locs := hW
        refine lv_i2l (v := (-1000001).toInt64) X.x X.b d_R_odds_42 rfl ?_
        exact q_lret X hW ⟨rfl, rfl⟩ d_R_odds_43
      · have c23 := b2i_n c23
        refine lv_iload X.x X.b d_R_odds_26 (lv_at hl 4 rfl) ?_
        refine lv_iconst (v := nI 0) X.x X.b d_R_odds_28 (by decide) ?_
        refine lv_iconst (v := nI 1) X.x X.b d_R_odds_29 (by decide) ?_
        refine q_csi X (c_R_within l E S u (nI 0) (nI 1)) hW ok_R_within mw_757 ⟨by decide, by decide⟩ (As := [.int u, .int (nI 0), .int (nI 1)]) rfl rfl (Nat.le_of_ble_eq_true rfl) (lv := [(0, .ref (eA E 70)), (1, .int x), (2, .int y), (3, .int z), (4, .int u)]) hl ⟨Nat.le_refl 0, Nat.le_refl 0⟩ d_R_odds_30 (fun H locs hW => ?_)
        refine lv_if_ne (tgt := 44) X.x X.b d_R_odds_33 (by decide) (fun c33 => ?_) (fun c33 => ?_)
        · have c33 := b2i_n c33
          exact absurd ⟨c5, c13, c23, c33⟩ h
        · have c33 := b2i_e c33
          refine lv_aload_n X.x X.b d_R_odds_36 rfl (lv_at hl 0 rfl) ?_
          refine lv_ldc (v := (-1000001)) X.x X.b X.ow (X.ts _ mw_767) d_R_odds_37 ?_
          refine q_cvi X (c_R_finding_0 l E S ψ (by rw [hψ])) hW (q_recv X hW ds_R rfl) ok_R_finding mw_768 ⟨by decide, by decide⟩ (As := [.int (-1000001)]) rfl rfl (Nat.le_of_ble_eq_true rfl) (lv := [(0, .ref (eA E 70)), (1, .int x), (2, .int y), (3, .int z), (4, .int u)]) hl ⟨Nat.le_refl 0, Nat.le_refl 0⟩ d_R_odds_39 (fun H locs hW => ?_)
          have hW : qWH E (qr S 19 (fnR ψ 0)) s H locs := hW
          refine lv_i2l (v := (-1000001).toInt64) X.x X.b d_R_odds_42 rfl ?_
          exact q_lret X hW ⟨rfl, rfl⟩ d_R_odds_43
set_option maxHeartbeats 1000000 in
set_option maxRecDepth 20000 in
theorem c_R_feed_1 (l : Launch) (E : QE) (S : QM) (υ ξ ψ : Nat → Int32) (hυ : S 15 = υ) (hξ : S 20 = ξ) (hψ : S 19 = ψ) (len : Nat) (hlen : υ 6 = nI len) (hl : len ≤ 120) (v : Int32) (hf : len + 1 ≤ 120) : qCI E l y_R_feed prog_7_method_81_code 4 .int 3 [.ref (eA E 70), .int v, .int (nI 1)] S (nI (len + 1)) (qr (qr S 20 (apS ξ len v 1 0)) 15 (upd υ 6 (nI (len + 1)))) := by
  refine qCI_of (by decide) (Nat.le_of_ble_eq_true rfl) (fun p e s m below meth c ls X hW hl => ?_)
  have hl : lv_has ls 4 [(0, .ref (eA E 70)), (1, .int v), (2, .int (nI 1))] := hl
  refine lv_iload_n X.x X.b d_R_feed_0 rfl (lv_at hl 2 rfl) ?_
  refine lv_iconst (v := nI 1) X.x X.b d_R_feed_1 (by decide) ?_
  refine lv_iconst (v := nI 4) X.x X.b d_R_feed_2 (by decide) ?_
  refine q_csi X (c_R_within l E S (nI 1) (nI 1) (nI 4)) hW ok_R_within mw_757 ⟨by decide, by decide⟩ (As := [.int (nI 1), .int (nI 1), .int (nI 4)]) rfl rfl (Nat.le_of_ble_eq_true rfl) (lv := [(0, .ref (eA E 70)), (1, .int v), (2, .int (nI 1))]) hl ⟨Nat.le_refl 0, Nat.le_refl 0⟩ d_R_feed_3 (fun H locs hW => ?_)
  refine lv_if_ne (tgt := 16) X.x X.b d_R_feed_6 (by decide) (fun c6 => ?_) (fun c6 => ?_)
  · have c6 := b2i_n c6
    have c6 := (inR_i (by omega) (by decide)).mp c6
    refine lv_aload_n X.x X.b d_R_feed_16 rfl (lv_at hl 0 rfl) ?_
    refine g_geti X hW qj4 rfl _ ds_R 6 (by decide) mw_692 rfl (r0 := 15) (p0 := 6) rfl (v := υ 6) (by rw [hυ]) d_R_feed_17 ?_
    rw [hlen]
    refine lv_iload_n X.x X.b d_R_feed_20 rfl (lv_at hl 2 rfl) ?_
    refine lv_iadd X.x X.b d_R_feed_21 ?_
    rw [nI_add]
    refine lv_bipush (v := nI 120) X.x X.b d_R_feed_22 (by decide) ?_
    refine lv_icmp_le (tgt := 34) X.x X.b d_R_feed_24 (by decide) (fun c24 => ?_) (fun c24 => ?_)
    · have c24 : (len + 1) ≤ 120 := (nI_leI (a := (len + 1)) (b := 120) (by omega) (by omega)).mp c24
      refine lv_iload_n X.x X.b d_R_feed_34 rfl (lv_at hl 2 rfl) ?_
      refine lv_iconst (v := nI 1) X.x X.b d_R_feed_35 (by decide) ?_
      refine lv_isub X.x X.b d_R_feed_36 ?_
      rw [show (nI 1) - (nI 1) = nI 0 from by decide]
      refine lv_istore_n (lv' := [(3, .int (nI 0)), (0, .ref (eA E 70)), (1, .int v), (2, .int (nI 1))]) X.x X.b d_R_feed_37 rfl hl (by decide) rfl (fun ls hl => ?_)
      refine lv_iload_n X.x X.b d_R_feed_38 rfl (lv_at hl 0 rfl) ?_
      refine lv_if_lt (tgt := 77) X.x X.b d_R_feed_39 (by decide) (fun c39 => ?_) (fun c39 => ?_)
      · exact absurd c39 (by decide)
      · have c39 : ¬ 0 < 0 := fun z => c39 ((nI_ltI (a := 0) (b := 0) (by omega) (by omega)).mpr z)
        refine lv_aload_n X.x X.b d_R_feed_42 rfl (lv_at hl 1 rfl) ?_
        refine q_getr X hW qj4 rfl _ ds_R 5 (by decide) mw_691 rfl (c1 := 75) rfl d_R_feed_43 ?_
        refine lv_aload_n X.x X.b d_R_feed_46 rfl (lv_at hl 1 rfl) ?_
        refine g_geti X hW qj4 rfl _ ds_R 6 (by decide) mw_692 rfl (r0 := 15) (p0 := 6) rfl (v := υ 6) (by rw [hυ]) d_R_feed_47 ?_
        rw [hlen]
        refine lv_iload_n X.x X.b d_R_feed_50 rfl (lv_at hl 2 rfl) ?_
        refine lv_bipush (v := nI 8) X.x X.b d_R_feed_51 (by decide) ?_
        refine lv_iload_n X.x X.b d_R_feed_53 rfl (lv_at hl 0 rfl) ?_
        refine lv_imul X.x X.b d_R_feed_54 ?_
        rw [show (nI 8) * (nI 0) = nI 0 from by decide]
        refine lv_ishr X.x X.b d_R_feed_55 ?_
        refine lv_sipush (v := nI 255) X.x X.b d_R_feed_56 (by decide) ?_
        refine lv_iand X.x X.b d_R_feed_59 ?_
        rw [byt_0]
        refine g_ast X hW ds_75 (q_in (by omega) (by decide)) (p0 := len) (q_tn (by omega) (by omega)) (ρ := ξ) (by rw [hξ]) d_R_feed_60 (fun H locs hW => ?_)
        refine lv_aload_n X.x X.b d_R_feed_61 rfl (lv_at hl 1 rfl) ?_
        refine lv_dup X.x X.b d_R_feed_62 rfl ?_
        refine g_geti X hW qj4 rfl _ ds_R 6 (by decide) mw_692 rfl (r0 := 15) (p0 := 6) rfl (v := υ 6) (by rw [qr_ne (by omega), hυ]) d_R_feed_63 ?_
        rw [hlen]
        refine lv_iconst (v := nI 1) X.x X.b d_R_feed_66 (by decide) ?_
        refine lv_iadd X.x X.b d_R_feed_67 ?_
        rw [nI_add]
        refine g_puti X hW qj4 qp4 qn4 rfl _ ds_R 6 (by decide) mw_692 rfl rfl (r0 := 15) (p0 := 6) rfl rfl rfl (ρ := υ) (by rw [qr_ne (by omega), hυ]) d_R_feed_68 (fun H locs hW => ?_)
        refine lv_iinc (v := (-1)) (lv' := [(3, .int (-1)), (0, .ref (eA E 70)), (1, .int v), (2, .int (nI 1))]) X.x X.b d_R_feed_71 hl (k := 0) rfl (by decide) (by decide) rfl (fun ls hl => ?_)
        refine lv_goto (tgt := 38) X.x X.b d_R_feed_74 (by decide) ?_
        refine lv_iload_n X.x X.b d_R_feed_38 rfl (lv_at hl 0 rfl) ?_
        refine lv_if_lt (tgt := 77) X.x X.b d_R_feed_39 (by decide) (fun c39 => ?_) (fun c39 => ?_)
        · refine lv_aload_n X.x X.b d_R_feed_77 rfl (lv_at hl 1 rfl) ?_
          refine g_geti X hW qj4 rfl _ ds_R 6 (by decide) mw_692 rfl (r0 := 15) (p0 := 6) rfl (v := (upd υ 6 (nI (len + 1))) 6) (by rw [qr_at]) d_R_feed_78 ?_
          rw [upd_at]
          exact q_zret X rfl hW ⟨rfl, rfl⟩ d_R_feed_81
        · exact absurd (by decide) c39
    · have c24 : ¬ (len + 1) ≤ 120 := fun z => c24 ((nI_leI (a := (len + 1)) (b := 120) (by omega) (by omega)).mpr z)
      omega
  · have c6 := b2i_e c6
    have c6 := mt (inR_i (by omega) (by decide)).mpr c6
    omega
set_option maxHeartbeats 1000000 in
set_option maxRecDepth 20000 in
theorem c_R_feed_f1 (l : Launch) (E : QE) (S : QM) (υ ξ ψ : Nat → Int32) (hυ : S 15 = υ) (hξ : S 20 = ξ) (hψ : S 19 = ψ) (len : Nat) (hlen : υ 6 = nI len) (hl : len ≤ 120) (v : Int32) (hf : ¬ len + 1 ≤ 120) : qCI E l y_R_feed prog_7_method_81_code 4 .int 3 [.ref (eA E 70), .int v, .int (nI 1)] S (-1000002) (qr S 19 (fnR ψ 1)) := by
  refine qCI_of (by decide) (Nat.le_of_ble_eq_true rfl) (fun p e s m below meth c ls X hW hl => ?_)
  have hl : lv_has ls 4 [(0, .ref (eA E 70)), (1, .int v), (2, .int (nI 1))] := hl
  refine lv_iload_n X.x X.b d_R_feed_0 rfl (lv_at hl 2 rfl) ?_
  refine lv_iconst (v := nI 1) X.x X.b d_R_feed_1 (by decide) ?_
  refine lv_iconst (v := nI 4) X.x X.b d_R_feed_2 (by decide) ?_
  refine q_csi X (c_R_within l E S (nI 1) (nI 1) (nI 4)) hW ok_R_within mw_757 ⟨by decide, by decide⟩ (As := [.int (nI 1), .int (nI 1), .int (nI 4)]) rfl rfl (Nat.le_of_ble_eq_true rfl) (lv := [(0, .ref (eA E 70)), (1, .int v), (2, .int (nI 1))]) hl ⟨Nat.le_refl 0, Nat.le_refl 0⟩ d_R_feed_3 (fun H locs hW => ?_)
  refine lv_if_ne (tgt := 16) X.x X.b d_R_feed_6 (by decide) (fun c6 => ?_) (fun c6 => ?_)
  · have c6 := b2i_n c6
    have c6 := (inR_i (by omega) (by decide)).mp c6
    refine lv_aload_n X.x X.b d_R_feed_16 rfl (lv_at hl 0 rfl) ?_
    refine g_geti X hW qj4 rfl _ ds_R 6 (by decide) mw_692 rfl (r0 := 15) (p0 := 6) rfl (v := υ 6) (by rw [hυ]) d_R_feed_17 ?_
    rw [hlen]
    refine lv_iload_n X.x X.b d_R_feed_20 rfl (lv_at hl 2 rfl) ?_
    refine lv_iadd X.x X.b d_R_feed_21 ?_
    rw [nI_add]
    refine lv_bipush (v := nI 120) X.x X.b d_R_feed_22 (by decide) ?_
    refine lv_icmp_le (tgt := 34) X.x X.b d_R_feed_24 (by decide) (fun c24 => ?_) (fun c24 => ?_)
    · have c24 : (len + 1) ≤ 120 := (nI_leI (a := (len + 1)) (b := 120) (by omega) (by omega)).mp c24
      omega
    · have c24 : ¬ (len + 1) ≤ 120 := fun z => c24 ((nI_leI (a := (len + 1)) (b := 120) (by omega) (by omega)).mpr z)
      refine lv_aload_n X.x X.b d_R_feed_27 rfl (lv_at hl 0 rfl) ?_
      refine lv_ldc (v := (-1000002)) X.x X.b X.ow (X.ts _ mw_786) d_R_feed_28 ?_
      refine q_cvi X (c_R_finding_1 l E S ψ (by rw [hψ])) hW (q_recv X hW ds_R rfl) ok_R_finding mw_768 ⟨by decide, by decide⟩ (As := [.int (-1000002)]) rfl rfl (Nat.le_of_ble_eq_true rfl) (lv := [(0, .ref (eA E 70)), (1, .int v), (2, .int (nI 1))]) hl ⟨Nat.le_refl 0, Nat.le_refl 0⟩ d_R_feed_30 (fun H locs hW => ?_)
      have hW : qWH E (qr S 19 (fnR ψ 1)) s H locs := hW
      exact q_zret X rfl hW ⟨rfl, rfl⟩ d_R_feed_33
  · have c6 := b2i_e c6
    have c6 := mt (inR_i (by omega) (by decide)).mpr c6
    omega
set_option maxHeartbeats 1000000 in
set_option maxRecDepth 20000 in
theorem c_R_feed_2 (l : Launch) (E : QE) (S : QM) (υ ξ ψ : Nat → Int32) (hυ : S 15 = υ) (hξ : S 20 = ξ) (hψ : S 19 = ψ) (len : Nat) (hlen : υ 6 = nI len) (hl : len ≤ 120) (v : Int32) (hf : len + 2 ≤ 120) : qCI E l y_R_feed prog_7_method_81_code 4 .int 3 [.ref (eA E 70), .int v, .int (nI 2)] S (nI (len + 2)) (qr (qr S 20 (apS ξ len v 2 0)) 15 (upd υ 6 (nI (len + 2)))) := by
  refine qCI_of (by decide) (Nat.le_of_ble_eq_true rfl) (fun p e s m below meth c ls X hW hl => ?_)
  have hl : lv_has ls 4 [(0, .ref (eA E 70)), (1, .int v), (2, .int (nI 2))] := hl
  refine lv_iload_n X.x X.b d_R_feed_0 rfl (lv_at hl 2 rfl) ?_
  refine lv_iconst (v := nI 1) X.x X.b d_R_feed_1 (by decide) ?_
  refine lv_iconst (v := nI 4) X.x X.b d_R_feed_2 (by decide) ?_
  refine q_csi X (c_R_within l E S (nI 2) (nI 1) (nI 4)) hW ok_R_within mw_757 ⟨by decide, by decide⟩ (As := [.int (nI 2), .int (nI 1), .int (nI 4)]) rfl rfl (Nat.le_of_ble_eq_true rfl) (lv := [(0, .ref (eA E 70)), (1, .int v), (2, .int (nI 2))]) hl ⟨Nat.le_refl 0, Nat.le_refl 0⟩ d_R_feed_3 (fun H locs hW => ?_)
  refine lv_if_ne (tgt := 16) X.x X.b d_R_feed_6 (by decide) (fun c6 => ?_) (fun c6 => ?_)
  · have c6 := b2i_n c6
    have c6 := (inR_i (by omega) (by decide)).mp c6
    refine lv_aload_n X.x X.b d_R_feed_16 rfl (lv_at hl 0 rfl) ?_
    refine g_geti X hW qj4 rfl _ ds_R 6 (by decide) mw_692 rfl (r0 := 15) (p0 := 6) rfl (v := υ 6) (by rw [hυ]) d_R_feed_17 ?_
    rw [hlen]
    refine lv_iload_n X.x X.b d_R_feed_20 rfl (lv_at hl 2 rfl) ?_
    refine lv_iadd X.x X.b d_R_feed_21 ?_
    rw [nI_add]
    refine lv_bipush (v := nI 120) X.x X.b d_R_feed_22 (by decide) ?_
    refine lv_icmp_le (tgt := 34) X.x X.b d_R_feed_24 (by decide) (fun c24 => ?_) (fun c24 => ?_)
    · have c24 : (len + 2) ≤ 120 := (nI_leI (a := (len + 2)) (b := 120) (by omega) (by omega)).mp c24
      refine lv_iload_n X.x X.b d_R_feed_34 rfl (lv_at hl 2 rfl) ?_
      refine lv_iconst (v := nI 1) X.x X.b d_R_feed_35 (by decide) ?_
      refine lv_isub X.x X.b d_R_feed_36 ?_
      rw [show (nI 2) - (nI 1) = nI 1 from by decide]
      refine lv_istore_n (lv' := [(3, .int (nI 1)), (0, .ref (eA E 70)), (1, .int v), (2, .int (nI 2))]) X.x X.b d_R_feed_37 rfl hl (by decide) rfl (fun ls hl => ?_)
      refine lv_iload_n X.x X.b d_R_feed_38 rfl (lv_at hl 0 rfl) ?_
      refine lv_if_lt (tgt := 77) X.x X.b d_R_feed_39 (by decide) (fun c39 => ?_) (fun c39 => ?_)
      · exact absurd c39 (by decide)
      · have c39 : ¬ 1 < 0 := fun z => c39 ((nI_ltI (a := 1) (b := 0) (by omega) (by omega)).mpr z)
        refine lv_aload_n X.x X.b d_R_feed_42 rfl (lv_at hl 1 rfl) ?_
        refine q_getr X hW qj4 rfl _ ds_R 5 (by decide) mw_691 rfl (c1 := 75) rfl d_R_feed_43 ?_
        refine lv_aload_n X.x X.b d_R_feed_46 rfl (lv_at hl 1 rfl) ?_
        refine g_geti X hW qj4 rfl _ ds_R 6 (by decide) mw_692 rfl (r0 := 15) (p0 := 6) rfl (v := υ 6) (by rw [hυ]) d_R_feed_47 ?_
        rw [hlen]
        refine lv_iload_n X.x X.b d_R_feed_50 rfl (lv_at hl 2 rfl) ?_
        refine lv_bipush (v := nI 8) X.x X.b d_R_feed_51 (by decide) ?_
        refine lv_iload_n X.x X.b d_R_feed_53 rfl (lv_at hl 0 rfl) ?_
        refine lv_imul X.x X.b d_R_feed_54 ?_
        rw [show (nI 8) * (nI 1) = nI 8 from by decide]
        refine lv_ishr X.x X.b d_R_feed_55 ?_
        refine lv_sipush (v := nI 255) X.x X.b d_R_feed_56 (by decide) ?_
        refine lv_iand X.x X.b d_R_feed_59 ?_
        rw [byt_1]
        refine g_ast X hW ds_75 (q_in (by omega) (by decide)) (p0 := len) (q_tn (by omega) (by omega)) (ρ := ξ) (by rw [hξ]) d_R_feed_60 (fun H locs hW => ?_)
        refine lv_aload_n X.x X.b d_R_feed_61 rfl (lv_at hl 1 rfl) ?_
        refine lv_dup X.x X.b d_R_feed_62 rfl ?_
        refine g_geti X hW qj4 rfl _ ds_R 6 (by decide) mw_692 rfl (r0 := 15) (p0 := 6) rfl (v := υ 6) (by rw [qr_ne (by omega), hυ]) d_R_feed_63 ?_
        rw [hlen]
        refine lv_iconst (v := nI 1) X.x X.b d_R_feed_66 (by decide) ?_
        refine lv_iadd X.x X.b d_R_feed_67 ?_
        rw [nI_add]
        refine g_puti X hW qj4 qp4 qn4 rfl _ ds_R 6 (by decide) mw_692 rfl rfl (r0 := 15) (p0 := 6) rfl rfl rfl (ρ := υ) (by rw [qr_ne (by omega), hυ]) d_R_feed_68 (fun H locs hW => ?_)
        refine lv_iinc (v := nI 0) (lv' := [(3, .int (nI 0)), (0, .ref (eA E 70)), (1, .int v), (2, .int (nI 2))]) X.x X.b d_R_feed_71 hl (k := 0) rfl (by decide) (by decide) rfl (fun ls hl => ?_)
        refine lv_goto (tgt := 38) X.x X.b d_R_feed_74 (by decide) ?_
        refine lv_iload_n X.x X.b d_R_feed_38 rfl (lv_at hl 0 rfl) ?_
        refine lv_if_lt (tgt := 77) X.x X.b d_R_feed_39 (by decide) (fun c39 => ?_) (fun c39 => ?_)
        · exact absurd c39 (by decide)
        · have c39 : ¬ 0 < 0 := fun z => c39 ((nI_ltI (a := 0) (b := 0) (by omega) (by omega)).mpr z)
          refine lv_aload_n X.x X.b d_R_feed_42 rfl (lv_at hl 1 rfl) ?_
          refine q_getr X hW qj4 rfl _ ds_R 5 (by decide) mw_691 rfl (c1 := 75) rfl d_R_feed_43 ?_
          refine lv_aload_n X.x X.b d_R_feed_46 rfl (lv_at hl 1 rfl) ?_
          refine g_geti X hW qj4 rfl _ ds_R 6 (by decide) mw_692 rfl (r0 := 15) (p0 := 6) rfl (v := (upd υ 6 (nI (len + 1))) 6) (by rw [qr_at]) d_R_feed_47 ?_
          rw [upd_at]
          refine lv_iload_n X.x X.b d_R_feed_50 rfl (lv_at hl 2 rfl) ?_
          refine lv_bipush (v := nI 8) X.x X.b d_R_feed_51 (by decide) ?_
          refine lv_iload_n X.x X.b d_R_feed_53 rfl (lv_at hl 0 rfl) ?_
          refine lv_imul X.x X.b d_R_feed_54 ?_
          rw [show (nI 8) * (nI 0) = nI 0 from by decide]
          refine lv_ishr X.x X.b d_R_feed_55 ?_
          refine lv_sipush (v := nI 255) X.x X.b d_R_feed_56 (by decide) ?_
          refine lv_iand X.x X.b d_R_feed_59 ?_
          rw [byt_0]
          refine g_ast X hW ds_75 (q_in (by omega) (by decide)) (p0 := len + 1) (q_tn (by omega) (by omega)) (ρ := upd ξ len (byt v 1)) (by rw [qr_ne (by omega), qr_at]) d_R_feed_60 (fun H locs hW => ?_)
          rw [qr_in (by omega)] at hW
          refine lv_aload_n X.x X.b d_R_feed_61 rfl (lv_at hl 1 rfl) ?_
          refine lv_dup X.x X.b d_R_feed_62 rfl ?_
          refine g_geti X hW qj4 rfl _ ds_R 6 (by decide) mw_692 rfl (r0 := 15) (p0 := 6) rfl (v := (upd υ 6 (nI (len + 1))) 6) (by rw [qr_at]) d_R_feed_63 ?_
          rw [upd_at]
          refine lv_iconst (v := nI 1) X.x X.b d_R_feed_66 (by decide) ?_
          refine lv_iadd X.x X.b d_R_feed_67 ?_
          rw [nI_add]
          refine g_puti X hW qj4 qp4 qn4 rfl _ ds_R 6 (by decide) mw_692 rfl rfl (r0 := 15) (p0 := 6) rfl rfl rfl (ρ := upd υ 6 (nI (len + 1))) (by rw [qr_at]) d_R_feed_68 (fun H locs hW => ?_)
          rw [qr_qr] at hW
          rw [upd_upd] at hW
          refine lv_iinc (v := (-1)) (lv' := [(3, .int (-1)), (0, .ref (eA E 70)), (1, .int v), (2, .int (nI 2))]) X.x X.b d_R_feed_71 hl (k := 0) rfl (by decide) (by decide) rfl (fun ls hl => ?_)
          refine lv_goto (tgt := 38) X.x X.b d_R_feed_74 (by decide) ?_
          refine lv_iload_n X.x X.b d_R_feed_38 rfl (lv_at hl 0 rfl) ?_
          refine lv_if_lt (tgt := 77) X.x X.b d_R_feed_39 (by decide) (fun c39 => ?_) (fun c39 => ?_)
          · refine lv_aload_n X.x X.b d_R_feed_77 rfl (lv_at hl 1 rfl) ?_
            refine g_geti X hW qj4 rfl _ ds_R 6 (by decide) mw_692 rfl (r0 := 15) (p0 := 6) rfl (v := (upd υ 6 (nI (len + 1 + 1))) 6) (by rw [qr_at]) d_R_feed_78 ?_
            rw [upd_at]
            exact q_zret X rfl hW ⟨rfl, rfl⟩ d_R_feed_81
          · exact absurd (by decide) c39
    · have c24 : ¬ (len + 2) ≤ 120 := fun z => c24 ((nI_leI (a := (len + 2)) (b := 120) (by omega) (by omega)).mpr z)
      omega
  · have c6 := b2i_e c6
    have c6 := mt (inR_i (by omega) (by decide)).mpr c6
    omega
set_option maxHeartbeats 1000000 in
set_option maxRecDepth 20000 in
theorem c_R_feed_f2 (l : Launch) (E : QE) (S : QM) (υ ξ ψ : Nat → Int32) (hυ : S 15 = υ) (hξ : S 20 = ξ) (hψ : S 19 = ψ) (len : Nat) (hlen : υ 6 = nI len) (hl : len ≤ 120) (v : Int32) (hf : ¬ len + 2 ≤ 120) : qCI E l y_R_feed prog_7_method_81_code 4 .int 3 [.ref (eA E 70), .int v, .int (nI 2)] S (-1000002) (qr S 19 (fnR ψ 1)) := by
  refine qCI_of (by decide) (Nat.le_of_ble_eq_true rfl) (fun p e s m below meth c ls X hW hl => ?_)
  have hl : lv_has ls 4 [(0, .ref (eA E 70)), (1, .int v), (2, .int (nI 2))] := hl
  refine lv_iload_n X.x X.b d_R_feed_0 rfl (lv_at hl 2 rfl) ?_
  refine lv_iconst (v := nI 1) X.x X.b d_R_feed_1 (by decide) ?_
  refine lv_iconst (v := nI 4) X.x X.b d_R_feed_2 (by decide) ?_
  refine q_csi X (c_R_within l E S (nI 2) (nI 1) (nI 4)) hW ok_R_within mw_757 ⟨by decide, by decide⟩ (As := [.int (nI 2), .int (nI 1), .int (nI 4)]) rfl rfl (Nat.le_of_ble_eq_true rfl) (lv := [(0, .ref (eA E 70)), (1, .int v), (2, .int (nI 2))]) hl ⟨Nat.le_refl 0, Nat.le_refl 0⟩ d_R_feed_3 (fun H locs hW => ?_)
  refine lv_if_ne (tgt := 16) X.x X.b d_R_feed_6 (by decide) (fun c6 => ?_) (fun c6 => ?_)
  · have c6 := b2i_n c6
    have c6 := (inR_i (by omega) (by decide)).mp c6
    refine lv_aload_n X.x X.b d_R_feed_16 rfl (lv_at hl 0 rfl) ?_
    refine g_geti X hW qj4 rfl _ ds_R 6 (by decide) mw_692 rfl (r0 := 15) (p0 := 6) rfl (v := υ 6) (by rw [hυ]) d_R_feed_17 ?_
    rw [hlen]
    refine lv_iload_n X.x X.b d_R_feed_20 rfl (lv_at hl 2 rfl) ?_
    refine lv_iadd X.x X.b d_R_feed_21 ?_
    rw [nI_add]
    refine lv_bipush (v := nI 120) X.x X.b d_R_feed_22 (by decide) ?_
    refine lv_icmp_le (tgt := 34) X.x X.b d_R_feed_24 (by decide) (fun c24 => ?_) (fun c24 => ?_)
    · have c24 : (len + 2) ≤ 120 := (nI_leI (a := (len + 2)) (b := 120) (by omega) (by omega)).mp c24
      omega
    · have c24 : ¬ (len + 2) ≤ 120 := fun z => c24 ((nI_leI (a := (len + 2)) (b := 120) (by omega) (by omega)).mpr z)
      refine lv_aload_n X.x X.b d_R_feed_27 rfl (lv_at hl 0 rfl) ?_
      refine lv_ldc (v := (-1000002)) X.x X.b X.ow (X.ts _ mw_786) d_R_feed_28 ?_
      refine q_cvi X (c_R_finding_1 l E S ψ (by rw [hψ])) hW (q_recv X hW ds_R rfl) ok_R_finding mw_768 ⟨by decide, by decide⟩ (As := [.int (-1000002)]) rfl rfl (Nat.le_of_ble_eq_true rfl) (lv := [(0, .ref (eA E 70)), (1, .int v), (2, .int (nI 2))]) hl ⟨Nat.le_refl 0, Nat.le_refl 0⟩ d_R_feed_30 (fun H locs hW => ?_)
      have hW : qWH E (qr S 19 (fnR ψ 1)) s H locs := hW
      exact q_zret X rfl hW ⟨rfl, rfl⟩ d_R_feed_33
  · have c6 := b2i_e c6
    have c6 := mt (inR_i (by omega) (by decide)).mpr c6
    omega
set_option maxHeartbeats 1000000 in
set_option maxRecDepth 20000 in
theorem c_R_feed_3 (l : Launch) (E : QE) (S : QM) (υ ξ ψ : Nat → Int32) (hυ : S 15 = υ) (hξ : S 20 = ξ) (hψ : S 19 = ψ) (len : Nat) (hlen : υ 6 = nI len) (hl : len ≤ 120) (v : Int32) (hf : len + 3 ≤ 120) : qCI E l y_R_feed prog_7_method_81_code 4 .int 3 [.ref (eA E 70), .int v, .int (nI 3)] S (nI (len + 3)) (qr (qr S 20 (apS ξ len v 3 0)) 15 (upd υ 6 (nI (len + 3)))) := by
  refine qCI_of (by decide) (Nat.le_of_ble_eq_true rfl) (fun p e s m below meth c ls X hW hl => ?_)
  have hl : lv_has ls 4 [(0, .ref (eA E 70)), (1, .int v), (2, .int (nI 3))] := hl
  refine lv_iload_n X.x X.b d_R_feed_0 rfl (lv_at hl 2 rfl) ?_
  refine lv_iconst (v := nI 1) X.x X.b d_R_feed_1 (by decide) ?_
  refine lv_iconst (v := nI 4) X.x X.b d_R_feed_2 (by decide) ?_
  refine q_csi X (c_R_within l E S (nI 3) (nI 1) (nI 4)) hW ok_R_within mw_757 ⟨by decide, by decide⟩ (As := [.int (nI 3), .int (nI 1), .int (nI 4)]) rfl rfl (Nat.le_of_ble_eq_true rfl) (lv := [(0, .ref (eA E 70)), (1, .int v), (2, .int (nI 3))]) hl ⟨Nat.le_refl 0, Nat.le_refl 0⟩ d_R_feed_3 (fun H locs hW => ?_)
  refine lv_if_ne (tgt := 16) X.x X.b d_R_feed_6 (by decide) (fun c6 => ?_) (fun c6 => ?_)
  · have c6 := b2i_n c6
    have c6 := (inR_i (by omega) (by decide)).mp c6
    refine lv_aload_n X.x X.b d_R_feed_16 rfl (lv_at hl 0 rfl) ?_
    refine g_geti X hW qj4 rfl _ ds_R 6 (by decide) mw_692 rfl (r0 := 15) (p0 := 6) rfl (v := υ 6) (by rw [hυ]) d_R_feed_17 ?_
    rw [hlen]
    refine lv_iload_n X.x X.b d_R_feed_20 rfl (lv_at hl 2 rfl) ?_
    refine lv_iadd X.x X.b d_R_feed_21 ?_
    rw [nI_add]
    refine lv_bipush (v := nI 120) X.x X.b d_R_feed_22 (by decide) ?_
    refine lv_icmp_le (tgt := 34) X.x X.b d_R_feed_24 (by decide) (fun c24 => ?_) (fun c24 => ?_)
    · have c24 : (len + 3) ≤ 120 := (nI_leI (a := (len + 3)) (b := 120) (by omega) (by omega)).mp c24
      refine lv_iload_n X.x X.b d_R_feed_34 rfl (lv_at hl 2 rfl) ?_
      refine lv_iconst (v := nI 1) X.x X.b d_R_feed_35 (by decide) ?_
      refine lv_isub X.x X.b d_R_feed_36 ?_
      rw [show (nI 3) - (nI 1) = nI 2 from by decide]
      refine lv_istore_n (lv' := [(3, .int (nI 2)), (0, .ref (eA E 70)), (1, .int v), (2, .int (nI 3))]) X.x X.b d_R_feed_37 rfl hl (by decide) rfl (fun ls hl => ?_)
      refine lv_iload_n X.x X.b d_R_feed_38 rfl (lv_at hl 0 rfl) ?_
      refine lv_if_lt (tgt := 77) X.x X.b d_R_feed_39 (by decide) (fun c39 => ?_) (fun c39 => ?_)
      · exact absurd c39 (by decide)
      · have c39 : ¬ 2 < 0 := fun z => c39 ((nI_ltI (a := 2) (b := 0) (by omega) (by omega)).mpr z)
        refine lv_aload_n X.x X.b d_R_feed_42 rfl (lv_at hl 1 rfl) ?_
        refine q_getr X hW qj4 rfl _ ds_R 5 (by decide) mw_691 rfl (c1 := 75) rfl d_R_feed_43 ?_
        refine lv_aload_n X.x X.b d_R_feed_46 rfl (lv_at hl 1 rfl) ?_
        refine g_geti X hW qj4 rfl _ ds_R 6 (by decide) mw_692 rfl (r0 := 15) (p0 := 6) rfl (v := υ 6) (by rw [hυ]) d_R_feed_47 ?_
        rw [hlen]
        refine lv_iload_n X.x X.b d_R_feed_50 rfl (lv_at hl 2 rfl) ?_
        refine lv_bipush (v := nI 8) X.x X.b d_R_feed_51 (by decide) ?_
        refine lv_iload_n X.x X.b d_R_feed_53 rfl (lv_at hl 0 rfl) ?_
        refine lv_imul X.x X.b d_R_feed_54 ?_
        rw [show (nI 8) * (nI 2) = nI 16 from by decide]
        refine lv_ishr X.x X.b d_R_feed_55 ?_
        refine lv_sipush (v := nI 255) X.x X.b d_R_feed_56 (by decide) ?_
        refine lv_iand X.x X.b d_R_feed_59 ?_
        rw [byt_2]
        refine g_ast X hW ds_75 (q_in (by omega) (by decide)) (p0 := len) (q_tn (by omega) (by omega)) (ρ := ξ) (by rw [hξ]) d_R_feed_60 (fun H locs hW => ?_)
        refine lv_aload_n X.x X.b d_R_feed_61 rfl (lv_at hl 1 rfl) ?_
        refine lv_dup X.x X.b d_R_feed_62 rfl ?_
        refine g_geti X hW qj4 rfl _ ds_R 6 (by decide) mw_692 rfl (r0 := 15) (p0 := 6) rfl (v := υ 6) (by rw [qr_ne (by omega), hυ]) d_R_feed_63 ?_
        rw [hlen]
        refine lv_iconst (v := nI 1) X.x X.b d_R_feed_66 (by decide) ?_
        refine lv_iadd X.x X.b d_R_feed_67 ?_
        rw [nI_add]
        refine g_puti X hW qj4 qp4 qn4 rfl _ ds_R 6 (by decide) mw_692 rfl rfl (r0 := 15) (p0 := 6) rfl rfl rfl (ρ := υ) (by rw [qr_ne (by omega), hυ]) d_R_feed_68 (fun H locs hW => ?_)
        refine lv_iinc (v := nI 1) (lv' := [(3, .int (nI 1)), (0, .ref (eA E 70)), (1, .int v), (2, .int (nI 3))]) X.x X.b d_R_feed_71 hl (k := 0) rfl (by decide) (by decide) rfl (fun ls hl => ?_)
        refine lv_goto (tgt := 38) X.x X.b d_R_feed_74 (by decide) ?_
        refine lv_iload_n X.x X.b d_R_feed_38 rfl (lv_at hl 0 rfl) ?_
        refine lv_if_lt (tgt := 77) X.x X.b d_R_feed_39 (by decide) (fun c39 => ?_) (fun c39 => ?_)
        · exact absurd c39 (by decide)
        · have c39 : ¬ 1 < 0 := fun z => c39 ((nI_ltI (a := 1) (b := 0) (by omega) (by omega)).mpr z)
          refine lv_aload_n X.x X.b d_R_feed_42 rfl (lv_at hl 1 rfl) ?_
          refine q_getr X hW qj4 rfl _ ds_R 5 (by decide) mw_691 rfl (c1 := 75) rfl d_R_feed_43 ?_
          refine lv_aload_n X.x X.b d_R_feed_46 rfl (lv_at hl 1 rfl) ?_
          refine g_geti X hW qj4 rfl _ ds_R 6 (by decide) mw_692 rfl (r0 := 15) (p0 := 6) rfl (v := (upd υ 6 (nI (len + 1))) 6) (by rw [qr_at]) d_R_feed_47 ?_
          rw [upd_at]
          refine lv_iload_n X.x X.b d_R_feed_50 rfl (lv_at hl 2 rfl) ?_
          refine lv_bipush (v := nI 8) X.x X.b d_R_feed_51 (by decide) ?_
          refine lv_iload_n X.x X.b d_R_feed_53 rfl (lv_at hl 0 rfl) ?_
          refine lv_imul X.x X.b d_R_feed_54 ?_
          rw [show (nI 8) * (nI 1) = nI 8 from by decide]
          refine lv_ishr X.x X.b d_R_feed_55 ?_
          refine lv_sipush (v := nI 255) X.x X.b d_R_feed_56 (by decide) ?_
          refine lv_iand X.x X.b d_R_feed_59 ?_
          rw [byt_1]
          refine g_ast X hW ds_75 (q_in (by omega) (by decide)) (p0 := len + 1) (q_tn (by omega) (by omega)) (ρ := upd ξ len (byt v 2)) (by rw [qr_ne (by omega), qr_at]) d_R_feed_60 (fun H locs hW => ?_)
          rw [qr_in (by omega)] at hW
          refine lv_aload_n X.x X.b d_R_feed_61 rfl (lv_at hl 1 rfl) ?_
          refine lv_dup X.x X.b d_R_feed_62 rfl ?_
          refine g_geti X hW qj4 rfl _ ds_R 6 (by decide) mw_692 rfl (r0 := 15) (p0 := 6) rfl (v := (upd υ 6 (nI (len + 1))) 6) (by rw [qr_at]) d_R_feed_63 ?_
          rw [upd_at]
          refine lv_iconst (v := nI 1) X.x X.b d_R_feed_66 (by decide) ?_
          refine lv_iadd X.x X.b d_R_feed_67 ?_
          rw [nI_add]
          refine g_puti X hW qj4 qp4 qn4 rfl _ ds_R 6 (by decide) mw_692 rfl rfl (r0 := 15) (p0 := 6) rfl rfl rfl (ρ := upd υ 6 (nI (len + 1))) (by rw [qr_at]) d_R_feed_68 (fun H locs hW => ?_)
          rw [qr_qr] at hW
          rw [upd_upd] at hW
          refine lv_iinc (v := nI 0) (lv' := [(3, .int (nI 0)), (0, .ref (eA E 70)), (1, .int v), (2, .int (nI 3))]) X.x X.b d_R_feed_71 hl (k := 0) rfl (by decide) (by decide) rfl (fun ls hl => ?_)
          refine lv_goto (tgt := 38) X.x X.b d_R_feed_74 (by decide) ?_
          refine lv_iload_n X.x X.b d_R_feed_38 rfl (lv_at hl 0 rfl) ?_
          refine lv_if_lt (tgt := 77) X.x X.b d_R_feed_39 (by decide) (fun c39 => ?_) (fun c39 => ?_)
          · exact absurd c39 (by decide)
          · have c39 : ¬ 0 < 0 := fun z => c39 ((nI_ltI (a := 0) (b := 0) (by omega) (by omega)).mpr z)
            refine lv_aload_n X.x X.b d_R_feed_42 rfl (lv_at hl 1 rfl) ?_
            refine q_getr X hW qj4 rfl _ ds_R 5 (by decide) mw_691 rfl (c1 := 75) rfl d_R_feed_43 ?_
            refine lv_aload_n X.x X.b d_R_feed_46 rfl (lv_at hl 1 rfl) ?_
            refine g_geti X hW qj4 rfl _ ds_R 6 (by decide) mw_692 rfl (r0 := 15) (p0 := 6) rfl (v := (upd υ 6 (nI (len + 1 + 1))) 6) (by rw [qr_at]) d_R_feed_47 ?_
            rw [upd_at]
            refine lv_iload_n X.x X.b d_R_feed_50 rfl (lv_at hl 2 rfl) ?_
            refine lv_bipush (v := nI 8) X.x X.b d_R_feed_51 (by decide) ?_
            refine lv_iload_n X.x X.b d_R_feed_53 rfl (lv_at hl 0 rfl) ?_
            refine lv_imul X.x X.b d_R_feed_54 ?_
            rw [show (nI 8) * (nI 0) = nI 0 from by decide]
            refine lv_ishr X.x X.b d_R_feed_55 ?_
            refine lv_sipush (v := nI 255) X.x X.b d_R_feed_56 (by decide) ?_
            refine lv_iand X.x X.b d_R_feed_59 ?_
            rw [byt_0]
            refine g_ast X hW ds_75 (q_in (by omega) (by decide)) (p0 := len + 1 + 1) (q_tn (by omega) (by omega)) (ρ := upd (upd ξ len (byt v 2)) (len + 1) (byt v 1)) (by rw [qr_ne (by omega), qr_at]) d_R_feed_60 (fun H locs hW => ?_)
            rw [qr_in (by omega)] at hW
            refine lv_aload_n X.x X.b d_R_feed_61 rfl (lv_at hl 1 rfl) ?_
            refine lv_dup X.x X.b d_R_feed_62 rfl ?_
            refine g_geti X hW qj4 rfl _ ds_R 6 (by decide) mw_692 rfl (r0 := 15) (p0 := 6) rfl (v := (upd υ 6 (nI (len + 1 + 1))) 6) (by rw [qr_at]) d_R_feed_63 ?_
            rw [upd_at]
            refine lv_iconst (v := nI 1) X.x X.b d_R_feed_66 (by decide) ?_
            refine lv_iadd X.x X.b d_R_feed_67 ?_
            rw [nI_add]
            refine g_puti X hW qj4 qp4 qn4 rfl _ ds_R 6 (by decide) mw_692 rfl rfl (r0 := 15) (p0 := 6) rfl rfl rfl (ρ := upd υ 6 (nI (len + 1 + 1))) (by rw [qr_at]) d_R_feed_68 (fun H locs hW => ?_)
            rw [qr_qr] at hW
            rw [upd_upd] at hW
            refine lv_iinc (v := (-1)) (lv' := [(3, .int (-1)), (0, .ref (eA E 70)), (1, .int v), (2, .int (nI 3))]) X.x X.b d_R_feed_71 hl (k := 0) rfl (by decide) (by decide) rfl (fun ls hl => ?_)
            refine lv_goto (tgt := 38) X.x X.b d_R_feed_74 (by decide) ?_
            refine lv_iload_n X.x X.b d_R_feed_38 rfl (lv_at hl 0 rfl) ?_
            refine lv_if_lt (tgt := 77) X.x X.b d_R_feed_39 (by decide) (fun c39 => ?_) (fun c39 => ?_)
            · refine lv_aload_n X.x X.b d_R_feed_77 rfl (lv_at hl 1 rfl) ?_
              refine g_geti X hW qj4 rfl _ ds_R 6 (by decide) mw_692 rfl (r0 := 15) (p0 := 6) rfl (v := (upd υ 6 (nI (len + 1 + 1 + 1))) 6) (by rw [qr_at]) d_R_feed_78 ?_
              rw [upd_at]
              exact q_zret X rfl hW ⟨rfl, rfl⟩ d_R_feed_81
            · exact absurd (by decide) c39
    · have c24 : ¬ (len + 3) ≤ 120 := fun z => c24 ((nI_leI (a := (len + 3)) (b := 120) (by omega) (by omega)).mpr z)
      omega
  · have c6 := b2i_e c6
    have c6 := mt (inR_i (by omega) (by decide)).mpr c6
    omega
set_option maxHeartbeats 1000000 in
set_option maxRecDepth 20000 in
theorem c_R_feed_f3 (l : Launch) (E : QE) (S : QM) (υ ξ ψ : Nat → Int32) (hυ : S 15 = υ) (hξ : S 20 = ξ) (hψ : S 19 = ψ) (len : Nat) (hlen : υ 6 = nI len) (hl : len ≤ 120) (v : Int32) (hf : ¬ len + 3 ≤ 120) : qCI E l y_R_feed prog_7_method_81_code 4 .int 3 [.ref (eA E 70), .int v, .int (nI 3)] S (-1000002) (qr S 19 (fnR ψ 1)) := by
  refine qCI_of (by decide) (Nat.le_of_ble_eq_true rfl) (fun p e s m below meth c ls X hW hl => ?_)
  have hl : lv_has ls 4 [(0, .ref (eA E 70)), (1, .int v), (2, .int (nI 3))] := hl
  refine lv_iload_n X.x X.b d_R_feed_0 rfl (lv_at hl 2 rfl) ?_
  refine lv_iconst (v := nI 1) X.x X.b d_R_feed_1 (by decide) ?_
  refine lv_iconst (v := nI 4) X.x X.b d_R_feed_2 (by decide) ?_
  refine q_csi X (c_R_within l E S (nI 3) (nI 1) (nI 4)) hW ok_R_within mw_757 ⟨by decide, by decide⟩ (As := [.int (nI 3), .int (nI 1), .int (nI 4)]) rfl rfl (Nat.le_of_ble_eq_true rfl) (lv := [(0, .ref (eA E 70)), (1, .int v), (2, .int (nI 3))]) hl ⟨Nat.le_refl 0, Nat.le_refl 0⟩ d_R_feed_3 (fun H locs hW => ?_)
  refine lv_if_ne (tgt := 16) X.x X.b d_R_feed_6 (by decide) (fun c6 => ?_) (fun c6 => ?_)
  · have c6 := b2i_n c6
    have c6 := (inR_i (by omega) (by decide)).mp c6
    refine lv_aload_n X.x X.b d_R_feed_16 rfl (lv_at hl 0 rfl) ?_
    refine g_geti X hW qj4 rfl _ ds_R 6 (by decide) mw_692 rfl (r0 := 15) (p0 := 6) rfl (v := υ 6) (by rw [hυ]) d_R_feed_17 ?_
    rw [hlen]
    refine lv_iload_n X.x X.b d_R_feed_20 rfl (lv_at hl 2 rfl) ?_
    refine lv_iadd X.x X.b d_R_feed_21 ?_
    rw [nI_add]
    refine lv_bipush (v := nI 120) X.x X.b d_R_feed_22 (by decide) ?_
    refine lv_icmp_le (tgt := 34) X.x X.b d_R_feed_24 (by decide) (fun c24 => ?_) (fun c24 => ?_)
    · have c24 : (len + 3) ≤ 120 := (nI_leI (a := (len + 3)) (b := 120) (by omega) (by omega)).mp c24
      omega
    · have c24 : ¬ (len + 3) ≤ 120 := fun z => c24 ((nI_leI (a := (len + 3)) (b := 120) (by omega) (by omega)).mpr z)
      refine lv_aload_n X.x X.b d_R_feed_27 rfl (lv_at hl 0 rfl) ?_
      refine lv_ldc (v := (-1000002)) X.x X.b X.ow (X.ts _ mw_786) d_R_feed_28 ?_
      refine q_cvi X (c_R_finding_1 l E S ψ (by rw [hψ])) hW (q_recv X hW ds_R rfl) ok_R_finding mw_768 ⟨by decide, by decide⟩ (As := [.int (-1000002)]) rfl rfl (Nat.le_of_ble_eq_true rfl) (lv := [(0, .ref (eA E 70)), (1, .int v), (2, .int (nI 3))]) hl ⟨Nat.le_refl 0, Nat.le_refl 0⟩ d_R_feed_30 (fun H locs hW => ?_)
      have hW : qWH E (qr S 19 (fnR ψ 1)) s H locs := hW
      exact q_zret X rfl hW ⟨rfl, rfl⟩ d_R_feed_33
  · have c6 := b2i_e c6
    have c6 := mt (inR_i (by omega) (by decide)).mpr c6
    omega
set_option maxHeartbeats 1000000 in
set_option maxRecDepth 20000 in
theorem c_R_feed_4 (l : Launch) (E : QE) (S : QM) (υ ξ ψ : Nat → Int32) (hυ : S 15 = υ) (hξ : S 20 = ξ) (hψ : S 19 = ψ) (len : Nat) (hlen : υ 6 = nI len) (hl : len ≤ 120) (v : Int32) (hf : len + 4 ≤ 120) : qCI E l y_R_feed prog_7_method_81_code 4 .int 3 [.ref (eA E 70), .int v, .int (nI 4)] S (nI (len + 4)) (qr (qr S 20 (apS ξ len v 4 0)) 15 (upd υ 6 (nI (len + 4)))) := by
  refine qCI_of (by decide) (Nat.le_of_ble_eq_true rfl) (fun p e s m below meth c ls X hW hl => ?_)
  have hl : lv_has ls 4 [(0, .ref (eA E 70)), (1, .int v), (2, .int (nI 4))] := hl
  refine lv_iload_n X.x X.b d_R_feed_0 rfl (lv_at hl 2 rfl) ?_
  refine lv_iconst (v := nI 1) X.x X.b d_R_feed_1 (by decide) ?_
  refine lv_iconst (v := nI 4) X.x X.b d_R_feed_2 (by decide) ?_
  refine q_csi X (c_R_within l E S (nI 4) (nI 1) (nI 4)) hW ok_R_within mw_757 ⟨by decide, by decide⟩ (As := [.int (nI 4), .int (nI 1), .int (nI 4)]) rfl rfl (Nat.le_of_ble_eq_true rfl) (lv := [(0, .ref (eA E 70)), (1, .int v), (2, .int (nI 4))]) hl ⟨Nat.le_refl 0, Nat.le_refl 0⟩ d_R_feed_3 (fun H locs hW => ?_)
  refine lv_if_ne (tgt := 16) X.x X.b d_R_feed_6 (by decide) (fun c6 => ?_) (fun c6 => ?_)
  · have c6 := b2i_n c6
    have c6 := (inR_i (by omega) (by decide)).mp c6
    refine lv_aload_n X.x X.b d_R_feed_16 rfl (lv_at hl 0 rfl) ?_
    refine g_geti X hW qj4 rfl _ ds_R 6 (by decide) mw_692 rfl (r0 := 15) (p0 := 6) rfl (v := υ 6) (by rw [hυ]) d_R_feed_17 ?_
    rw [hlen]
    refine lv_iload_n X.x X.b d_R_feed_20 rfl (lv_at hl 2 rfl) ?_
    refine lv_iadd X.x X.b d_R_feed_21 ?_
    rw [nI_add]
    refine lv_bipush (v := nI 120) X.x X.b d_R_feed_22 (by decide) ?_
    refine lv_icmp_le (tgt := 34) X.x X.b d_R_feed_24 (by decide) (fun c24 => ?_) (fun c24 => ?_)
    · have c24 : (len + 4) ≤ 120 := (nI_leI (a := (len + 4)) (b := 120) (by omega) (by omega)).mp c24
      refine lv_iload_n X.x X.b d_R_feed_34 rfl (lv_at hl 2 rfl) ?_
      refine lv_iconst (v := nI 1) X.x X.b d_R_feed_35 (by decide) ?_
      refine lv_isub X.x X.b d_R_feed_36 ?_
      rw [show (nI 4) - (nI 1) = nI 3 from by decide]
      refine lv_istore_n (lv' := [(3, .int (nI 3)), (0, .ref (eA E 70)), (1, .int v), (2, .int (nI 4))]) X.x X.b d_R_feed_37 rfl hl (by decide) rfl (fun ls hl => ?_)
      refine lv_iload_n X.x X.b d_R_feed_38 rfl (lv_at hl 0 rfl) ?_
      refine lv_if_lt (tgt := 77) X.x X.b d_R_feed_39 (by decide) (fun c39 => ?_) (fun c39 => ?_)
      · exact absurd c39 (by decide)
      · have c39 : ¬ 3 < 0 := fun z => c39 ((nI_ltI (a := 3) (b := 0) (by omega) (by omega)).mpr z)
        refine lv_aload_n X.x X.b d_R_feed_42 rfl (lv_at hl 1 rfl) ?_
        refine q_getr X hW qj4 rfl _ ds_R 5 (by decide) mw_691 rfl (c1 := 75) rfl d_R_feed_43 ?_
        refine lv_aload_n X.x X.b d_R_feed_46 rfl (lv_at hl 1 rfl) ?_
        refine g_geti X hW qj4 rfl _ ds_R 6 (by decide) mw_692 rfl (r0 := 15) (p0 := 6) rfl (v := υ 6) (by rw [hυ]) d_R_feed_47 ?_
        rw [hlen]
        refine lv_iload_n X.x X.b d_R_feed_50 rfl (lv_at hl 2 rfl) ?_
        refine lv_bipush (v := nI 8) X.x X.b d_R_feed_51 (by decide) ?_
        refine lv_iload_n X.x X.b d_R_feed_53 rfl (lv_at hl 0 rfl) ?_
        refine lv_imul X.x X.b d_R_feed_54 ?_
        rw [show (nI 8) * (nI 3) = nI 24 from by decide]
        refine lv_ishr X.x X.b d_R_feed_55 ?_
        refine lv_sipush (v := nI 255) X.x X.b d_R_feed_56 (by decide) ?_
        refine lv_iand X.x X.b d_R_feed_59 ?_
        rw [byt_3]
        refine g_ast X hW ds_75 (q_in (by omega) (by decide)) (p0 := len) (q_tn (by omega) (by omega)) (ρ := ξ) (by rw [hξ]) d_R_feed_60 (fun H locs hW => ?_)
        refine lv_aload_n X.x X.b d_R_feed_61 rfl (lv_at hl 1 rfl) ?_
        refine lv_dup X.x X.b d_R_feed_62 rfl ?_
        refine g_geti X hW qj4 rfl _ ds_R 6 (by decide) mw_692 rfl (r0 := 15) (p0 := 6) rfl (v := υ 6) (by rw [qr_ne (by omega), hυ]) d_R_feed_63 ?_
        rw [hlen]
        refine lv_iconst (v := nI 1) X.x X.b d_R_feed_66 (by decide) ?_
        refine lv_iadd X.x X.b d_R_feed_67 ?_
        rw [nI_add]
        refine g_puti X hW qj4 qp4 qn4 rfl _ ds_R 6 (by decide) mw_692 rfl rfl (r0 := 15) (p0 := 6) rfl rfl rfl (ρ := υ) (by rw [qr_ne (by omega), hυ]) d_R_feed_68 (fun H locs hW => ?_)
        refine lv_iinc (v := nI 2) (lv' := [(3, .int (nI 2)), (0, .ref (eA E 70)), (1, .int v), (2, .int (nI 4))]) X.x X.b d_R_feed_71 hl (k := 0) rfl (by decide) (by decide) rfl (fun ls hl => ?_)
        refine lv_goto (tgt := 38) X.x X.b d_R_feed_74 (by decide) ?_
        refine lv_iload_n X.x X.b d_R_feed_38 rfl (lv_at hl 0 rfl) ?_
        refine lv_if_lt (tgt := 77) X.x X.b d_R_feed_39 (by decide) (fun c39 => ?_) (fun c39 => ?_)
        · exact absurd c39 (by decide)
        · have c39 : ¬ 2 < 0 := fun z => c39 ((nI_ltI (a := 2) (b := 0) (by omega) (by omega)).mpr z)
          refine lv_aload_n X.x X.b d_R_feed_42 rfl (lv_at hl 1 rfl) ?_
          refine q_getr X hW qj4 rfl _ ds_R 5 (by decide) mw_691 rfl (c1 := 75) rfl d_R_feed_43 ?_
          refine lv_aload_n X.x X.b d_R_feed_46 rfl (lv_at hl 1 rfl) ?_
          refine g_geti X hW qj4 rfl _ ds_R 6 (by decide) mw_692 rfl (r0 := 15) (p0 := 6) rfl (v := (upd υ 6 (nI (len + 1))) 6) (by rw [qr_at]) d_R_feed_47 ?_
          rw [upd_at]
          refine lv_iload_n X.x X.b d_R_feed_50 rfl (lv_at hl 2 rfl) ?_
          refine lv_bipush (v := nI 8) X.x X.b d_R_feed_51 (by decide) ?_
          refine lv_iload_n X.x X.b d_R_feed_53 rfl (lv_at hl 0 rfl) ?_
          refine lv_imul X.x X.b d_R_feed_54 ?_
          rw [show (nI 8) * (nI 2) = nI 16 from by decide]
          refine lv_ishr X.x X.b d_R_feed_55 ?_
          refine lv_sipush (v := nI 255) X.x X.b d_R_feed_56 (by decide) ?_
          refine lv_iand X.x X.b d_R_feed_59 ?_
          rw [byt_2]
          refine g_ast X hW ds_75 (q_in (by omega) (by decide)) (p0 := len + 1) (q_tn (by omega) (by omega)) (ρ := upd ξ len (byt v 3)) (by rw [qr_ne (by omega), qr_at]) d_R_feed_60 (fun H locs hW => ?_)
          rw [qr_in (by omega)] at hW
          refine lv_aload_n X.x X.b d_R_feed_61 rfl (lv_at hl 1 rfl) ?_
          refine lv_dup X.x X.b d_R_feed_62 rfl ?_
          refine g_geti X hW qj4 rfl _ ds_R 6 (by decide) mw_692 rfl (r0 := 15) (p0 := 6) rfl (v := (upd υ 6 (nI (len + 1))) 6) (by rw [qr_at]) d_R_feed_63 ?_
          rw [upd_at]
          refine lv_iconst (v := nI 1) X.x X.b d_R_feed_66 (by decide) ?_
          refine lv_iadd X.x X.b d_R_feed_67 ?_
          rw [nI_add]
          refine g_puti X hW qj4 qp4 qn4 rfl _ ds_R 6 (by decide) mw_692 rfl rfl (r0 := 15) (p0 := 6) rfl rfl rfl (ρ := upd υ 6 (nI (len + 1))) (by rw [qr_at]) d_R_feed_68 (fun H locs hW => ?_)
          rw [qr_qr] at hW
          rw [upd_upd] at hW
          refine lv_iinc (v := nI 1) (lv' := [(3, .int (nI 1)), (0, .ref (eA E 70)), (1, .int v), (2, .int (nI 4))]) X.x X.b d_R_feed_71 hl (k := 0) rfl (by decide) (by decide) rfl (fun ls hl => ?_)
          refine lv_goto (tgt := 38) X.x X.b d_R_feed_74 (by decide) ?_
          refine lv_iload_n X.x X.b d_R_feed_38 rfl (lv_at hl 0 rfl) ?_
          refine lv_if_lt (tgt := 77) X.x X.b d_R_feed_39 (by decide) (fun c39 => ?_) (fun c39 => ?_)
          · exact absurd c39 (by decide)
          · have c39 : ¬ 1 < 0 := fun z => c39 ((nI_ltI (a := 1) (b := 0) (by omega) (by omega)).mpr z)
            refine lv_aload_n X.x X.b d_R_feed_42 rfl (lv_at hl 1 rfl) ?_
            refine q_getr X hW qj4 rfl _ ds_R 5 (by decide) mw_691 rfl (c1 := 75) rfl d_R_feed_43 ?_
            refine lv_aload_n X.x X.b d_R_feed_46 rfl (lv_at hl 1 rfl) ?_
            refine g_geti X hW qj4 rfl _ ds_R 6 (by decide) mw_692 rfl (r0 := 15) (p0 := 6) rfl (v := (upd υ 6 (nI (len + 1 + 1))) 6) (by rw [qr_at]) d_R_feed_47 ?_
            rw [upd_at]
            refine lv_iload_n X.x X.b d_R_feed_50 rfl (lv_at hl 2 rfl) ?_
            refine lv_bipush (v := nI 8) X.x X.b d_R_feed_51 (by decide) ?_
            refine lv_iload_n X.x X.b d_R_feed_53 rfl (lv_at hl 0 rfl) ?_
            refine lv_imul X.x X.b d_R_feed_54 ?_
            rw [show (nI 8) * (nI 1) = nI 8 from by decide]
            refine lv_ishr X.x X.b d_R_feed_55 ?_
            refine lv_sipush (v := nI 255) X.x X.b d_R_feed_56 (by decide) ?_
            refine lv_iand X.x X.b d_R_feed_59 ?_
            rw [byt_1]
            refine g_ast X hW ds_75 (q_in (by omega) (by decide)) (p0 := len + 1 + 1) (q_tn (by omega) (by omega)) (ρ := upd (upd ξ len (byt v 3)) (len + 1) (byt v 2)) (by rw [qr_ne (by omega), qr_at]) d_R_feed_60 (fun H locs hW => ?_)
            rw [qr_in (by omega)] at hW
            refine lv_aload_n X.x X.b d_R_feed_61 rfl (lv_at hl 1 rfl) ?_
            refine lv_dup X.x X.b d_R_feed_62 rfl ?_
            refine g_geti X hW qj4 rfl _ ds_R 6 (by decide) mw_692 rfl (r0 := 15) (p0 := 6) rfl (v := (upd υ 6 (nI (len + 1 + 1))) 6) (by rw [qr_at]) d_R_feed_63 ?_
            rw [upd_at]
            refine lv_iconst (v := nI 1) X.x X.b d_R_feed_66 (by decide) ?_
            refine lv_iadd X.x X.b d_R_feed_67 ?_
            rw [nI_add]
            refine g_puti X hW qj4 qp4 qn4 rfl _ ds_R 6 (by decide) mw_692 rfl rfl (r0 := 15) (p0 := 6) rfl rfl rfl (ρ := upd υ 6 (nI (len + 1 + 1))) (by rw [qr_at]) d_R_feed_68 (fun H locs hW => ?_)
            rw [qr_qr] at hW
            rw [upd_upd] at hW
            refine lv_iinc (v := nI 0) (lv' := [(3, .int (nI 0)), (0, .ref (eA E 70)), (1, .int v), (2, .int (nI 4))]) X.x X.b d_R_feed_71 hl (k := 0) rfl (by decide) (by decide) rfl (fun ls hl => ?_)
            refine lv_goto (tgt := 38) X.x X.b d_R_feed_74 (by decide) ?_
            refine lv_iload_n X.x X.b d_R_feed_38 rfl (lv_at hl 0 rfl) ?_
            refine lv_if_lt (tgt := 77) X.x X.b d_R_feed_39 (by decide) (fun c39 => ?_) (fun c39 => ?_)
            · exact absurd c39 (by decide)
            · have c39 : ¬ 0 < 0 := fun z => c39 ((nI_ltI (a := 0) (b := 0) (by omega) (by omega)).mpr z)
              refine lv_aload_n X.x X.b d_R_feed_42 rfl (lv_at hl 1 rfl) ?_
              refine q_getr X hW qj4 rfl _ ds_R 5 (by decide) mw_691 rfl (c1 := 75) rfl d_R_feed_43 ?_
              refine lv_aload_n X.x X.b d_R_feed_46 rfl (lv_at hl 1 rfl) ?_
              refine g_geti X hW qj4 rfl _ ds_R 6 (by decide) mw_692 rfl (r0 := 15) (p0 := 6) rfl (v := (upd υ 6 (nI (len + 1 + 1 + 1))) 6) (by rw [qr_at]) d_R_feed_47 ?_
              rw [upd_at]
              refine lv_iload_n X.x X.b d_R_feed_50 rfl (lv_at hl 2 rfl) ?_
              refine lv_bipush (v := nI 8) X.x X.b d_R_feed_51 (by decide) ?_
              refine lv_iload_n X.x X.b d_R_feed_53 rfl (lv_at hl 0 rfl) ?_
              refine lv_imul X.x X.b d_R_feed_54 ?_
              rw [show (nI 8) * (nI 0) = nI 0 from by decide]
              refine lv_ishr X.x X.b d_R_feed_55 ?_
              refine lv_sipush (v := nI 255) X.x X.b d_R_feed_56 (by decide) ?_
              refine lv_iand X.x X.b d_R_feed_59 ?_
              rw [byt_0]
              refine g_ast X hW ds_75 (q_in (by omega) (by decide)) (p0 := len + 1 + 1 + 1) (q_tn (by omega) (by omega)) (ρ := upd (upd (upd ξ len (byt v 3)) (len + 1) (byt v 2)) (len + 1 + 1) (byt v 1)) (by rw [qr_ne (by omega), qr_at]) d_R_feed_60 (fun H locs hW => ?_)
              rw [qr_in (by omega)] at hW
              refine lv_aload_n X.x X.b d_R_feed_61 rfl (lv_at hl 1 rfl) ?_
              refine lv_dup X.x X.b d_R_feed_62 rfl ?_
              refine g_geti X hW qj4 rfl _ ds_R 6 (by decide) mw_692 rfl (r0 := 15) (p0 := 6) rfl (v := (upd υ 6 (nI (len + 1 + 1 + 1))) 6) (by rw [qr_at]) d_R_feed_63 ?_
              rw [upd_at]
              refine lv_iconst (v := nI 1) X.x X.b d_R_feed_66 (by decide) ?_
              refine lv_iadd X.x X.b d_R_feed_67 ?_
              rw [nI_add]
              refine g_puti X hW qj4 qp4 qn4 rfl _ ds_R 6 (by decide) mw_692 rfl rfl (r0 := 15) (p0 := 6) rfl rfl rfl (ρ := upd υ 6 (nI (len + 1 + 1 + 1))) (by rw [qr_at]) d_R_feed_68 (fun H locs hW => ?_)
              rw [qr_qr] at hW
              rw [upd_upd] at hW
              refine lv_iinc (v := (-1)) (lv' := [(3, .int (-1)), (0, .ref (eA E 70)), (1, .int v), (2, .int (nI 4))]) X.x X.b d_R_feed_71 hl (k := 0) rfl (by decide) (by decide) rfl (fun ls hl => ?_)
              refine lv_goto (tgt := 38) X.x X.b d_R_feed_74 (by decide) ?_
              refine lv_iload_n X.x X.b d_R_feed_38 rfl (lv_at hl 0 rfl) ?_
              refine lv_if_lt (tgt := 77) X.x X.b d_R_feed_39 (by decide) (fun c39 => ?_) (fun c39 => ?_)
              · refine lv_aload_n X.x X.b d_R_feed_77 rfl (lv_at hl 1 rfl) ?_
                refine g_geti X hW qj4 rfl _ ds_R 6 (by decide) mw_692 rfl (r0 := 15) (p0 := 6) rfl (v := (upd υ 6 (nI (len + 1 + 1 + 1 + 1))) 6) (by rw [qr_at]) d_R_feed_78 ?_
                rw [upd_at]
                exact q_zret X rfl hW ⟨rfl, rfl⟩ d_R_feed_81
              · exact absurd (by decide) c39
    · have c24 : ¬ (len + 4) ≤ 120 := fun z => c24 ((nI_leI (a := (len + 4)) (b := 120) (by omega) (by omega)).mpr z)
      omega
  · have c6 := b2i_e c6
    have c6 := mt (inR_i (by omega) (by decide)).mpr c6
    omega
set_option maxHeartbeats 1000000 in
set_option maxRecDepth 20000 in
theorem c_R_feed_f4 (l : Launch) (E : QE) (S : QM) (υ ξ ψ : Nat → Int32) (hυ : S 15 = υ) (hξ : S 20 = ξ) (hψ : S 19 = ψ) (len : Nat) (hlen : υ 6 = nI len) (hl : len ≤ 120) (v : Int32) (hf : ¬ len + 4 ≤ 120) : qCI E l y_R_feed prog_7_method_81_code 4 .int 3 [.ref (eA E 70), .int v, .int (nI 4)] S (-1000002) (qr S 19 (fnR ψ 1)) := by
  refine qCI_of (by decide) (Nat.le_of_ble_eq_true rfl) (fun p e s m below meth c ls X hW hl => ?_)
  have hl : lv_has ls 4 [(0, .ref (eA E 70)), (1, .int v), (2, .int (nI 4))] := hl
  refine lv_iload_n X.x X.b d_R_feed_0 rfl (lv_at hl 2 rfl) ?_
  refine lv_iconst (v := nI 1) X.x X.b d_R_feed_1 (by decide) ?_
  refine lv_iconst (v := nI 4) X.x X.b d_R_feed_2 (by decide) ?_
  refine q_csi X (c_R_within l E S (nI 4) (nI 1) (nI 4)) hW ok_R_within mw_757 ⟨by decide, by decide⟩ (As := [.int (nI 4), .int (nI 1), .int (nI 4)]) rfl rfl (Nat.le_of_ble_eq_true rfl) (lv := [(0, .ref (eA E 70)), (1, .int v), (2, .int (nI 4))]) hl ⟨Nat.le_refl 0, Nat.le_refl 0⟩ d_R_feed_3 (fun H locs hW => ?_)
  refine lv_if_ne (tgt := 16) X.x X.b d_R_feed_6 (by decide) (fun c6 => ?_) (fun c6 => ?_)
  · have c6 := b2i_n c6
    have c6 := (inR_i (by omega) (by decide)).mp c6
    refine lv_aload_n X.x X.b d_R_feed_16 rfl (lv_at hl 0 rfl) ?_
    refine g_geti X hW qj4 rfl _ ds_R 6 (by decide) mw_692 rfl (r0 := 15) (p0 := 6) rfl (v := υ 6) (by rw [hυ]) d_R_feed_17 ?_
    rw [hlen]
    refine lv_iload_n X.x X.b d_R_feed_20 rfl (lv_at hl 2 rfl) ?_
    refine lv_iadd X.x X.b d_R_feed_21 ?_
    rw [nI_add]
    refine lv_bipush (v := nI 120) X.x X.b d_R_feed_22 (by decide) ?_
    refine lv_icmp_le (tgt := 34) X.x X.b d_R_feed_24 (by decide) (fun c24 => ?_) (fun c24 => ?_)
    · have c24 : (len + 4) ≤ 120 := (nI_leI (a := (len + 4)) (b := 120) (by omega) (by omega)).mp c24
      omega
    · have c24 : ¬ (len + 4) ≤ 120 := fun z => c24 ((nI_leI (a := (len + 4)) (b := 120) (by omega) (by omega)).mpr z)
      refine lv_aload_n X.x X.b d_R_feed_27 rfl (lv_at hl 0 rfl) ?_
      refine lv_ldc (v := (-1000002)) X.x X.b X.ow (X.ts _ mw_786) d_R_feed_28 ?_
      refine q_cvi X (c_R_finding_1 l E S ψ (by rw [hψ])) hW (q_recv X hW ds_R rfl) ok_R_finding mw_768 ⟨by decide, by decide⟩ (As := [.int (-1000002)]) rfl rfl (Nat.le_of_ble_eq_true rfl) (lv := [(0, .ref (eA E 70)), (1, .int v), (2, .int (nI 4))]) hl ⟨Nat.le_refl 0, Nat.le_refl 0⟩ d_R_feed_30 (fun H locs hW => ?_)
      have hW : qWH E (qr S 19 (fnR ψ 1)) s H locs := hW
      exact q_zret X rfl hW ⟨rfl, rfl⟩ d_R_feed_33
  · have c6 := b2i_e c6
    have c6 := mt (inR_i (by omega) (by decide)).mpr c6
    omega
set_option maxHeartbeats 1000000 in
set_option maxRecDepth 20000 in
theorem c_R_feed_b (l : Launch) (E : QE) (S : QM) (υ ξ ψ : Nat → Int32) (hυ : S 15 = υ) (hξ : S 20 = ξ) (hψ : S 19 = ψ) (v x : Int32) (h : ¬ inR 1 4 x) : qCI E l y_R_feed prog_7_method_81_code 4 .int 3 [.ref (eA E 70), .int v, .int x] S (-1000001) (qr S 19 (fnR ψ 0)) := by
  refine qCI_of (by decide) (Nat.le_of_ble_eq_true rfl) (fun p e s m below meth c ls X hW hl => ?_)
  have hl : lv_has ls 4 [(0, .ref (eA E 70)), (1, .int v), (2, .int x)] := hl
  refine lv_iload_n X.x X.b d_R_feed_0 rfl (lv_at hl 2 rfl) ?_
  refine lv_iconst (v := nI 1) X.x X.b d_R_feed_1 (by decide) ?_
  refine lv_iconst (v := nI 4) X.x X.b d_R_feed_2 (by decide) ?_
  refine q_csi X (c_R_within l E S x (nI 1) (nI 4)) hW ok_R_within mw_757 ⟨by decide, by decide⟩ (As := [.int x, .int (nI 1), .int (nI 4)]) rfl rfl (Nat.le_of_ble_eq_true rfl) (lv := [(0, .ref (eA E 70)), (1, .int v), (2, .int x)]) hl ⟨Nat.le_refl 0, Nat.le_refl 0⟩ d_R_feed_3 (fun H locs hW => ?_)
  refine lv_if_ne (tgt := 16) X.x X.b d_R_feed_6 (by decide) (fun c6 => ?_) (fun c6 => ?_)
  · have c6 := b2i_n c6
    exact absurd c6 h
  · have c6 := b2i_e c6
    refine lv_aload_n X.x X.b d_R_feed_9 rfl (lv_at hl 0 rfl) ?_
    refine lv_ldc (v := (-1000001)) X.x X.b X.ow (X.ts _ mw_767) d_R_feed_10 ?_
    refine q_cvi X (c_R_finding_0 l E S ψ (by rw [hψ])) hW (q_recv X hW ds_R rfl) ok_R_finding mw_768 ⟨by decide, by decide⟩ (As := [.int (-1000001)]) rfl rfl (Nat.le_of_ble_eq_true rfl) (lv := [(0, .ref (eA E 70)), (1, .int v), (2, .int x)]) hl ⟨Nat.le_refl 0, Nat.le_refl 0⟩ d_R_feed_12 (fun H locs hW => ?_)
    have hW : qWH E (qr S 19 (fnR ψ 0)) s H locs := hW
    exact q_zret X rfl hW ⟨rfl, rfl⟩ d_R_feed_15
set_option maxHeartbeats 1000000 in
set_option maxRecDepth 20000 in
theorem c_R_wipe (l : Launch) (E : QE) (S : QM) (υ ξ ψ : Nat → Int32) (hυ : S 15 = υ) (hξ : S 20 = ξ) (hψ : S 19 = ψ)  : qCI E l y_R_wipe prog_7_method_82_code 2 .int 1 [.ref (eA E 70)] S (υ 6) (qr S 15 (upd υ 6 (nI 0))) := by
  refine qCI_of (by decide) (Nat.le_of_ble_eq_true rfl) (fun p e s m below meth c ls X hW hl => ?_)
  have hl : lv_has ls 2 [(0, .ref (eA E 70))] := hl
  refine lv_aload_n X.x X.b d_R_wipe_0 rfl (lv_at hl 0 rfl) ?_
  refine g_geti X hW qj4 rfl _ ds_R 6 (by decide) mw_692 rfl (r0 := 15) (p0 := 6) rfl (v := υ 6) (by rw [hυ]) d_R_wipe_1 ?_
  refine lv_istore_n (lv' := [(1, .int (υ 6)), (0, .ref (eA E 70))]) X.x X.b d_R_wipe_4 rfl hl (by decide) rfl (fun ls hl => ?_)
  refine lv_aload_n X.x X.b d_R_wipe_5 rfl (lv_at hl 1 rfl) ?_
  refine lv_iconst (v := nI 0) X.x X.b d_R_wipe_6 (by decide) ?_
  refine g_puti X hW qj4 qp4 qn4 rfl _ ds_R 6 (by decide) mw_692 rfl rfl (r0 := 15) (p0 := 6) rfl rfl rfl (ρ := υ) (by rw [hυ]) d_R_wipe_7 (fun H locs hW => ?_)
  obtain ⟨r7, er7⟩ : ∃ z, z = upd υ 6 (nI 0) := ⟨_, rfl⟩
  rw [← er7] at hW
  refine lv_iload_n X.x X.b d_R_wipe_10 rfl (lv_at hl 0 rfl) ?_
  exact q_zret X rfl hW ⟨rfl, by rw [er7]⟩ d_R_wipe_11
set_option maxHeartbeats 1000000 in
set_option maxRecDepth 20000 in
theorem c_R_image (l : Launch) (E : QE) (S : QM) (υ ξ ψ : Nat → Int32) (hυ : S 15 = υ) (hξ : S 20 = ξ) (hψ : S 19 = ψ) (ν κ : Nat → Int32) (hν : S 16 = ν) (hκ : S 17 = κ)  : qCI E l y_R_image prog_7_method_107_code 1 .int 2 [.ref (eA E 70)] S (nI 1) (qr (qr S 17 (c80 ν κ 80)) 15 (upd υ 3 (nI 1))) := by
  refine qCI_of (by decide) (Nat.le_of_ble_eq_true rfl) (fun p e s m below meth c ls X hW hl => ?_)
  have hl : lv_has ls 1 [(0, .ref (eA E 70))] := hl
  refine lv_aload_n X.x X.b d_R_image_0 rfl (lv_at hl 0 rfl) ?_
  refine q_getr X hW qj4 rfl _ ds_R 0 (by decide) mw_686 rfl (c1 := 71) rfl d_R_image_1 ?_
  refine lv_aload_n X.x X.b d_R_image_4 rfl (lv_at hl 0 rfl) ?_
  refine q_getr X hW qj4 rfl _ ds_R 1 (by decide) mw_687 rfl (c1 := 72) rfl d_R_image_5 ?_
  refine q_csv X (c_R_copyRow_nk l E S ν κ (by rw [hν]) (by rw [hκ])) hW ok_R_copyRow mw_959 ⟨by decide, by decide⟩ (As := [.ref (eA E 71), .ref (eA E 72)]) rfl rfl (Nat.le_of_ble_eq_true rfl) (lv := [(0, .ref (eA E 70))]) hl ⟨Nat.le_refl 0, Nat.le_refl 0⟩ d_R_image_8 (fun H locs hW => ?_)
  have hW : qWH E (qr S 17 (c80 ν κ 80)) s H locs := hW
  refine lv_aload_n X.x X.b d_R_image_11 rfl (lv_at hl 0 rfl) ?_
  refine lv_iconst (v := nI 1) X.x X.b d_R_image_12 (by decide) ?_
  refine g_puti X hW qj4 qp4 qn4 rfl _ ds_R 3 (by decide) mw_689 rfl rfl (r0 := 15) (p0 := 3) rfl (by decide) (by decide) (ρ := υ) (by rw [qr_ne (by omega), hυ]) d_R_image_13 (fun H locs hW => ?_)
  obtain ⟨r13, er13⟩ : ∃ z, z = upd υ 3 (nI 1) := ⟨_, rfl⟩
  rw [← er13] at hW
  refine lv_iconst (v := nI 1) X.x X.b d_R_image_16 (by decide) ?_
  exact q_zret X rfl hW ⟨rfl, by rw [er13]⟩ d_R_image_17
set_option maxHeartbeats 1000000 in
set_option maxRecDepth 20000 in
theorem c_R_undo_g (l : Launch) (E : QE) (S : QM) (υ ξ ψ : Nat → Int32) (hυ : S 15 = υ) (hξ : S 20 = ξ) (hψ : S 19 = ψ) (ν κ : Nat → Int32) (hν : S 16 = ν) (hκ : S 17 = κ) (hk : ¬ υ 3 = 0) : qCI E l y_R_undo prog_7_method_108_code 1 .int 2 [.ref (eA E 70)] S (κ 0) (qr S 16 (c80 κ ν 80)) := by
  refine qCI_of (by decide) (Nat.le_of_ble_eq_true rfl) (fun p e s m below meth c ls X hW hl => ?_)
  have hl : lv_has ls 1 [(0, .ref (eA E 70))] := hl
  refine lv_aload_n X.x X.b d_R_undo_0 rfl (lv_at hl 0 rfl) ?_
  refine g_geti X hW qj4 rfl _ ds_R 3 (by decide) mw_689 rfl (r0 := 15) (p0 := 3) rfl (v := υ 3) (by rw [hυ]) d_R_undo_1 ?_
  refine lv_if_ne (tgt := 14) X.x X.b d_R_undo_4 (by decide) (fun c4 => ?_) (fun c4 => ?_)
  · refine lv_aload_n X.x X.b d_R_undo_14 rfl (lv_at hl 0 rfl) ?_
    refine q_getr X hW qj4 rfl _ ds_R 1 (by decide) mw_687 rfl (c1 := 72) rfl d_R_undo_15 ?_
    refine lv_aload_n X.x X.b d_R_undo_18 rfl (lv_at hl 0 rfl) ?_
    refine q_getr X hW qj4 rfl _ ds_R 0 (by decide) mw_686 rfl (c1 := 71) rfl d_R_undo_19 ?_
    refine q_csv X (c_R_copyRow_kn l E S κ ν (by rw [hκ]) (by rw [hν])) hW ok_R_copyRow mw_959 ⟨by decide, by decide⟩ (As := [.ref (eA E 72), .ref (eA E 71)]) rfl rfl (Nat.le_of_ble_eq_true rfl) (lv := [(0, .ref (eA E 70))]) hl ⟨Nat.le_refl 0, Nat.le_refl 0⟩ d_R_undo_22 (fun H locs hW => ?_)
    have hW : qWH E (qr S 16 (c80 κ ν 80)) s H locs := hW
    refine lv_aload_n X.x X.b d_R_undo_25 rfl (lv_at hl 0 rfl) ?_
    refine q_getr X hW qj4 rfl _ ds_R 0 (by decide) mw_686 rfl (c1 := 71) rfl d_R_undo_26 ?_
    refine lv_iconst (v := nI 0) X.x X.b d_R_undo_29 (by decide) ?_
    refine g_ald X hW ds_71 (q_in (by omega) (by decide)) (p0 := 0) (q_tn (by omega) (by omega)) (v := (c80 κ ν 80) 0) (by rw [qr_at]) d_R_undo_30 ?_
    exact q_zret X rfl hW ⟨rfl, rfl⟩ d_R_undo_31
  · exact absurd c4 hk
set_option maxHeartbeats 1000000 in
set_option maxRecDepth 20000 in
theorem c_R_undo_n (l : Launch) (E : QE) (S : QM) (υ ξ ψ : Nat → Int32) (hυ : S 15 = υ) (hξ : S 20 = ξ) (hψ : S 19 = ψ) (ν κ : Nat → Int32) (hν : S 16 = ν) (hκ : S 17 = κ) (hk : υ 3 = 0) : qCI E l y_R_undo prog_7_method_108_code 1 .int 2 [.ref (eA E 70)] S (-1000004) (qr S 19 (fnR ψ 3)) := by
  refine qCI_of (by decide) (Nat.le_of_ble_eq_true rfl) (fun p e s m below meth c ls X hW hl => ?_)
  have hl : lv_has ls 1 [(0, .ref (eA E 70))] := hl
  refine lv_aload_n X.x X.b d_R_undo_0 rfl (lv_at hl 0 rfl) ?_
  refine g_geti X hW qj4 rfl _ ds_R 3 (by decide) mw_689 rfl (r0 := 15) (p0 := 3) rfl (v := υ 3) (by rw [hυ]) d_R_undo_1 ?_
  refine lv_if_ne (tgt := 14) X.x X.b d_R_undo_4 (by decide) (fun c4 => ?_) (fun c4 => ?_)
  · exact absurd hk c4
  · refine lv_aload_n X.x X.b d_R_undo_7 rfl (lv_at hl 0 rfl) ?_
    refine lv_ldc (v := (-1000004)) X.x X.b X.ow (X.ts _ mw_978) d_R_undo_8 ?_
    refine q_cvi X (c_R_finding_3 l E S ψ (by rw [hψ])) hW (q_recv X hW ds_R rfl) ok_R_finding mw_768 ⟨by decide, by decide⟩ (As := [.int (-1000004)]) rfl rfl (Nat.le_of_ble_eq_true rfl) (lv := [(0, .ref (eA E 70))]) hl ⟨Nat.le_refl 0, Nat.le_refl 0⟩ d_R_undo_10 (fun H locs hW => ?_)
    have hW : qWH E (qr S 19 (fnR ψ 3)) s H locs := hW
    exact q_zret X rfl hW ⟨rfl, rfl⟩ d_R_undo_13
set_option maxHeartbeats 1000000 in
set_option maxRecDepth 20000 in
theorem c_R_tear_g (l : Launch) (E : QE) (S : QM) (υ ξ ψ : Nat → Int32) (hυ : S 15 = υ) (hξ : S 20 = ξ) (hψ : S 19 = ψ) (hk : ¬ υ 3 = 0) : qCI E l y_R_tear prog_7_method_109_code 2 .int 1 [.ref (eA E 70)] S (nI 1) (qr S 15 (upd υ 3 (nI 0))) := by
  refine qCI_of (by decide) (Nat.le_of_ble_eq_true rfl) (fun p e s m below meth c ls X hW hl => ?_)
  have hl : lv_has ls 2 [(0, .ref (eA E 70))] := hl
  refine lv_aload_n X.x X.b d_R_tear_0 rfl (lv_at hl 0 rfl) ?_
  refine g_geti X hW qj4 rfl _ ds_R 3 (by decide) mw_689 rfl (r0 := 15) (p0 := 3) rfl (v := υ 3) (by rw [hυ]) d_R_tear_1 ?_
  refine lv_if_eq (tgt := 11) X.x X.b d_R_tear_4 (by decide) (fun c4 => ?_) (fun c4 => ?_)
  · exact absurd c4 hk
  · refine lv_iconst (v := nI 1) X.x X.b d_R_tear_7 (by decide) ?_
    refine lv_goto (tgt := 12) X.x X.b d_R_tear_8 (by decide) ?_
    refine lv_istore_n (lv' := [(1, .int (nI 1)), (0, .ref (eA E 70))]) X.x X.b d_R_tear_12 rfl hl (by decide) rfl (fun ls hl => ?_)
    refine lv_aload_n X.x X.b d_R_tear_13 rfl (lv_at hl 1 rfl) ?_
    refine lv_iconst (v := nI 0) X.x X.b d_R_tear_14 (by decide) ?_
    refine g_puti X hW qj4 qp4 qn4 rfl _ ds_R 3 (by decide) mw_689 rfl rfl (r0 := 15) (p0 := 3) rfl (by decide) (by decide) (ρ := υ) (by rw [hυ]) d_R_tear_15 (fun H locs hW => ?_)
    obtain ⟨r15, er15⟩ : ∃ z, z = upd υ 3 (nI 0) := ⟨_, rfl⟩
    rw [← er15] at hW
    refine lv_iload_n X.x X.b d_R_tear_18 rfl (lv_at hl 0 rfl) ?_
    exact q_zret X rfl hW ⟨rfl, by rw [er15]⟩ d_R_tear_19
set_option maxHeartbeats 1000000 in
set_option maxRecDepth 20000 in
theorem c_R_tear_n (l : Launch) (E : QE) (S : QM) (υ ξ ψ : Nat → Int32) (hυ : S 15 = υ) (hξ : S 20 = ξ) (hψ : S 19 = ψ) (hk : υ 3 = 0) : qCI E l y_R_tear prog_7_method_109_code 2 .int 1 [.ref (eA E 70)] S (nI 0) (qr S 15 (upd υ 3 (nI 0))) := by
  refine qCI_of (by decide) (Nat.le_of_ble_eq_true rfl) (fun p e s m below meth c ls X hW hl => ?_)
  have hl : lv_has ls 2 [(0, .ref (eA E 70))] := hl
  refine lv_aload_n X.x X.b d_R_tear_0 rfl (lv_at hl 0 rfl) ?_
  refine g_geti X hW qj4 rfl _ ds_R 3 (by decide) mw_689 rfl (r0 := 15) (p0 := 3) rfl (v := υ 3) (by rw [hυ]) d_R_tear_1 ?_
  refine lv_if_eq (tgt := 11) X.x X.b d_R_tear_4 (by decide) (fun c4 => ?_) (fun c4 => ?_)
  · refine lv_iconst (v := nI 0) X.x X.b d_R_tear_11 (by decide) ?_
    refine lv_istore_n (lv' := [(1, .int (nI 0)), (0, .ref (eA E 70))]) X.x X.b d_R_tear_12 rfl hl (by decide) rfl (fun ls hl => ?_)
    refine lv_aload_n X.x X.b d_R_tear_13 rfl (lv_at hl 1 rfl) ?_
    refine lv_iconst (v := nI 0) X.x X.b d_R_tear_14 (by decide) ?_
    refine g_puti X hW qj4 qp4 qn4 rfl _ ds_R 3 (by decide) mw_689 rfl rfl (r0 := 15) (p0 := 3) rfl (by decide) (by decide) (ρ := υ) (by rw [hυ]) d_R_tear_15 (fun H locs hW => ?_)
    obtain ⟨r15, er15⟩ : ∃ z, z = upd υ 3 (nI 0) := ⟨_, rfl⟩
    rw [← er15] at hW
    refine lv_iload_n X.x X.b d_R_tear_18 rfl (lv_at hl 0 rfl) ?_
    exact q_zret X rfl hW ⟨rfl, by rw [er15]⟩ d_R_tear_19
  · exact absurd hk c4
set_option maxHeartbeats 1000000 in
set_option maxRecDepth 20000 in
theorem c_R_count_0 (l : Launch) (E : QE) (S : QM) (ν : Nat → Int32) (hν : S 16 = ν) (hwf : WF ν) (υ : Nat → Int32) (hυ : S 15 = υ) : qCI E l y_R_count prog_7_method_110_code 4 .int 4 [.ref (eA E 70), .int (nI 0)] S (ν 0) S := by
  refine qCI_of (by decide) (Nat.le_of_ble_eq_true rfl) (fun p e s m below meth c ls X hW hl => ?_)
  have hl : lv_has ls 4 [(0, .ref (eA E 70)), (1, .int (nI 0))] := hl
  have htl := hwf.tl
  have hwl := hwf.wl
  have hdl := hwf.dl
  refine lv_iconst (v := nI 0) X.x X.b d_R_count_0 (by decide) ?_
  refine lv_istore_n (lv' := [(2, .int (nI 0)), (0, .ref (eA E 70)), (1, .int (nI 0))]) X.x X.b d_R_count_1 rfl hl (by decide) rfl (fun ls hl => ?_)
  refine lv_iload_n X.x X.b d_R_count_2 rfl (lv_at hl 2 rfl) ?_
  refine lv_tableIn (tgt := 48) (off := 45) X.x X.b d_R_count_3 (by decide) (by decide) (by decide) (by decide) ?_
  refine lv_aload_n X.x X.b d_R_count_48 rfl (lv_at hl 1 rfl) ?_
  refine q_getr X hW qj4 rfl _ ds_R 0 (by decide) mw_686 rfl (c1 := 71) rfl d_R_count_49 ?_
  refine lv_iconst (v := nI 0) X.x X.b d_R_count_52 (by decide) ?_
  refine g_ald X hW ds_71 (q_in (by omega) (by decide)) (p0 := 0) (q_tn (by omega) (by omega)) (v := ν 0) (by rw [hν]) d_R_count_53 ?_
  exact q_zret X rfl hW ⟨rfl, rfl⟩ d_R_count_54
set_option maxHeartbeats 1000000 in
set_option maxRecDepth 20000 in
theorem c_R_count_1 (l : Launch) (E : QE) (S : QM) (ν : Nat → Int32) (hν : S 16 = ν) (hwf : WF ν) (υ : Nat → Int32) (hυ : S 15 = υ) : qCI E l y_R_count prog_7_method_110_code 4 .int 4 [.ref (eA E 70), .int (nI 1)] S (ν 1) S := by
  refine qCI_of (by decide) (Nat.le_of_ble_eq_true rfl) (fun p e s m below meth c ls X hW hl => ?_)
  have hl : lv_has ls 4 [(0, .ref (eA E 70)), (1, .int (nI 1))] := hl
  have htl := hwf.tl
  have hwl := hwf.wl
  have hdl := hwf.dl
  refine lv_iconst (v := nI 0) X.x X.b d_R_count_0 (by decide) ?_
  refine lv_istore_n (lv' := [(2, .int (nI 0)), (0, .ref (eA E 70)), (1, .int (nI 1))]) X.x X.b d_R_count_1 rfl hl (by decide) rfl (fun ls hl => ?_)
  refine lv_iload_n X.x X.b d_R_count_2 rfl (lv_at hl 2 rfl) ?_
  refine lv_tableIn (tgt := 55) (off := 52) X.x X.b d_R_count_3 (by decide) (by decide) (by decide) (by decide) ?_
  refine lv_aload_n X.x X.b d_R_count_55 rfl (lv_at hl 1 rfl) ?_
  refine q_getr X hW qj4 rfl _ ds_R 0 (by decide) mw_686 rfl (c1 := 71) rfl d_R_count_56 ?_
  refine lv_iconst (v := nI 1) X.x X.b d_R_count_59 (by decide) ?_
  refine g_ald X hW ds_71 (q_in (by omega) (by decide)) (p0 := 1) (q_tn (by omega) (by omega)) (v := ν 1) (by rw [hν]) d_R_count_60 ?_
  exact q_zret X rfl hW ⟨rfl, rfl⟩ d_R_count_61
set_option maxHeartbeats 1000000 in
set_option maxRecDepth 20000 in
theorem c_R_count_2 (l : Launch) (E : QE) (S : QM) (ν : Nat → Int32) (hν : S 16 = ν) (hwf : WF ν) (υ : Nat → Int32) (hυ : S 15 = υ) : qCI E l y_R_count prog_7_method_110_code 4 .int 4 [.ref (eA E 70), .int (nI 2)] S (ν 3) S := by
  refine qCI_of (by decide) (Nat.le_of_ble_eq_true rfl) (fun p e s m below meth c ls X hW hl => ?_)
  have hl : lv_has ls 4 [(0, .ref (eA E 70)), (1, .int (nI 2))] := hl
  have htl := hwf.tl
  have hwl := hwf.wl
  have hdl := hwf.dl
  refine lv_iconst (v := nI 0) X.x X.b d_R_count_0 (by decide) ?_
  refine lv_istore_n (lv' := [(2, .int (nI 0)), (0, .ref (eA E 70)), (1, .int (nI 2))]) X.x X.b d_R_count_1 rfl hl (by decide) rfl (fun ls hl => ?_)
  refine lv_iload_n X.x X.b d_R_count_2 rfl (lv_at hl 2 rfl) ?_
  refine lv_tableIn (tgt := 62) (off := 59) X.x X.b d_R_count_3 (by decide) (by decide) (by decide) (by decide) ?_
  refine lv_aload_n X.x X.b d_R_count_62 rfl (lv_at hl 1 rfl) ?_
  refine q_getr X hW qj4 rfl _ ds_R 0 (by decide) mw_686 rfl (c1 := 71) rfl d_R_count_63 ?_
  refine lv_iconst (v := nI 3) X.x X.b d_R_count_66 (by decide) ?_
  refine g_ald X hW ds_71 (q_in (by omega) (by decide)) (p0 := 3) (q_tn (by omega) (by omega)) (v := ν 3) (by rw [hν]) d_R_count_67 ?_
  exact q_zret X rfl hW ⟨rfl, rfl⟩ d_R_count_68
set_option maxHeartbeats 1000000 in
set_option maxRecDepth 20000 in
theorem c_R_count_3 (l : Launch) (E : QE) (S : QM) (ν : Nat → Int32) (hν : S 16 = ν) (hwf : WF ν) (υ : Nat → Int32) (hυ : S 15 = υ) : qCI E l y_R_count prog_7_method_110_code 4 .int 4 [.ref (eA E 70), .int (nI 3)] S (sumS ν 4) S := by
  refine qCI_of (by decide) (Nat.le_of_ble_eq_true rfl) (fun p e s m below meth c ls X hW hl => ?_)
  have hl : lv_has ls 4 [(0, .ref (eA E 70)), (1, .int (nI 3))] := hl
  have htl := hwf.tl
  have hwl := hwf.wl
  have hdl := hwf.dl
  refine lv_iconst (v := nI 0) X.x X.b d_R_count_0 (by decide) ?_
  refine lv_istore_n (lv' := [(2, .int (nI 0)), (0, .ref (eA E 70)), (1, .int (nI 3))]) X.x X.b d_R_count_1 rfl hl (by decide) rfl (fun ls hl => ?_)
  refine lv_iload_n X.x X.b d_R_count_2 rfl (lv_at hl 2 rfl) ?_
  refine lv_tableIn (tgt := 69) (off := 66) X.x X.b d_R_count_3 (by decide) (by decide) (by decide) (by decide) ?_
  refine lv_aload_n X.x X.b d_R_count_69 rfl (lv_at hl 1 rfl) ?_
  refine lv_iconst (v := nI 4) X.x X.b d_R_count_70 (by decide) ?_
  refine q_cvi X (c_R_sumOf l E S ν (by rw [hν]) hwf 4 (by omega)) hW (q_recv X hW ds_R rfl) ok_R_sumOf mw_923 ⟨by decide, by decide⟩ (As := [.int (nI 4)]) rfl rfl (Nat.le_of_ble_eq_true rfl) (lv := [(2, .int (nI 0)), (0, .ref (eA E 70)), (1, .int (nI 3))]) hl ⟨Nat.le_refl 0, Nat.le_refl 0⟩ d_R_count_71 (fun H locs hW => ?_)
  exact q_zret X rfl hW ⟨rfl, rfl⟩ d_R_count_74
set_option maxHeartbeats 1000000 in
set_option maxRecDepth 20000 in
theorem c_R_count_4 (l : Launch) (E : QE) (S : QM) (ν : Nat → Int32) (hν : S 16 = ν) (hwf : WF ν) (υ : Nat → Int32) (hυ : S 15 = υ) : qCI E l y_R_count prog_7_method_110_code 4 .int 4 [.ref (eA E 70), .int (nI 4)] S (sumS ν 5) S := by
  refine qCI_of (by decide) (Nat.le_of_ble_eq_true rfl) (fun p e s m below meth c ls X hW hl => ?_)
  have hl : lv_has ls 4 [(0, .ref (eA E 70)), (1, .int (nI 4))] := hl
  have htl := hwf.tl
  have hwl := hwf.wl
  have hdl := hwf.dl
  refine lv_iconst (v := nI 0) X.x X.b d_R_count_0 (by decide) ?_
  refine lv_istore_n (lv' := [(2, .int (nI 0)), (0, .ref (eA E 70)), (1, .int (nI 4))]) X.x X.b d_R_count_1 rfl hl (by decide) rfl (fun ls hl => ?_)
  refine lv_iload_n X.x X.b d_R_count_2 rfl (lv_at hl 2 rfl) ?_
  refine lv_tableIn (tgt := 75) (off := 72) X.x X.b d_R_count_3 (by decide) (by decide) (by decide) (by decide) ?_
  refine lv_aload_n X.x X.b d_R_count_75 rfl (lv_at hl 1 rfl) ?_
  refine lv_iconst (v := nI 5) X.x X.b d_R_count_76 (by decide) ?_
  refine q_cvi X (c_R_sumOf l E S ν (by rw [hν]) hwf 5 (by omega)) hW (q_recv X hW ds_R rfl) ok_R_sumOf mw_923 ⟨by decide, by decide⟩ (As := [.int (nI 5)]) rfl rfl (Nat.le_of_ble_eq_true rfl) (lv := [(2, .int (nI 0)), (0, .ref (eA E 70)), (1, .int (nI 4))]) hl ⟨Nat.le_refl 0, Nat.le_refl 0⟩ d_R_count_77 (fun H locs hW => ?_)
  exact q_zret X rfl hW ⟨rfl, rfl⟩ d_R_count_80
set_option maxHeartbeats 1000000 in
set_option maxRecDepth 20000 in
theorem c_R_count_5 (l : Launch) (E : QE) (S : QM) (ν : Nat → Int32) (hν : S 16 = ν) (hwf : WF ν) (υ : Nat → Int32) (hυ : S 15 = υ) : qCI E l y_R_count prog_7_method_110_code 4 .int 4 [.ref (eA E 70), .int (nI 5)] S (υ 6) S := by
  refine qCI_of (by decide) (Nat.le_of_ble_eq_true rfl) (fun p e s m below meth c ls X hW hl => ?_)
  have hl : lv_has ls 4 [(0, .ref (eA E 70)), (1, .int (nI 5))] := hl
  have htl := hwf.tl
  have hwl := hwf.wl
  have hdl := hwf.dl
  refine lv_iconst (v := nI 0) X.x X.b d_R_count_0 (by decide) ?_
  refine lv_istore_n (lv' := [(2, .int (nI 0)), (0, .ref (eA E 70)), (1, .int (nI 5))]) X.x X.b d_R_count_1 rfl hl (by decide) rfl (fun ls hl => ?_)
  refine lv_iload_n X.x X.b d_R_count_2 rfl (lv_at hl 2 rfl) ?_
  refine lv_tableIn (tgt := 81) (off := 78) X.x X.b d_R_count_3 (by decide) (by decide) (by decide) (by decide) ?_
  refine lv_aload_n X.x X.b d_R_count_81 rfl (lv_at hl 1 rfl) ?_
  refine g_geti X hW qj4 rfl _ ds_R 6 (by decide) mw_692 rfl (r0 := 15) (p0 := 6) rfl (v := υ 6) (by rw [hυ]) d_R_count_82 ?_
  exact q_zret X rfl hW ⟨rfl, rfl⟩ d_R_count_85
set_option maxHeartbeats 1000000 in
set_option maxRecDepth 20000 in
theorem c_R_count_6 (l : Launch) (E : QE) (S : QM) (ν : Nat → Int32) (hν : S 16 = ν) (hwf : WF ν) (υ : Nat → Int32) (hυ : S 15 = υ) : qCI E l y_R_count prog_7_method_110_code 4 .int 4 [.ref (eA E 70), .int (nI 6)] S (ν 2) S := by
  refine qCI_of (by decide) (Nat.le_of_ble_eq_true rfl) (fun p e s m below meth c ls X hW hl => ?_)
  have hl : lv_has ls 4 [(0, .ref (eA E 70)), (1, .int (nI 6))] := hl
  have htl := hwf.tl
  have hwl := hwf.wl
  have hdl := hwf.dl
  refine lv_iconst (v := nI 0) X.x X.b d_R_count_0 (by decide) ?_
  refine lv_istore_n (lv' := [(2, .int (nI 0)), (0, .ref (eA E 70)), (1, .int (nI 6))]) X.x X.b d_R_count_1 rfl hl (by decide) rfl (fun ls hl => ?_)
  refine lv_iload_n X.x X.b d_R_count_2 rfl (lv_at hl 2 rfl) ?_
  refine lv_tableIn (tgt := 86) (off := 83) X.x X.b d_R_count_3 (by decide) (by decide) (by decide) (by decide) ?_
  refine lv_aload_n X.x X.b d_R_count_86 rfl (lv_at hl 1 rfl) ?_
  refine q_getr X hW qj4 rfl _ ds_R 0 (by decide) mw_686 rfl (c1 := 71) rfl d_R_count_87 ?_
  refine lv_iconst (v := nI 2) X.x X.b d_R_count_90 (by decide) ?_
  refine g_ald X hW ds_71 (q_in (by omega) (by decide)) (p0 := 2) (q_tn (by omega) (by omega)) (v := ν 2) (by rw [hν]) d_R_count_91 ?_
  exact q_zret X rfl hW ⟨rfl, rfl⟩ d_R_count_92
set_option maxHeartbeats 1000000 in
set_option maxRecDepth 20000 in
theorem c_R_count_7 (l : Launch) (E : QE) (S : QM) (ν : Nat → Int32) (hν : S 16 = ν) (hwf : WF ν) (υ : Nat → Int32) (hυ : S 15 = υ) : qCI E l y_R_count prog_7_method_110_code 4 .int 4 [.ref (eA E 70), .int (nI 7)] S (hldS ν) S := by
  refine qCI_of (by decide) (Nat.le_of_ble_eq_true rfl) (fun p e s m below meth c ls X hW hl => ?_)
  have hl : lv_has ls 4 [(0, .ref (eA E 70)), (1, .int (nI 7))] := hl
  have htl := hwf.tl
  have hwl := hwf.wl
  have hdl := hwf.dl
  refine lv_iconst (v := nI 0) X.x X.b d_R_count_0 (by decide) ?_
  refine lv_istore_n (lv' := [(2, .int (nI 0)), (0, .ref (eA E 70)), (1, .int (nI 7))]) X.x X.b d_R_count_1 rfl hl (by decide) rfl (fun ls hl => ?_)
  refine lv_iload_n X.x X.b d_R_count_2 rfl (lv_at hl 2 rfl) ?_
  refine lv_tableIn (tgt := 93) (off := 90) X.x X.b d_R_count_3 (by decide) (by decide) (by decide) (by decide) ?_
  refine lv_iconst (v := nI 0) X.x X.b d_R_count_93 (by decide) ?_
  refine lv_istore_n (lv' := [(3, .int (nI 0)), (2, .int (nI 0)), (0, .ref (eA E 70)), (1, .int (nI 7))]) X.x X.b d_R_count_94 rfl hl (by decide) rfl (fun ls hl => ?_)
  have loop95 : ∀ (fu95 : Nat) (j : Nat) (a : Int32), j ≤ 10 → a = fo (fun i a => if ν (10 + i) < 0 then a else a + 1) j (nI 0) → 10 - j < fu95 → ∀ (H : Heap) (locs : List Loc) (ls : Array Slot), qWH E S s H locs → lv_has ls 4 [(3, .int (nI j)), (2, .int a), (0, .ref (eA E 70)), (1, .int (nI 7))] → W p l e (qRm 4) s m ([.ref (eA E 70), .int (nI 7)] : List Value).toArray below meth c H locs 0 0 (MQ below (qQi E (hldS ν) S s.heap.size) ([.ref (eA E 70), .int (nI 7)] : List Value).toArray s 0 0 (qAA E s.heap.size)) (F0 m 95 ls []) := by
    intro fu95
    induction fu95 with
    | zero =>
      intro j a hj ha hfu
      exact absurd hfu (Nat.not_lt_zero _)
    | succ fu95 ih95 =>
      intro j a hj ha hfu H locs ls hW hl
      refine lv_iload_n X.x X.b d_R_count_95 rfl (lv_at hl 0 rfl) ?_
      refine lv_bipush (v := nI 10) X.x X.b d_R_count_96 (by decide) ?_
      refine lv_icmp_ge (tgt := 127) X.x X.b d_R_count_98 (by decide) (fun c98 => ?_) (fun c98 => ?_)
      · have c98 : 10 ≤ j := (nI_leI (a := 10) (b := j) (by omega) (by omega)).mp c98
        refine lv_iload_n X.x X.b d_R_count_127 rfl (lv_at hl 1 rfl) ?_
        exact q_zret X rfl hW ⟨by rw [ha, show j = 10 by omega]; rfl, rfl⟩ d_R_count_128
      · have c98 : ¬ 10 ≤ j := fun z => c98 ((nI_leI (a := 10) (b := j) (by omega) (by omega)).mpr z)
        refine lv_iload_n X.x X.b d_R_count_101 rfl (lv_at hl 1 rfl) ?_
        refine lv_aload_n X.x X.b d_R_count_102 rfl (lv_at hl 2 rfl) ?_
        refine q_getr X hW qj4 rfl _ ds_R 0 (by decide) mw_686 rfl (c1 := 71) rfl d_R_count_103 ?_
        refine lv_bipush (v := nI 10) X.x X.b d_R_count_106 (by decide) ?_
        refine lv_iload_n X.x X.b d_R_count_108 rfl (lv_at hl 0 rfl) ?_
        refine lv_iadd X.x X.b d_R_count_109 ?_
        rw [nI_add]
        refine g_ald X hW ds_71 (q_in (by omega) (by decide)) (p0 := 10 + j) (q_tn (by omega) (by omega)) (v := ν (10 + j)) (by rw [hν]) d_R_count_110 ?_
        refine lv_if_ge (tgt := 118) X.x X.b d_R_count_111 (by decide) (fun c111 => ?_) (fun c111 => ?_)
        · refine lv_iconst (v := nI 1) X.x X.b d_R_count_118 (by decide) ?_
          refine lv_iadd X.x X.b d_R_count_119 ?_
          refine lv_istore_n (lv' := [(2, .int (a + (nI 1))), (3, .int (nI j)), (0, .ref (eA E 70)), (1, .int (nI 7))]) X.x X.b d_R_count_120 rfl hl (by decide) rfl (fun ls hl => ?_)
          refine lv_iinc (v := nI (j + 1)) (lv' := [(3, .int (nI (j + 1))), (2, .int (a + (nI 1))), (0, .ref (eA E 70)), (1, .int (nI 7))]) X.x X.b d_R_count_121 hl (k := 1) rfl (by rw [show Int32.ofInt 1 = nI 1 from by decide, nI_add]) (by decide) rfl (fun ls hl => ?_)
          refine lv_goto (tgt := 95) X.x X.b d_R_count_124 (by decide) ?_
          exact ih95 (j + 1) (a + (nI 1)) (by omega) (by rw [fo_succ, ← ha]; first | exact (if_neg (Int32.not_lt.mpr c111)).symm | (rw [if_pos (Int32.not_le.mp c111)]; exact add0)) (by omega) _ _ _ hW (lv_sub hl [0, 1, 2, 3] rfl)
        · refine lv_iconst (v := nI 0) X.x X.b d_R_count_114 (by decide) ?_
          refine lv_goto (tgt := 119) X.x X.b d_R_count_115 (by decide) ?_
          refine lv_iadd X.x X.b d_R_count_119 ?_
          refine lv_istore_n (lv' := [(2, .int (a + (nI 0))), (3, .int (nI j)), (0, .ref (eA E 70)), (1, .int (nI 7))]) X.x X.b d_R_count_120 rfl hl (by decide) rfl (fun ls hl => ?_)
          refine lv_iinc (v := nI (j + 1)) (lv' := [(3, .int (nI (j + 1))), (2, .int (a + (nI 0))), (0, .ref (eA E 70)), (1, .int (nI 7))]) X.x X.b d_R_count_121 hl (k := 1) rfl (by rw [show Int32.ofInt 1 = nI 1 from by decide, nI_add]) (by decide) rfl (fun ls hl => ?_)
          refine lv_goto (tgt := 95) X.x X.b d_R_count_124 (by decide) ?_
          exact ih95 (j + 1) (a + (nI 0)) (by omega) (by rw [fo_succ, ← ha]; first | exact (if_neg (Int32.not_lt.mpr c111)).symm | (rw [if_pos (Int32.not_le.mp c111)]; exact add0)) (by omega) _ _ _ hW (lv_sub hl [0, 1, 2, 3] rfl)
  exact loop95 (10 - 0 + 1) 0 (nI 0) (by omega) rfl (Nat.lt_succ_self _) _ _ _ hW (lv_sub hl [0, 1, 2, 3] rfl)
set_option maxHeartbeats 1000000 in
set_option maxRecDepth 20000 in
theorem c_R_count_b (l : Launch) (E : QE) (S : QM) (ν : Nat → Int32) (hν : S 16 = ν) (hwf : WF ν) (ψ : Nat → Int32) (hψ : S 19 = ψ) (x : Int32) (h : ¬ (inR 0 7 x)) : qCI E l y_R_count prog_7_method_110_code 4 .int 4 [.ref (eA E 70), .int x] S (-1000001) (qr S 19 (fnR ψ 0)) := by
  refine qCI_of (by decide) (Nat.le_of_ble_eq_true rfl) (fun p e s m below meth c ls X hW hl => ?_)
  have hl : lv_has ls 4 [(0, .ref (eA E 70)), (1, .int x)] := hl
  have htl := hwf.tl
  have hwl := hwf.wl
  have hdl := hwf.dl
  refine lv_iconst (v := nI 0) X.x X.b d_R_count_0 (by decide) ?_
  refine lv_istore_n (lv' := [(2, .int (nI 0)), (0, .ref (eA E 70)), (1, .int x)]) X.x X.b d_R_count_1 rfl hl (by decide) rfl (fun ls hl => ?_)
  refine lv_iload_n X.x X.b d_R_count_2 rfl (lv_at hl 2 rfl) ?_
  by_cases c3_0 : x = nI 0
  · exact absurd (show inR 0 7 x by rw [c3_0]; exact (inR_i (by omega) (by decide)).mpr (by omega)) h
  by_cases c3_1 : x = nI 1
  · exact absurd (show inR 0 7 x by rw [c3_1]; exact (inR_i (by omega) (by decide)).mpr (by omega)) h
  by_cases c3_2 : x = nI 2
  · exact absurd (show inR 0 7 x by rw [c3_2]; exact (inR_i (by omega) (by decide)).mpr (by omega)) h
  by_cases c3_3 : x = nI 3
  · exact absurd (show inR 0 7 x by rw [c3_3]; exact (inR_i (by omega) (by decide)).mpr (by omega)) h
  by_cases c3_4 : x = nI 4
  · exact absurd (show inR 0 7 x by rw [c3_4]; exact (inR_i (by omega) (by decide)).mpr (by omega)) h
  by_cases c3_5 : x = nI 5
  · exact absurd (show inR 0 7 x by rw [c3_5]; exact (inR_i (by omega) (by decide)).mpr (by omega)) h
  by_cases c3_6 : x = nI 6
  · exact absurd (show inR 0 7 x by rw [c3_6]; exact (inR_i (by omega) (by decide)).mpr (by omega)) h
  by_cases c3_7 : x = nI 7
  · exact absurd (show inR 0 7 x by rw [c3_7]; exact (inR_i (by omega) (by decide)).mpr (by omega)) h
  refine lv_tableOut (tgt := 129) X.x X.b d_R_count_3 (by have qc3_0 := lv_neT c3_0 (by decide : Int32.toInt (nI 0) = 0); have qc3_1 := lv_neT c3_1 (by decide : Int32.toInt (nI 1) = 1); have qc3_2 := lv_neT c3_2 (by decide : Int32.toInt (nI 2) = 2); have qc3_3 := lv_neT c3_3 (by decide : Int32.toInt (nI 3) = 3); have qc3_4 := lv_neT c3_4 (by decide : Int32.toInt (nI 4) = 4); have qc3_5 := lv_neT c3_5 (by decide : Int32.toInt (nI 5) = 5); have qc3_6 := lv_neT c3_6 (by decide : Int32.toInt (nI 6) = 6); have qc3_7 := lv_neT c3_7 (by decide : Int32.toInt (nI 7) = 7); omega) (by decide) ?_
  refine lv_aload_n X.x X.b d_R_count_129 rfl (lv_at hl 1 rfl) ?_
  refine lv_ldc (v := (-1000001)) X.x X.b X.ow (X.ts _ mw_767) d_R_count_130 ?_
  refine q_cvi X (c_R_finding_0 l E S ψ (by rw [hψ])) hW (q_recv X hW ds_R rfl) ok_R_finding mw_768 ⟨by decide, by decide⟩ (As := [.int (-1000001)]) rfl rfl (Nat.le_of_ble_eq_true rfl) (lv := [(2, .int (nI 0)), (0, .ref (eA E 70)), (1, .int x)]) hl ⟨Nat.le_refl 0, Nat.le_refl 0⟩ d_R_count_132 (fun H locs hW => ?_)
  have hW : qWH E (qr S 19 (fnR ψ 0)) s H locs := hW
  exact q_zret X rfl hW ⟨rfl, rfl⟩ d_R_count_135
set_option maxHeartbeats 1000000 in
set_option maxRecDepth 20000 in
theorem c_R_status_g (l : Launch) (E : QE) (S : QM) (υ ξ ψ : Nat → Int32) (hυ : S 15 = υ) (hξ : S 20 = ξ) (hψ : S 19 = ψ) (i : Nat) (hi : i ≤ 6) : qCI E l y_R_status prog_7_method_111_code 2 .int 2 [.ref (eA E 70), .int (nI i)] S (ψ (i + 1)) S := by
  refine qCI_of (by decide) (Nat.le_of_ble_eq_true rfl) (fun p e s m below meth c ls X hW hl => ?_)
  have hl : lv_has ls 2 [(0, .ref (eA E 70)), (1, .int (nI i))] := hl
  refine lv_iload_n X.x X.b d_R_status_0 rfl (lv_at hl 1 rfl) ?_
  refine lv_iconst (v := (-1)) X.x X.b d_R_status_1 (by decide) ?_
  refine lv_bipush (v := nI 6) X.x X.b d_R_status_2 (by decide) ?_
  refine q_csi X (c_R_within l E S (nI i) (-1) (nI 6)) hW ok_R_within mw_757 ⟨by decide, by decide⟩ (As := [.int (nI i), .int (-1), .int (nI 6)]) rfl rfl (Nat.le_of_ble_eq_true rfl) (lv := [(0, .ref (eA E 70)), (1, .int (nI i))]) hl ⟨Nat.le_refl 0, Nat.le_refl 0⟩ d_R_status_4 (fun H locs hW => ?_)
  refine lv_if_eq (tgt := 21) X.x X.b d_R_status_7 (by decide) (fun c7 => ?_) (fun c7 => ?_)
  · have c7 := b2i_e c7
    exact absurd ⟨ile_m1 (by omega), (nI_leI (by omega) (by omega)).mpr (by omega)⟩ c7
  · have c7 := b2i_n c7
    refine lv_aload_n X.x X.b d_R_status_10 rfl (lv_at hl 0 rfl) ?_
    refine q_getr X hW qj4 rfl _ ds_R 4 (by decide) mw_690 rfl (c1 := 74) rfl d_R_status_11 ?_
    refine lv_iload_n X.x X.b d_R_status_14 rfl (lv_at hl 1 rfl) ?_
    refine lv_iconst (v := nI 1) X.x X.b d_R_status_15 (by decide) ?_
    refine lv_iadd X.x X.b d_R_status_16 ?_
    rw [nI_add]
    refine g_ald X hW ds_74 (q_in (by omega) (by decide)) (p0 := i + 1) (q_tn (by omega) (by omega)) (v := ψ (i + 1)) (by rw [hψ]) d_R_status_17 ?_
    refine lv_goto (tgt := 27) X.x X.b d_R_status_18 (by decide) ?_
    exact q_zret X rfl hW ⟨rfl, rfl⟩ d_R_status_27
set_option maxHeartbeats 1000000 in
set_option maxRecDepth 20000 in
theorem c_R_status_m (l : Launch) (E : QE) (S : QM) (υ ξ ψ : Nat → Int32) (hυ : S 15 = υ) (hξ : S 20 = ξ) (hψ : S 19 = ψ)  : qCI E l y_R_status prog_7_method_111_code 2 .int 2 [.ref (eA E 70), .int (-1)] S (ψ 0) S := by
  refine qCI_of (by decide) (Nat.le_of_ble_eq_true rfl) (fun p e s m below meth c ls X hW hl => ?_)
  have hl : lv_has ls 2 [(0, .ref (eA E 70)), (1, .int (-1))] := hl
  refine lv_iload_n X.x X.b d_R_status_0 rfl (lv_at hl 1 rfl) ?_
  refine lv_iconst (v := (-1)) X.x X.b d_R_status_1 (by decide) ?_
  refine lv_bipush (v := nI 6) X.x X.b d_R_status_2 (by decide) ?_
  refine q_csi X (c_R_within l E S (-1) (-1) (nI 6)) hW ok_R_within mw_757 ⟨by decide, by decide⟩ (As := [.int (-1), .int (-1), .int (nI 6)]) rfl rfl (Nat.le_of_ble_eq_true rfl) (lv := [(0, .ref (eA E 70)), (1, .int (-1))]) hl ⟨Nat.le_refl 0, Nat.le_refl 0⟩ d_R_status_4 (fun H locs hW => ?_)
  refine lv_if_eq (tgt := 21) X.x X.b d_R_status_7 (by decide) (fun c7 => ?_) (fun c7 => ?_)
  · have c7 := b2i_e c7
    exact absurd (by decide) c7
  · have c7 := b2i_n c7
    refine lv_aload_n X.x X.b d_R_status_10 rfl (lv_at hl 0 rfl) ?_
    refine q_getr X hW qj4 rfl _ ds_R 4 (by decide) mw_690 rfl (c1 := 74) rfl d_R_status_11 ?_
    refine lv_iload_n X.x X.b d_R_status_14 rfl (lv_at hl 1 rfl) ?_
    refine lv_iconst (v := nI 1) X.x X.b d_R_status_15 (by decide) ?_
    refine lv_iadd X.x X.b d_R_status_16 ?_
    rw [show (-1) + (nI 1) = nI 0 from (by decide)]
    refine g_ald X hW ds_74 (q_in (by omega) (by decide)) (p0 := 0) (q_tn (by omega) (by omega)) (v := ψ 0) (by rw [hψ]) d_R_status_17 ?_
    refine lv_goto (tgt := 27) X.x X.b d_R_status_18 (by decide) ?_
    exact q_zret X rfl hW ⟨rfl, rfl⟩ d_R_status_27
set_option maxHeartbeats 1000000 in
set_option maxRecDepth 20000 in
theorem c_R_status_b (l : Launch) (E : QE) (S : QM) (υ ξ ψ : Nat → Int32) (hυ : S 15 = υ) (hξ : S 20 = ξ) (hψ : S 19 = ψ) (x : Int32) (h : ¬ ((-1) ≤ x ∧ x ≤ nI 6)) : qCI E l y_R_status prog_7_method_111_code 2 .int 2 [.ref (eA E 70), .int x] S (-1000001) (qr S 19 (fnR ψ 0)) := by
  refine qCI_of (by decide) (Nat.le_of_ble_eq_true rfl) (fun p e s m below meth c ls X hW hl => ?_)
  have hl : lv_has ls 2 [(0, .ref (eA E 70)), (1, .int x)] := hl
  refine lv_iload_n X.x X.b d_R_status_0 rfl (lv_at hl 1 rfl) ?_
  refine lv_iconst (v := (-1)) X.x X.b d_R_status_1 (by decide) ?_
  refine lv_bipush (v := nI 6) X.x X.b d_R_status_2 (by decide) ?_
  refine q_csi X (c_R_within l E S x (-1) (nI 6)) hW ok_R_within mw_757 ⟨by decide, by decide⟩ (As := [.int x, .int (-1), .int (nI 6)]) rfl rfl (Nat.le_of_ble_eq_true rfl) (lv := [(0, .ref (eA E 70)), (1, .int x)]) hl ⟨Nat.le_refl 0, Nat.le_refl 0⟩ d_R_status_4 (fun H locs hW => ?_)
  refine lv_if_eq (tgt := 21) X.x X.b d_R_status_7 (by decide) (fun c7 => ?_) (fun c7 => ?_)
  · have c7 := b2i_e c7
    refine lv_aload_n X.x X.b d_R_status_21 rfl (lv_at hl 0 rfl) ?_
    refine lv_ldc (v := (-1000001)) X.x X.b X.ow (X.ts _ mw_767) d_R_status_22 ?_
    refine q_cvi X (c_R_finding_0 l E S ψ (by rw [hψ])) hW (q_recv X hW ds_R rfl) ok_R_finding mw_768 ⟨by decide, by decide⟩ (As := [.int (-1000001)]) rfl rfl (Nat.le_of_ble_eq_true rfl) (lv := [(0, .ref (eA E 70)), (1, .int x)]) hl ⟨Nat.le_refl 0, Nat.le_refl 0⟩ d_R_status_24 (fun H locs hW => ?_)
    have hW : qWH E (qr S 19 (fnR ψ 0)) s H locs := hW
    exact q_zret X rfl hW ⟨rfl, rfl⟩ d_R_status_27
  · have c7 := b2i_n c7
    exact absurd c7 h
