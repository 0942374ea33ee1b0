theorem d_R_walks_0 : decode prog_7_method_46_code 0 = .ok (.iload_n 1, 1) := by decide +kernel
theorem d_R_walks_1 : decode prog_7_method_46_code 1 = .ok (.iconst 0, 1) := by decide +kernel
theorem d_R_walks_2 : decode prog_7_method_46_code 2 = .ok (.invokestatic 88, 3) := by decide +kernel
theorem d_R_walks_5 : decode prog_7_method_46_code 5 = .ok (.istore_n 3, 1) := by decide +kernel
theorem d_R_walks_6 : decode prog_7_method_46_code 6 = .ok (.aload_n 0, 1) := by decide +kernel
theorem d_R_walks_7 : decode prog_7_method_46_code 7 = .ok (.iload_n 2, 1) := by decide +kernel
theorem d_R_walks_8 : decode prog_7_method_46_code 8 = .ok (.iconst 1, 1) := by decide +kernel
theorem d_R_walks_9 : decode prog_7_method_46_code 9 = .ok (.invokevirtual 104, 3) := by decide +kernel
theorem d_R_walks_12 : decode prog_7_method_46_code 12 = .ok (.istore 4, 2) := by decide +kernel
theorem d_R_walks_14 : decode prog_7_method_46_code 14 = .ok (.aload_n 0, 1) := by decide +kernel
theorem d_R_walks_15 : decode prog_7_method_46_code 15 = .ok (.iload_n 1, 1) := by decide +kernel
theorem d_R_walks_16 : decode prog_7_method_46_code 16 = .ok (.iload_n 2, 1) := by decide +kernel
theorem d_R_walks_17 : decode prog_7_method_46_code 17 = .ok (.invokevirtual 155, 3) := by decide +kernel
theorem d_R_walks_20 : decode prog_7_method_46_code 20 = .ok (.ifCond .eq 62, 3) := by decide +kernel
theorem d_R_walks_23 : decode prog_7_method_46_code 23 = .ok (.aload_n 0, 1) := by decide +kernel
theorem d_R_walks_24 : decode prog_7_method_46_code 24 = .ok (.iload_n 1, 1) := by decide +kernel
theorem d_R_walks_25 : decode prog_7_method_46_code 25 = .ok (.iconst 2, 1) := by decide +kernel
theorem d_R_walks_26 : decode prog_7_method_46_code 26 = .ok (.invokevirtual 125, 3) := by decide +kernel
theorem d_R_walks_29 : decode prog_7_method_46_code 29 = .ok (.istore 5, 2) := by decide +kernel
theorem d_R_walks_31 : decode prog_7_method_46_code 31 = .ok (.aload_n 0, 1) := by decide +kernel
theorem d_R_walks_32 : decode prog_7_method_46_code 32 = .ok (.getfield 9, 3) := by decide +kernel
theorem d_R_walks_35 : decode prog_7_method_46_code 35 = .ok (.iload_n 3, 1) := by decide +kernel
theorem d_R_walks_36 : decode prog_7_method_46_code 36 = .ok (.iload 4, 2) := by decide +kernel
theorem d_R_walks_38 : decode prog_7_method_46_code 38 = .ok (.aload_n 0, 1) := by decide +kernel
theorem d_R_walks_39 : decode prog_7_method_46_code 39 = .ok (.getfield 9, 3) := by decide +kernel
theorem d_R_walks_42 : decode prog_7_method_46_code 42 = .ok (.iload_n 3, 1) := by decide +kernel
theorem d_R_walks_43 : decode prog_7_method_46_code 43 = .ok (.iaload, 1) := by decide +kernel
theorem d_R_walks_44 : decode prog_7_method_46_code 44 = .ok (.if_icmp .le 20, 3) := by decide +kernel
theorem d_R_walks_47 : decode prog_7_method_46_code 47 = .ok (.iload 4, 2) := by decide +kernel
theorem d_R_walks_49 : decode prog_7_method_46_code 49 = .ok (.aload_n 0, 1) := by decide +kernel
theorem d_R_walks_50 : decode prog_7_method_46_code 50 = .ok (.getfield 9, 3) := by decide +kernel
theorem d_R_walks_53 : decode prog_7_method_46_code 53 = .ok (.iload_n 3, 1) := by decide +kernel
theorem d_R_walks_54 : decode prog_7_method_46_code 54 = .ok (.iaload, 1) := by decide +kernel
theorem d_R_walks_55 : decode prog_7_method_46_code 55 = .ok (.iload 5, 2) := by decide +kernel
theorem d_R_walks_57 : decode prog_7_method_46_code 57 = .ok (.iadd, 1) := by decide +kernel
theorem d_R_walks_58 : decode prog_7_method_46_code 58 = .ok (.invokestatic 152, 3) := by decide +kernel
theorem d_R_walks_61 : decode prog_7_method_46_code 61 = .ok (.goto 17, 3) := by decide +kernel
theorem d_R_walks_64 : decode prog_7_method_46_code 64 = .ok (.iload 4, 2) := by decide +kernel
theorem d_R_walks_66 : decode prog_7_method_46_code 66 = .ok (.aload_n 0, 1) := by decide +kernel
theorem d_R_walks_67 : decode prog_7_method_46_code 67 = .ok (.getfield 9, 3) := by decide +kernel
theorem d_R_walks_70 : decode prog_7_method_46_code 70 = .ok (.iload_n 3, 1) := by decide +kernel
theorem d_R_walks_71 : decode prog_7_method_46_code 71 = .ok (.iaload, 1) := by decide +kernel
theorem d_R_walks_72 : decode prog_7_method_46_code 72 = .ok (.iload 5, 2) := by decide +kernel
theorem d_R_walks_74 : decode prog_7_method_46_code 74 = .ok (.isub, 1) := by decide +kernel
theorem d_R_walks_75 : decode prog_7_method_46_code 75 = .ok (.invokestatic 158, 3) := by decide +kernel
theorem d_R_walks_78 : decode prog_7_method_46_code 78 = .ok (.iastore, 1) := by decide +kernel
theorem d_R_walks_79 : decode prog_7_method_46_code 79 = .ok (.goto 33, 3) := by decide +kernel
theorem d_R_walks_82 : decode prog_7_method_46_code 82 = .ok (.aload_n 0, 1) := by decide +kernel
theorem d_R_walks_83 : decode prog_7_method_46_code 83 = .ok (.getfield 9, 3) := by decide +kernel
theorem d_R_walks_86 : decode prog_7_method_46_code 86 = .ok (.iload_n 3, 1) := by decide +kernel
theorem d_R_walks_87 : decode prog_7_method_46_code 87 = .ok (.aload_n 0, 1) := by decide +kernel
theorem d_R_walks_88 : decode prog_7_method_46_code 88 = .ok (.getfield 9, 3) := by decide +kernel
theorem d_R_walks_91 : decode prog_7_method_46_code 91 = .ok (.iload_n 3, 1) := by decide +kernel
theorem d_R_walks_92 : decode prog_7_method_46_code 92 = .ok (.iaload, 1) := by decide +kernel
theorem d_R_walks_93 : decode prog_7_method_46_code 93 = .ok (.iconst 1, 1) := by decide +kernel
theorem d_R_walks_94 : decode prog_7_method_46_code 94 = .ok (.iadd, 1) := by decide +kernel
theorem d_R_walks_95 : decode prog_7_method_46_code 95 = .ok (.bipush 16, 2) := by decide +kernel
theorem d_R_walks_97 : decode prog_7_method_46_code 97 = .ok (.irem, 1) := by decide +kernel
theorem d_R_walks_98 : decode prog_7_method_46_code 98 = .ok (.iastore, 1) := by decide +kernel
theorem d_R_walks_99 : decode prog_7_method_46_code 99 = .ok (.aload_n 0, 1) := by decide +kernel
theorem d_R_walks_100 : decode prog_7_method_46_code 100 = .ok (.iload_n 1, 1) := by decide +kernel
theorem d_R_walks_101 : decode prog_7_method_46_code 101 = .ok (.iconst 5, 1) := by decide +kernel
theorem d_R_walks_102 : decode prog_7_method_46_code 102 = .ok (.invokestatic 88, 3) := by decide +kernel
theorem d_R_walks_105 : decode prog_7_method_46_code 105 = .ok (.iconst 1, 1) := by decide +kernel
theorem d_R_walks_106 : decode prog_7_method_46_code 106 = .ok (.sipush 9999, 3) := by decide +kernel
theorem d_R_walks_109 : decode prog_7_method_46_code 109 = .ok (.invokevirtual 161, 3) := by decide +kernel
theorem d_R_walks_112 : decode prog_7_method_46_code 112 = .ok (.aload_n 0, 1) := by decide +kernel
theorem d_R_walks_113 : decode prog_7_method_46_code 113 = .ok (.getfield 9, 3) := by decide +kernel
theorem d_R_walks_116 : decode prog_7_method_46_code 116 = .ok (.iload_n 3, 1) := by decide +kernel
theorem d_R_walks_117 : decode prog_7_method_46_code 117 = .ok (.iaload, 1) := by decide +kernel
theorem d_R_walks_118 : decode prog_7_method_46_code 118 = .ok (.iload 4, 2) := by decide +kernel
theorem d_R_walks_120 : decode prog_7_method_46_code 120 = .ok (.if_icmp .ne 46, 3) := by decide +kernel
theorem d_R_walks_123 : decode prog_7_method_46_code 123 = .ok (.aload_n 0, 1) := by decide +kernel
theorem d_R_walks_124 : decode prog_7_method_46_code 124 = .ok (.iload_n 1, 1) := by decide +kernel
theorem d_R_walks_125 : decode prog_7_method_46_code 125 = .ok (.iconst 4, 1) := by decide +kernel
theorem d_R_walks_126 : decode prog_7_method_46_code 126 = .ok (.invokestatic 88, 3) := by decide +kernel
theorem d_R_walks_129 : decode prog_7_method_46_code 129 = .ok (.iconst 1, 1) := by decide +kernel
theorem d_R_walks_130 : decode prog_7_method_46_code 130 = .ok (.sipush 9999, 3) := by decide +kernel
theorem d_R_walks_133 : decode prog_7_method_46_code 133 = .ok (.invokevirtual 161, 3) := by decide +kernel
theorem d_R_walks_136 : decode prog_7_method_46_code 136 = .ok (.aload_n 0, 1) := by decide +kernel
theorem d_R_walks_137 : decode prog_7_method_46_code 137 = .ok (.iload_n 2, 1) := by decide +kernel
theorem d_R_walks_138 : decode prog_7_method_46_code 138 = .ok (.iconst 2, 1) := by decide +kernel
theorem d_R_walks_139 : decode prog_7_method_46_code 139 = .ok (.invokestatic 85, 3) := by decide +kernel
theorem d_R_walks_142 : decode prog_7_method_46_code 142 = .ok (.iconst 1, 1) := by decide +kernel
theorem d_R_walks_143 : decode prog_7_method_46_code 143 = .ok (.sipush 9999, 3) := by decide +kernel
theorem d_R_walks_146 : decode prog_7_method_46_code 146 = .ok (.invokevirtual 161, 3) := by decide +kernel
theorem d_R_walks_149 : decode prog_7_method_46_code 149 = .ok (.aload_n 0, 1) := by decide +kernel
theorem d_R_walks_150 : decode prog_7_method_46_code 150 = .ok (.iload_n 1, 1) := by decide +kernel
theorem d_R_walks_151 : decode prog_7_method_46_code 151 = .ok (.iload_n 2, 1) := by decide +kernel
theorem d_R_walks_152 : decode prog_7_method_46_code 152 = .ok (.aload_n 0, 1) := by decide +kernel
theorem d_R_walks_153 : decode prog_7_method_46_code 153 = .ok (.iload_n 2, 1) := by decide +kernel
theorem d_R_walks_154 : decode prog_7_method_46_code 154 = .ok (.aload_n 0, 1) := by decide +kernel
theorem d_R_walks_155 : decode prog_7_method_46_code 155 = .ok (.iload_n 1, 1) := by decide +kernel
theorem d_R_walks_156 : decode prog_7_method_46_code 156 = .ok (.iload_n 2, 1) := by decide +kernel
theorem d_R_walks_157 : decode prog_7_method_46_code 157 = .ok (.invokevirtual 143, 3) := by decide +kernel
theorem d_R_walks_160 : decode prog_7_method_46_code 160 = .ok (.invokevirtual 165, 3) := by decide +kernel
theorem d_R_walks_163 : decode prog_7_method_46_code 163 = .ok (.invokevirtual 169, 3) := by decide +kernel
theorem d_R_walks_166 : decode prog_7_method_46_code 166 = .ok (.return_, 1) := by decide +kernel
theorem d_R_day_0 : decode prog_7_method_47_code 0 = .ok (.aload_n 0, 1) := by decide +kernel
theorem d_R_day_1 : decode prog_7_method_47_code 1 = .ok (.getfield 9, 3) := by decide +kernel
theorem d_R_day_4 : decode prog_7_method_47_code 4 = .ok (.aload_n 0, 1) := by decide +kernel
theorem d_R_day_5 : decode prog_7_method_47_code 5 = .ok (.invokevirtual 173, 3) := by decide +kernel
theorem d_R_day_8 : decode prog_7_method_47_code 8 = .ok (.iaload, 1) := by decide +kernel
theorem d_R_day_9 : decode prog_7_method_47_code 9 = .ok (.bipush 10, 2) := by decide +kernel
theorem d_R_day_11 : decode prog_7_method_47_code 11 = .ok (.idiv, 1) := by decide +kernel
theorem d_R_day_12 : decode prog_7_method_47_code 12 = .ok (.istore_n 1, 1) := by decide +kernel
theorem d_R_day_13 : decode prog_7_method_47_code 13 = .ok (.aload_n 0, 1) := by decide +kernel
theorem d_R_day_14 : decode prog_7_method_47_code 14 = .ok (.getfield 9, 3) := by decide +kernel
theorem d_R_day_17 : decode prog_7_method_47_code 17 = .ok (.aload_n 0, 1) := by decide +kernel
theorem d_R_day_18 : decode prog_7_method_47_code 18 = .ok (.invokevirtual 173, 3) := by decide +kernel
theorem d_R_day_21 : decode prog_7_method_47_code 21 = .ok (.iaload, 1) := by decide +kernel
theorem d_R_day_22 : decode prog_7_method_47_code 22 = .ok (.bipush 10, 2) := by decide +kernel
theorem d_R_day_24 : decode prog_7_method_47_code 24 = .ok (.irem, 1) := by decide +kernel
theorem d_R_day_25 : decode prog_7_method_47_code 25 = .ok (.istore_n 2, 1) := by decide +kernel
theorem d_R_day_26 : decode prog_7_method_47_code 26 = .ok (.aload_n 0, 1) := by decide +kernel
theorem d_R_day_27 : decode prog_7_method_47_code 27 = .ok (.iload_n 1, 1) := by decide +kernel
theorem d_R_day_28 : decode prog_7_method_47_code 28 = .ok (.invokevirtual 122, 3) := by decide +kernel
theorem d_R_day_31 : decode prog_7_method_47_code 31 = .ok (.ifCond .eq 31, 3) := by decide +kernel
theorem d_R_day_34 : decode prog_7_method_47_code 34 = .ok (.aload_n 0, 1) := by decide +kernel
theorem d_R_day_35 : decode prog_7_method_47_code 35 = .ok (.iload_n 2, 1) := by decide +kernel
theorem d_R_day_36 : decode prog_7_method_47_code 36 = .ok (.invokevirtual 116, 3) := by decide +kernel
theorem d_R_day_39 : decode prog_7_method_47_code 39 = .ok (.ifCond .eq 23, 3) := by decide +kernel
theorem d_R_day_42 : decode prog_7_method_47_code 42 = .ok (.aload_n 0, 1) := by decide +kernel
theorem d_R_day_43 : decode prog_7_method_47_code 43 = .ok (.iload_n 1, 1) := by decide +kernel
theorem d_R_day_44 : decode prog_7_method_47_code 44 = .ok (.iload_n 2, 1) := by decide +kernel
theorem d_R_day_45 : decode prog_7_method_47_code 45 = .ok (.aload_n 0, 1) := by decide +kernel
theorem d_R_day_46 : decode prog_7_method_47_code 46 = .ok (.iload_n 1, 1) := by decide +kernel
theorem d_R_day_47 : decode prog_7_method_47_code 47 = .ok (.iload_n 2, 1) := by decide +kernel
theorem d_R_day_48 : decode prog_7_method_47_code 48 = .ok (.invokevirtual 143, 3) := by decide +kernel
theorem d_R_day_51 : decode prog_7_method_47_code 51 = .ok (.ifCond .ne 7, 3) := by decide +kernel
theorem d_R_day_54 : decode prog_7_method_47_code 54 = .ok (.iconst 1, 1) := by decide +kernel
theorem d_R_day_55 : decode prog_7_method_47_code 55 = .ok (.goto 4, 3) := by decide +kernel
theorem d_R_day_58 : decode prog_7_method_47_code 58 = .ok (.iconst 0, 1) := by decide +kernel
theorem d_R_day_59 : decode prog_7_method_47_code 59 = .ok (.invokevirtual 169, 3) := by decide +kernel
theorem d_R_day_62 : decode prog_7_method_47_code 62 = .ok (.iconst 0, 1) := by decide +kernel
theorem d_R_day_63 : decode prog_7_method_47_code 63 = .ok (.istore_n 3, 1) := by decide +kernel
theorem d_R_day_64 : decode prog_7_method_47_code 64 = .ok (.iload_n 3, 1) := by decide +kernel
theorem d_R_day_65 : decode prog_7_method_47_code 65 = .ok (.aload_n 0, 1) := by decide +kernel
theorem d_R_day_66 : decode prog_7_method_47_code 66 = .ok (.getfield 9, 3) := by decide +kernel
theorem d_R_day_69 : decode prog_7_method_47_code 69 = .ok (.iconst 3, 1) := by decide +kernel
theorem d_R_day_70 : decode prog_7_method_47_code 70 = .ok (.iaload, 1) := by decide +kernel
theorem d_R_day_71 : decode prog_7_method_47_code 71 = .ok (.if_icmp .ge 33, 3) := by decide +kernel
theorem d_R_day_74 : decode prog_7_method_47_code 74 = .ok (.aload_n 0, 1) := by decide +kernel
theorem d_R_day_75 : decode prog_7_method_47_code 75 = .ok (.aload_n 0, 1) := by decide +kernel
theorem d_R_day_76 : decode prog_7_method_47_code 76 = .ok (.iload_n 3, 1) := by decide +kernel
theorem d_R_day_77 : decode prog_7_method_47_code 77 = .ok (.iconst 1, 1) := by decide +kernel
theorem d_R_day_78 : decode prog_7_method_47_code 78 = .ok (.invokevirtual 125, 3) := by decide +kernel
theorem d_R_day_81 : decode prog_7_method_47_code 81 = .ok (.invokevirtual 116, 3) := by decide +kernel
theorem d_R_day_84 : decode prog_7_method_47_code 84 = .ok (.ifCond .eq 14, 3) := by decide +kernel
theorem d_R_day_87 : decode prog_7_method_47_code 87 = .ok (.aload_n 0, 1) := by decide +kernel
theorem d_R_day_88 : decode prog_7_method_47_code 88 = .ok (.iload_n 3, 1) := by decide +kernel
theorem d_R_day_89 : decode prog_7_method_47_code 89 = .ok (.aload_n 0, 1) := by decide +kernel
theorem d_R_day_90 : decode prog_7_method_47_code 90 = .ok (.iload_n 3, 1) := by decide +kernel
theorem d_R_day_91 : decode prog_7_method_47_code 91 = .ok (.iconst 1, 1) := by decide +kernel
theorem d_R_day_92 : decode prog_7_method_47_code 92 = .ok (.invokevirtual 125, 3) := by decide +kernel
theorem d_R_day_95 : decode prog_7_method_47_code 95 = .ok (.invokevirtual 177, 3) := by decide +kernel
theorem d_R_day_98 : decode prog_7_method_47_code 98 = .ok (.iinc 3 1, 3) := by decide +kernel
theorem d_R_day_101 : decode prog_7_method_47_code 101 = .ok (.goto (-37), 3) := by decide +kernel
theorem d_R_day_104 : decode prog_7_method_47_code 104 = .ok (.iconst 0, 1) := by decide +kernel
theorem d_R_day_105 : decode prog_7_method_47_code 105 = .ok (.istore_n 3, 1) := by decide +kernel
theorem d_R_day_106 : decode prog_7_method_47_code 106 = .ok (.iload_n 3, 1) := by decide +kernel
theorem d_R_day_107 : decode prog_7_method_47_code 107 = .ok (.aload_n 0, 1) := by decide +kernel
theorem d_R_day_108 : decode prog_7_method_47_code 108 = .ok (.getfield 9, 3) := by decide +kernel
theorem d_R_day_111 : decode prog_7_method_47_code 111 = .ok (.iconst 1, 1) := by decide +kernel
theorem d_R_day_112 : decode prog_7_method_47_code 112 = .ok (.iaload, 1) := by decide +kernel
theorem d_R_day_113 : decode prog_7_method_47_code 113 = .ok (.if_icmp .ge 34, 3) := by decide +kernel
theorem d_R_day_116 : decode prog_7_method_47_code 116 = .ok (.aload_n 0, 1) := by decide +kernel
theorem d_R_day_117 : decode prog_7_method_47_code 117 = .ok (.getfield 9, 3) := by decide +kernel
theorem d_R_day_120 : decode prog_7_method_47_code 120 = .ok (.iload_n 3, 1) := by decide +kernel
theorem d_R_day_121 : decode prog_7_method_47_code 121 = .ok (.iconst 1, 1) := by decide +kernel
theorem d_R_day_122 : decode prog_7_method_47_code 122 = .ok (.invokestatic 85, 3) := by decide +kernel
theorem d_R_day_125 : decode prog_7_method_47_code 125 = .ok (.aload_n 0, 1) := by decide +kernel
theorem d_R_day_126 : decode prog_7_method_47_code 126 = .ok (.iload_n 3, 1) := by decide +kernel
theorem d_R_day_127 : decode prog_7_method_47_code 127 = .ok (.iconst 1, 1) := by decide +kernel
theorem d_R_day_128 : decode prog_7_method_47_code 128 = .ok (.invokevirtual 104, 3) := by decide +kernel
theorem d_R_day_131 : decode prog_7_method_47_code 131 = .ok (.aload_n 0, 1) := by decide +kernel
theorem d_R_day_132 : decode prog_7_method_47_code 132 = .ok (.iload_n 3, 1) := by decide +kernel
theorem d_R_day_133 : decode prog_7_method_47_code 133 = .ok (.invokevirtual 113, 3) := by decide +kernel
theorem d_R_day_136 : decode prog_7_method_47_code 136 = .ok (.iadd, 1) := by decide +kernel
theorem d_R_day_137 : decode prog_7_method_47_code 137 = .ok (.bipush 16, 2) := by decide +kernel
theorem d_R_day_139 : decode prog_7_method_47_code 139 = .ok (.irem, 1) := by decide +kernel
theorem d_R_day_140 : decode prog_7_method_47_code 140 = .ok (.iastore, 1) := by decide +kernel
theorem d_R_day_141 : decode prog_7_method_47_code 141 = .ok (.iinc 3 1, 3) := by decide +kernel
theorem d_R_day_144 : decode prog_7_method_47_code 144 = .ok (.goto (-38), 3) := by decide +kernel
theorem d_R_day_147 : decode prog_7_method_47_code 147 = .ok (.aload_n 0, 1) := by decide +kernel
theorem d_R_day_148 : decode prog_7_method_47_code 148 = .ok (.iconst 0, 1) := by decide +kernel
theorem d_R_day_149 : decode prog_7_method_47_code 149 = .ok (.iconst 1, 1) := by decide +kernel
theorem d_R_day_150 : decode prog_7_method_47_code 150 = .ok (.ldc 181, 2) := by decide +kernel
theorem d_R_day_152 : decode prog_7_method_47_code 152 = .ok (.invokevirtual 161, 3) := by decide +kernel
theorem d_R_day_155 : decode prog_7_method_47_code 155 = .ok (.return_, 1) := by decide +kernel
theorem d_R_daysGo_0 : decode prog_7_method_48_code 0 = .ok (.iconst 0, 1) := by decide +kernel
theorem d_R_daysGo_1 : decode prog_7_method_48_code 1 = .ok (.istore_n 2, 1) := by decide +kernel
theorem d_R_daysGo_2 : decode prog_7_method_48_code 2 = .ok (.iload_n 2, 1) := by decide +kernel
theorem d_R_daysGo_3 : decode prog_7_method_48_code 3 = .ok (.iload_n 1, 1) := by decide +kernel
theorem d_R_daysGo_4 : decode prog_7_method_48_code 4 = .ok (.if_icmp .ge 13, 3) := by decide +kernel
theorem d_R_daysGo_7 : decode prog_7_method_48_code 7 = .ok (.aload_n 0, 1) := by decide +kernel
theorem d_R_daysGo_8 : decode prog_7_method_48_code 8 = .ok (.invokevirtual 182, 3) := by decide +kernel
theorem d_R_daysGo_11 : decode prog_7_method_48_code 11 = .ok (.iinc 2 1, 3) := by decide +kernel
theorem d_R_daysGo_14 : decode prog_7_method_48_code 14 = .ok (.goto (-12), 3) := by decide +kernel
theorem d_R_daysGo_17 : decode prog_7_method_48_code 17 = .ok (.return_, 1) := by decide +kernel
theorem d_R_sumOf_0 : decode prog_7_method_49_code 0 = .ok (.iconst 0, 1) := by decide +kernel
theorem d_R_sumOf_1 : decode prog_7_method_49_code 1 = .ok (.istore_n 2, 1) := by decide +kernel
theorem d_R_sumOf_2 : decode prog_7_method_49_code 2 = .ok (.iconst 0, 1) := by decide +kernel
theorem d_R_sumOf_3 : decode prog_7_method_49_code 3 = .ok (.istore_n 3, 1) := by decide +kernel
theorem d_R_sumOf_4 : decode prog_7_method_49_code 4 = .ok (.iload_n 3, 1) := by decide +kernel
theorem d_R_sumOf_5 : decode prog_7_method_49_code 5 = .ok (.aload_n 0, 1) := by decide +kernel
theorem d_R_sumOf_6 : decode prog_7_method_49_code 6 = .ok (.getfield 9, 3) := by decide +kernel
theorem d_R_sumOf_9 : decode prog_7_method_49_code 9 = .ok (.iconst 3, 1) := by decide +kernel
theorem d_R_sumOf_10 : decode prog_7_method_49_code 10 = .ok (.iaload, 1) := by decide +kernel
theorem d_R_sumOf_11 : decode prog_7_method_49_code 11 = .ok (.if_icmp .ge 18, 3) := by decide +kernel
theorem d_R_sumOf_14 : decode prog_7_method_49_code 14 = .ok (.iload_n 2, 1) := by decide +kernel
theorem d_R_sumOf_15 : decode prog_7_method_49_code 15 = .ok (.aload_n 0, 1) := by decide +kernel
theorem d_R_sumOf_16 : decode prog_7_method_49_code 16 = .ok (.iload_n 3, 1) := by decide +kernel
theorem d_R_sumOf_17 : decode prog_7_method_49_code 17 = .ok (.iload_n 1, 1) := by decide +kernel
theorem d_R_sumOf_18 : decode prog_7_method_49_code 18 = .ok (.invokevirtual 125, 3) := by decide +kernel
theorem d_R_sumOf_21 : decode prog_7_method_49_code 21 = .ok (.iadd, 1) := by decide +kernel
theorem d_R_sumOf_22 : decode prog_7_method_49_code 22 = .ok (.istore_n 2, 1) := by decide +kernel
theorem d_R_sumOf_23 : decode prog_7_method_49_code 23 = .ok (.iinc 3 1, 3) := by decide +kernel
theorem d_R_sumOf_26 : decode prog_7_method_49_code 26 = .ok (.goto (-22), 3) := by decide +kernel
theorem d_R_sumOf_29 : decode prog_7_method_49_code 29 = .ok (.iload_n 2, 1) := by decide +kernel
theorem d_R_sumOf_30 : decode prog_7_method_49_code 30 = .ok (.ireturn, 1) := by decide +kernel
theorem d_R_goingOnes_0 : decode prog_7_method_51_code 0 = .ok (.iconst 0, 1) := by decide +kernel
theorem d_R_goingOnes_1 : decode prog_7_method_51_code 1 = .ok (.istore_n 1, 1) := by decide +kernel
theorem d_R_goingOnes_2 : decode prog_7_method_51_code 2 = .ok (.iconst 0, 1) := by decide +kernel
theorem d_R_goingOnes_3 : decode prog_7_method_51_code 3 = .ok (.istore_n 2, 1) := by decide +kernel
theorem d_R_goingOnes_4 : decode prog_7_method_51_code 4 = .ok (.iload_n 2, 1) := by decide +kernel
theorem d_R_goingOnes_5 : decode prog_7_method_51_code 5 = .ok (.aload_n 0, 1) := by decide +kernel
theorem d_R_goingOnes_6 : decode prog_7_method_51_code 6 = .ok (.getfield 9, 3) := by decide +kernel
theorem d_R_goingOnes_9 : decode prog_7_method_51_code 9 = .ok (.iconst 3, 1) := by decide +kernel
theorem d_R_goingOnes_10 : decode prog_7_method_51_code 10 = .ok (.iaload, 1) := by decide +kernel
theorem d_R_goingOnes_11 : decode prog_7_method_51_code 11 = .ok (.if_icmp .ge 43, 3) := by decide +kernel
theorem d_R_goingOnes_14 : decode prog_7_method_51_code 14 = .ok (.aload_n 0, 1) := by decide +kernel
theorem d_R_goingOnes_15 : decode prog_7_method_51_code 15 = .ok (.iload_n 2, 1) := by decide +kernel
theorem d_R_goingOnes_16 : decode prog_7_method_51_code 16 = .ok (.iconst 1, 1) := by decide +kernel
theorem d_R_goingOnes_17 : decode prog_7_method_51_code 17 = .ok (.invokevirtual 125, 3) := by decide +kernel
theorem d_R_goingOnes_20 : decode prog_7_method_51_code 20 = .ok (.istore_n 3, 1) := by decide +kernel
theorem d_R_goingOnes_21 : decode prog_7_method_51_code 21 = .ok (.iload_n 1, 1) := by decide +kernel
theorem d_R_goingOnes_22 : decode prog_7_method_51_code 22 = .ok (.aload_n 0, 1) := by decide +kernel
theorem d_R_goingOnes_23 : decode prog_7_method_51_code 23 = .ok (.iload_n 3, 1) := by decide +kernel
theorem d_R_goingOnes_24 : decode prog_7_method_51_code 24 = .ok (.invokevirtual 116, 3) := by decide +kernel
theorem d_R_goingOnes_27 : decode prog_7_method_51_code 27 = .ok (.ifCond .eq 18, 3) := by decide +kernel
theorem d_R_goingOnes_30 : decode prog_7_method_51_code 30 = .ok (.aload_n 0, 1) := by decide +kernel
theorem d_R_goingOnes_31 : decode prog_7_method_51_code 31 = .ok (.iload_n 2, 1) := by decide +kernel
theorem d_R_goingOnes_32 : decode prog_7_method_51_code 32 = .ok (.iload_n 3, 1) := by decide +kernel
theorem d_R_goingOnes_33 : decode prog_7_method_51_code 33 = .ok (.invokevirtual 155, 3) := by decide +kernel
theorem d_R_goingOnes_36 : decode prog_7_method_51_code 36 = .ok (.ifCond .eq 9, 3) := by decide +kernel
theorem d_R_goingOnes_39 : decode prog_7_method_51_code 39 = .ok (.iconst 1, 1) := by decide +kernel
theorem d_R_goingOnes_40 : decode prog_7_method_51_code 40 = .ok (.iload_n 2, 1) := by decide +kernel
theorem d_R_goingOnes_41 : decode prog_7_method_51_code 41 = .ok (.ishl, 1) := by decide +kernel
theorem d_R_goingOnes_42 : decode prog_7_method_51_code 42 = .ok (.goto 4, 3) := by decide +kernel
theorem d_R_goingOnes_45 : decode prog_7_method_51_code 45 = .ok (.iconst 0, 1) := by decide +kernel
theorem d_R_goingOnes_46 : decode prog_7_method_51_code 46 = .ok (.ior, 1) := by decide +kernel
theorem d_R_goingOnes_47 : decode prog_7_method_51_code 47 = .ok (.istore_n 1, 1) := by decide +kernel
theorem d_R_goingOnes_48 : decode prog_7_method_51_code 48 = .ok (.iinc 2 1, 3) := by decide +kernel
theorem d_R_goingOnes_51 : decode prog_7_method_51_code 51 = .ok (.goto (-47), 3) := by decide +kernel
theorem d_R_goingOnes_54 : decode prog_7_method_51_code 54 = .ok (.iload_n 1, 1) := by decide +kernel
theorem d_R_goingOnes_55 : decode prog_7_method_51_code 55 = .ok (.ireturn, 1) := by decide +kernel
theorem d_R_caredFor_0 : decode prog_7_method_52_code 0 = .ok (.iconst 0, 1) := by decide +kernel
theorem d_R_caredFor_1 : decode prog_7_method_52_code 1 = .ok (.istore_n 1, 1) := by decide +kernel
theorem d_R_caredFor_2 : decode prog_7_method_52_code 2 = .ok (.iconst 0, 1) := by decide +kernel
theorem d_R_caredFor_3 : decode prog_7_method_52_code 3 = .ok (.istore_n 2, 1) := by decide +kernel
theorem d_R_caredFor_4 : decode prog_7_method_52_code 4 = .ok (.iload_n 2, 1) := by decide +kernel
theorem d_R_caredFor_5 : decode prog_7_method_52_code 5 = .ok (.aload_n 0, 1) := by decide +kernel
theorem d_R_caredFor_6 : decode prog_7_method_52_code 6 = .ok (.getfield 9, 3) := by decide +kernel
theorem d_R_caredFor_9 : decode prog_7_method_52_code 9 = .ok (.iconst 3, 1) := by decide +kernel
theorem d_R_caredFor_10 : decode prog_7_method_52_code 10 = .ok (.iaload, 1) := by decide +kernel
theorem d_R_caredFor_11 : decode prog_7_method_52_code 11 = .ok (.if_icmp .ge 18, 3) := by decide +kernel
theorem d_R_caredFor_14 : decode prog_7_method_52_code 14 = .ok (.iload_n 1, 1) := by decide +kernel
theorem d_R_caredFor_15 : decode prog_7_method_52_code 15 = .ok (.aload_n 0, 1) := by decide +kernel
theorem d_R_caredFor_16 : decode prog_7_method_52_code 16 = .ok (.iload_n 2, 1) := by decide +kernel
theorem d_R_caredFor_17 : decode prog_7_method_52_code 17 = .ok (.iconst 3, 1) := by decide +kernel
theorem d_R_caredFor_18 : decode prog_7_method_52_code 18 = .ok (.invokevirtual 125, 3) := by decide +kernel
theorem d_R_caredFor_21 : decode prog_7_method_52_code 21 = .ok (.ior, 1) := by decide +kernel
theorem d_R_caredFor_22 : decode prog_7_method_52_code 22 = .ok (.istore_n 1, 1) := by decide +kernel
theorem d_R_caredFor_23 : decode prog_7_method_52_code 23 = .ok (.iinc 2 1, 3) := by decide +kernel
theorem d_R_caredFor_26 : decode prog_7_method_52_code 26 = .ok (.goto (-22), 3) := by decide +kernel
theorem d_R_caredFor_29 : decode prog_7_method_52_code 29 = .ok (.iload_n 1, 1) := by decide +kernel
theorem d_R_caredFor_30 : decode prog_7_method_52_code 30 = .ok (.iconst 1, 1) := by decide +kernel
theorem d_R_caredFor_31 : decode prog_7_method_52_code 31 = .ok (.aload_n 0, 1) := by decide +kernel
theorem d_R_caredFor_32 : decode prog_7_method_52_code 32 = .ok (.getfield 9, 3) := by decide +kernel
theorem d_R_caredFor_35 : decode prog_7_method_52_code 35 = .ok (.iconst 1, 1) := by decide +kernel
theorem d_R_caredFor_36 : decode prog_7_method_52_code 36 = .ok (.iaload, 1) := by decide +kernel
theorem d_R_caredFor_37 : decode prog_7_method_52_code 37 = .ok (.ishl, 1) := by decide +kernel
theorem d_R_caredFor_38 : decode prog_7_method_52_code 38 = .ok (.iconst 1, 1) := by decide +kernel
theorem d_R_caredFor_39 : decode prog_7_method_52_code 39 = .ok (.isub, 1) := by decide +kernel
theorem d_R_caredFor_40 : decode prog_7_method_52_code 40 = .ok (.iand, 1) := by decide +kernel
theorem d_R_caredFor_41 : decode prog_7_method_52_code 41 = .ok (.ireturn, 1) := by decide +kernel
theorem d_R_walkersCells_0 : decode prog_7_method_53_code 0 = .ok (.iconst 0, 1) := by decide +kernel
theorem d_R_walkersCells_1 : decode prog_7_method_53_code 1 = .ok (.istore_n 1, 1) := by decide +kernel
theorem d_R_walkersCells_2 : decode prog_7_method_53_code 2 = .ok (.iconst 0, 1) := by decide +kernel
theorem d_R_walkersCells_3 : decode prog_7_method_53_code 3 = .ok (.istore_n 2, 1) := by decide +kernel
theorem d_R_walkersCells_4 : decode prog_7_method_53_code 4 = .ok (.iload_n 2, 1) := by decide +kernel
theorem d_R_walkersCells_5 : decode prog_7_method_53_code 5 = .ok (.aload_n 0, 1) := by decide +kernel
theorem d_R_walkersCells_6 : decode prog_7_method_53_code 6 = .ok (.getfield 9, 3) := by decide +kernel
theorem d_R_walkersCells_9 : decode prog_7_method_53_code 9 = .ok (.iconst 3, 1) := by decide +kernel
theorem d_R_walkersCells_10 : decode prog_7_method_53_code 10 = .ok (.iaload, 1) := by decide +kernel
theorem d_R_walkersCells_11 : decode prog_7_method_53_code 11 = .ok (.if_icmp .ge 20, 3) := by decide +kernel
theorem d_R_walkersCells_14 : decode prog_7_method_53_code 14 = .ok (.iload_n 1, 1) := by decide +kernel
theorem d_R_walkersCells_15 : decode prog_7_method_53_code 15 = .ok (.iconst 1, 1) := by decide +kernel
theorem d_R_walkersCells_16 : decode prog_7_method_53_code 16 = .ok (.aload_n 0, 1) := by decide +kernel
theorem d_R_walkersCells_17 : decode prog_7_method_53_code 17 = .ok (.iload_n 2, 1) := by decide +kernel
theorem d_R_walkersCells_18 : decode prog_7_method_53_code 18 = .ok (.iconst 0, 1) := by decide +kernel
theorem d_R_walkersCells_19 : decode prog_7_method_53_code 19 = .ok (.invokevirtual 125, 3) := by decide +kernel
theorem d_R_walkersCells_22 : decode prog_7_method_53_code 22 = .ok (.ishl, 1) := by decide +kernel
theorem d_R_walkersCells_23 : decode prog_7_method_53_code 23 = .ok (.ior, 1) := by decide +kernel
theorem d_R_walkersCells_24 : decode prog_7_method_53_code 24 = .ok (.istore_n 1, 1) := by decide +kernel
theorem d_R_walkersCells_25 : decode prog_7_method_53_code 25 = .ok (.iinc 2 1, 3) := by decide +kernel
theorem d_R_walkersCells_28 : decode prog_7_method_53_code 28 = .ok (.goto (-24), 3) := by decide +kernel
theorem d_R_walkersCells_31 : decode prog_7_method_53_code 31 = .ok (.iload_n 1, 1) := by decide +kernel
theorem d_R_walkersCells_32 : decode prog_7_method_53_code 32 = .ok (.ireturn, 1) := by decide +kernel
theorem d_R_thingsCells_0 : decode prog_7_method_54_code 0 = .ok (.iconst 0, 1) := by decide +kernel
theorem d_R_thingsCells_1 : decode prog_7_method_54_code 1 = .ok (.istore_n 1, 1) := by decide +kernel
theorem d_R_thingsCells_2 : decode prog_7_method_54_code 2 = .ok (.iconst 0, 1) := by decide +kernel
theorem d_R_thingsCells_3 : decode prog_7_method_54_code 3 = .ok (.istore_n 2, 1) := by decide +kernel
theorem d_R_thingsCells_4 : decode prog_7_method_54_code 4 = .ok (.iload_n 2, 1) := by decide +kernel
theorem d_R_thingsCells_5 : decode prog_7_method_54_code 5 = .ok (.aload_n 0, 1) := by decide +kernel
theorem d_R_thingsCells_6 : decode prog_7_method_54_code 6 = .ok (.getfield 9, 3) := by decide +kernel
theorem d_R_thingsCells_9 : decode prog_7_method_54_code 9 = .ok (.iconst 1, 1) := by decide +kernel
theorem d_R_thingsCells_10 : decode prog_7_method_54_code 10 = .ok (.iaload, 1) := by decide +kernel
theorem d_R_thingsCells_11 : decode prog_7_method_54_code 11 = .ok (.if_icmp .ge 20, 3) := by decide +kernel
theorem d_R_thingsCells_14 : decode prog_7_method_54_code 14 = .ok (.iload_n 1, 1) := by decide +kernel
theorem d_R_thingsCells_15 : decode prog_7_method_54_code 15 = .ok (.iconst 1, 1) := by decide +kernel
theorem d_R_thingsCells_16 : decode prog_7_method_54_code 16 = .ok (.aload_n 0, 1) := by decide +kernel
theorem d_R_thingsCells_17 : decode prog_7_method_54_code 17 = .ok (.iload_n 2, 1) := by decide +kernel
theorem d_R_thingsCells_18 : decode prog_7_method_54_code 18 = .ok (.iconst 1, 1) := by decide +kernel
theorem d_R_thingsCells_19 : decode prog_7_method_54_code 19 = .ok (.invokevirtual 104, 3) := by decide +kernel
theorem d_R_thingsCells_22 : decode prog_7_method_54_code 22 = .ok (.ishl, 1) := by decide +kernel
theorem d_R_thingsCells_23 : decode prog_7_method_54_code 23 = .ok (.ior, 1) := by decide +kernel
theorem d_R_thingsCells_24 : decode prog_7_method_54_code 24 = .ok (.istore_n 1, 1) := by decide +kernel
theorem d_R_thingsCells_25 : decode prog_7_method_54_code 25 = .ok (.iinc 2 1, 3) := by decide +kernel
theorem d_R_thingsCells_28 : decode prog_7_method_54_code 28 = .ok (.goto (-24), 3) := by decide +kernel
theorem d_R_thingsCells_31 : decode prog_7_method_54_code 31 = .ok (.iload_n 1, 1) := by decide +kernel
theorem d_R_thingsCells_32 : decode prog_7_method_54_code 32 = .ok (.ireturn, 1) := by decide +kernel
theorem d_R_unseen_0 : decode prog_7_method_55_code 0 = .ok (.iconst 0, 1) := by decide +kernel
theorem d_R_unseen_1 : decode prog_7_method_55_code 1 = .ok (.istore_n 1, 1) := by decide +kernel
theorem d_R_unseen_2 : decode prog_7_method_55_code 2 = .ok (.iconst 0, 1) := by decide +kernel
theorem d_R_unseen_3 : decode prog_7_method_55_code 3 = .ok (.istore_n 2, 1) := by decide +kernel
theorem d_R_unseen_4 : decode prog_7_method_55_code 4 = .ok (.iload_n 2, 1) := by decide +kernel
theorem d_R_unseen_5 : decode prog_7_method_55_code 5 = .ok (.aload_n 0, 1) := by decide +kernel
theorem d_R_unseen_6 : decode prog_7_method_55_code 6 = .ok (.getfield 9, 3) := by decide +kernel
theorem d_R_unseen_9 : decode prog_7_method_55_code 9 = .ok (.iconst 1, 1) := by decide +kernel
theorem d_R_unseen_10 : decode prog_7_method_55_code 10 = .ok (.iaload, 1) := by decide +kernel
theorem d_R_unseen_11 : decode prog_7_method_55_code 11 = .ok (.if_icmp .ge 27, 3) := by decide +kernel
theorem d_R_unseen_14 : decode prog_7_method_55_code 14 = .ok (.iload_n 1, 1) := by decide +kernel
theorem d_R_unseen_15 : decode prog_7_method_55_code 15 = .ok (.aload_n 0, 1) := by decide +kernel
theorem d_R_unseen_16 : decode prog_7_method_55_code 16 = .ok (.iload_n 2, 1) := by decide +kernel
theorem d_R_unseen_17 : decode prog_7_method_55_code 17 = .ok (.invokevirtual 149, 3) := by decide +kernel
theorem d_R_unseen_20 : decode prog_7_method_55_code 20 = .ok (.ifCond .ne 9, 3) := by decide +kernel
theorem d_R_unseen_23 : decode prog_7_method_55_code 23 = .ok (.iconst 1, 1) := by decide +kernel
theorem d_R_unseen_24 : decode prog_7_method_55_code 24 = .ok (.iload_n 2, 1) := by decide +kernel
theorem d_R_unseen_25 : decode prog_7_method_55_code 25 = .ok (.ishl, 1) := by decide +kernel
theorem d_R_unseen_26 : decode prog_7_method_55_code 26 = .ok (.goto 4, 3) := by decide +kernel
theorem d_R_unseen_29 : decode prog_7_method_55_code 29 = .ok (.iconst 0, 1) := by decide +kernel
theorem d_R_unseen_30 : decode prog_7_method_55_code 30 = .ok (.ior, 1) := by decide +kernel
theorem d_R_unseen_31 : decode prog_7_method_55_code 31 = .ok (.istore_n 1, 1) := by decide +kernel
theorem d_R_unseen_32 : decode prog_7_method_55_code 32 = .ok (.iinc 2 1, 3) := by decide +kernel
theorem d_R_unseen_35 : decode prog_7_method_55_code 35 = .ok (.goto (-31), 3) := by decide +kernel
theorem d_R_unseen_38 : decode prog_7_method_55_code 38 = .ok (.iload_n 1, 1) := by decide +kernel
theorem d_R_unseen_39 : decode prog_7_method_55_code 39 = .ok (.ireturn, 1) := by decide +kernel
set_option maxHeartbeats 1000000 in
set_option maxRecDepth 20000 in
theorem c_R_walks (l : Launch) (E : QE) (S : QM) (ν : Nat → Int32) (hν : S 16 = ν) (hwf : WF ν) (w t : Nat) (hw : w < nW ν) (ht : t < nT ν) : qCV E l y_R_walks prog_7_method_46_code 6 6 [.ref (eA E 70), .int (nI w), .int (nI t)] S (qr S 16 (walkS ν w t (fnd ν w t))) := by
  refine qCV_of (by decide) (Nat.le_of_ble_eq_true rfl) (fun p e s m below meth c ls X hW hl => ?_)
  have hl : lv_has ls 6 [(0, .ref (eA E 70)), (1, .int (nI w)), (2, .int (nI t))] := hl
  have htl := hwf.tl
  have hwl := hwf.wl
  have hdl := hwf.dl
  refine lv_iload_n X.x X.b d_R_walks_0 rfl (lv_at hl 1 rfl) ?_
  refine lv_iconst (v := nI 0) X.x X.b d_R_walks_1 (by decide) ?_
  refine q_csi X (c_R_walkerAt_z l E S w) hW ok_R_walkerAt mw_802 ⟨by decide, by decide⟩ (As := [.int (nI w), .int (nI 0)]) rfl rfl (Nat.le_of_ble_eq_true rfl) (lv := [(0, .ref (eA E 70)), (1, .int (nI w)), (2, .int (nI t))]) hl ⟨Nat.le_refl 0, Nat.le_refl 0⟩ d_R_walks_2 (fun H locs hW => ?_)
  refine lv_istore_n (lv' := [(3, .int (nI (44 + 6 * w))), (0, .ref (eA E 70)), (1, .int (nI w)), (2, .int (nI t))]) X.x X.b d_R_walks_5 rfl hl (by decide) rfl (fun ls hl => ?_)
  refine lv_aload_n X.x X.b d_R_walks_6 rfl (lv_at hl 1 rfl) ?_
  refine lv_iload_n X.x X.b d_R_walks_7 rfl (lv_at hl 3 rfl) ?_
  refine lv_iconst (v := nI 1) X.x X.b d_R_walks_8 (by decide) ?_
  refine q_cvi X (c_R_thingIs l E S ν (by rw [hν]) t 1 (by omega) (by omega)) hW (q_recv X hW ds_R rfl) ok_R_thingIs mw_821 ⟨by decide, by decide⟩ (As := [.int (nI t), .int (nI 1)]) rfl rfl (Nat.le_of_ble_eq_true rfl) (lv := [(3, .int (nI (44 + 6 * w))), (0, .ref (eA E 70)), (1, .int (nI w)), (2, .int (nI t))]) hl ⟨Nat.le_refl 0, Nat.le_refl 0⟩ d_R_walks_9 (fun H locs hW => ?_)
  refine lv_istore (lv' := [(4, .int (ν (20 + 3 * t + 1))), (3, .int (nI (44 + 6 * w))), (0, .ref (eA E 70)), (1, .int (nI w)), (2, .int (nI t))]) X.x X.b d_R_walks_12 hl (by decide) rfl (fun ls hl => ?_)
  refine lv_aload_n X.x X.b d_R_walks_14 rfl (lv_at hl 2 rfl) ?_
  refine lv_iload_n X.x X.b d_R_walks_15 rfl (lv_at hl 3 rfl) ?_
  refine lv_iload_n X.x X.b d_R_walks_16 rfl (lv_at hl 4 rfl) ?_
  refine q_cvi X (c_R_isGuided l E S ν (by rw [hν]) hwf w t (by omega) (by omega)) hW (q_recv X hW ds_R rfl) ok_R_isGuided mw_909 ⟨by decide, by decide⟩ (As := [.int (nI w), .int (nI t)]) rfl rfl (Nat.le_of_ble_eq_true rfl) (lv := [(4, .int (ν (20 + 3 * t + 1))), (3, .int (nI (44 + 6 * w))), (0, .ref (eA E 70)), (1, .int (nI w)), (2, .int (nI t))]) hl ⟨Nat.le_refl 0, Nat.le_refl 0⟩ d_R_walks_17 (fun H locs hW => ?_)
  refine lv_if_eq (tgt := 82) X.x X.b d_R_walks_20 (by decide) (fun c20 => ?_) (fun c20 => ?_)
  · have c20 := b2i_e c20
    refine lv_aload_n X.x X.b d_R_walks_82 rfl (lv_at hl 2 rfl) ?_
    refine q_getr X hW qj4 rfl _ ds_R 0 (by decide) mw_686 rfl (c1 := 71) rfl d_R_walks_83 ?_
    refine lv_iload_n X.x X.b d_R_walks_86 rfl (lv_at hl 1 rfl) ?_
    refine lv_aload_n X.x X.b d_R_walks_87 rfl (lv_at hl 2 rfl) ?_
    refine q_getr X hW qj4 rfl _ ds_R 0 (by decide) mw_686 rfl (c1 := 71) rfl d_R_walks_88 ?_
    refine lv_iload_n X.x X.b d_R_walks_91 rfl (lv_at hl 1 rfl) ?_
    refine g_ald X hW ds_71 (q_in (by omega) (by decide)) (p0 := 44 + 6 * w) (q_tn (by omega) (by omega)) (v := ν (44 + 6 * w)) (by rw [hν]) d_R_walks_92 ?_
    refine lv_iconst (v := nI 1) X.x X.b d_R_walks_93 (by decide) ?_
    refine lv_iadd X.x X.b d_R_walks_94 ?_
    refine lv_bipush (v := nI 16) X.x X.b d_R_walks_95 (by decide) ?_
    refine lv_irem X.x X.b d_R_walks_97 (by decide) ?_
    refine g_ast X hW ds_71 (q_in (by omega) (by decide)) (p0 := 44 + 6 * w) (q_tn (by omega) (by omega)) (ρ := ν) (by rw [hν]) d_R_walks_98 (fun H locs hW => ?_)
    obtain ⟨r98, er98⟩ : ∃ z, z = upd ν (44 + 6 * w) (((ν (44 + 6 * w)) + (nI 1)) - ((ν (44 + 6 * w)) + (nI 1)) / (nI 16) * (nI 16)) := ⟨_, rfl⟩
    rw [← er98] at hW
    refine lv_aload_n X.x X.b d_R_walks_99 rfl (lv_at hl 2 rfl) ?_
    refine lv_iload_n X.x X.b d_R_walks_100 rfl (lv_at hl 3 rfl) ?_
    refine lv_iconst (v := nI 5) X.x X.b d_R_walks_101 (by decide) ?_
    refine q_csi X (c_R_walkerAt l E (qr S 16 r98) w 5) hW ok_R_walkerAt mw_802 ⟨by decide, by decide⟩ (As := [.int (nI w), .int (nI 5)]) rfl rfl (Nat.le_of_ble_eq_true rfl) (lv := [(4, .int (ν (20 + 3 * t + 1))), (3, .int (nI (44 + 6 * w))), (0, .ref (eA E 70)), (1, .int (nI w)), (2, .int (nI t))]) hl ⟨Nat.le_refl 0, Nat.le_refl 0⟩ d_R_walks_102 (fun H locs hW => ?_)
    refine lv_iconst (v := nI 1) X.x X.b d_R_walks_105 (by decide) ?_
    refine lv_sipush (v := nI 9999) X.x X.b d_R_walks_106 (by decide) ?_
    refine q_cvv X (c_R_more l E (qr S 16 r98) r98 (by rw [qr_at]) (44 + 6 * w + 5) (nI 1) (nI 9999) (by omega)) hW (q_recv X hW ds_R rfl) ok_R_more mw_915 ⟨by decide, by decide⟩ (As := [.int (nI (44 + 6 * w + 5)), .int (nI 1), .int (nI 9999)]) rfl rfl (Nat.le_of_ble_eq_true rfl) (lv := [(4, .int (ν (20 + 3 * t + 1))), (3, .int (nI (44 + 6 * w))), (0, .ref (eA E 70)), (1, .int (nI w)), (2, .int (nI t))]) hl ⟨Nat.le_refl 0, Nat.le_refl 0⟩ d_R_walks_109 (fun H locs hW => ?_)
    have hW : qWH E (qr S 16 (moreS r98 (44 + 6 * w + 5) (nI 1) (nI 9999))) s H locs := (by have h := hW; rw [qr_qr] at h; exact h)
    obtain ⟨g112, eg112⟩ : ∃ z, z = moreS r98 (44 + 6 * w + 5) (nI 1) (nI 9999) := ⟨_, rfl⟩
    rw [← eg112] at hW
    have hg : goS ν w t (fnd ν w t) = g112 := by rw [eg112, er98]; unfold goS moreS; rw [if_neg c20, upN (by omega)]; rfl
    refine lv_aload_n X.x X.b d_R_walks_112 rfl (lv_at hl 2 rfl) ?_
    refine q_getr X hW qj4 rfl _ ds_R 0 (by decide) mw_686 rfl (c1 := 71) rfl d_R_walks_113 ?_
    refine lv_iload_n X.x X.b d_R_walks_116 rfl (lv_at hl 1 rfl) ?_
    refine g_ald X hW ds_71 (q_in (by omega) (by decide)) (p0 := 44 + 6 * w) (q_tn (by omega) (by omega)) (v := g112 (44 + 6 * w)) (by rw [qr_at]) d_R_walks_117 ?_
    refine lv_iload X.x X.b d_R_walks_118 (lv_at hl 0 rfl) ?_
    refine lv_icmp_ne (tgt := 166) X.x X.b d_R_walks_120 (by decide) (fun c120 => ?_) (fun c120 => ?_)
    · exact q_vret X hW (by unfold walkS; rw [hg, if_neg c120]) d_R_walks_166
    · refine lv_aload_n X.x X.b d_R_walks_123 rfl (lv_at hl 2 rfl) ?_
      refine lv_iload_n X.x X.b d_R_walks_124 rfl (lv_at hl 3 rfl) ?_
      refine lv_iconst (v := nI 4) X.x X.b d_R_walks_125 (by decide) ?_
      refine q_csi X (c_R_walkerAt l E (qr S 16 g112) w 4) hW ok_R_walkerAt mw_802 ⟨by decide, by decide⟩ (As := [.int (nI w), .int (nI 4)]) rfl rfl (Nat.le_of_ble_eq_true rfl) (lv := [(4, .int (ν (20 + 3 * t + 1))), (3, .int (nI (44 + 6 * w))), (0, .ref (eA E 70)), (1, .int (nI w)), (2, .int (nI t))]) hl ⟨Nat.le_refl 0, Nat.le_refl 0⟩ d_R_walks_126 (fun H locs hW => ?_)
      refine lv_iconst (v := nI 1) X.x X.b d_R_walks_129 (by decide) ?_
      refine lv_sipush (v := nI 9999) X.x X.b d_R_walks_130 (by decide) ?_
      refine q_cvv X (c_R_more l E (qr S 16 g112) g112 (by rw [qr_at]) (44 + 6 * w + 4) (nI 1) (nI 9999) (by omega)) hW (q_recv X hW ds_R rfl) ok_R_more mw_915 ⟨by decide, by decide⟩ (As := [.int (nI (44 + 6 * w + 4)), .int (nI 1), .int (nI 9999)]) rfl rfl (Nat.le_of_ble_eq_true rfl) (lv := [(4, .int (ν (20 + 3 * t + 1))), (3, .int (nI (44 + 6 * w))), (0, .ref (eA E 70)), (1, .int (nI w)), (2, .int (nI t))]) hl ⟨Nat.le_refl 0, Nat.le_refl 0⟩ d_R_walks_133 (fun H locs hW => ?_)
      have hW : qWH E (qr S 16 (moreS g112 (44 + 6 * w + 4) (nI 1) (nI 9999))) s H locs := (by have h := hW; rw [qr_qr] at h; exact h)
      refine lv_aload_n X.x X.b d_R_walks_136 rfl (lv_at hl 2 rfl) ?_
      refine lv_iload_n X.x X.b d_R_walks_137 rfl (lv_at hl 4 rfl) ?_
      refine lv_iconst (v := nI 2) X.x X.b d_R_walks_138 (by decide) ?_
      refine q_csi X (c_R_thingAt l E (qr S 16 (moreS g112 (44 + 6 * w + 4) (nI 1) (nI 9999))) t 2) hW ok_R_thingAt mw_791 ⟨by decide, by decide⟩ (As := [.int (nI t), .int (nI 2)]) rfl rfl (Nat.le_of_ble_eq_true rfl) (lv := [(4, .int (ν (20 + 3 * t + 1))), (3, .int (nI (44 + 6 * w))), (0, .ref (eA E 70)), (1, .int (nI w)), (2, .int (nI t))]) hl ⟨Nat.le_refl 0, Nat.le_refl 0⟩ d_R_walks_139 (fun H locs hW => ?_)
      refine lv_iconst (v := nI 1) X.x X.b d_R_walks_142 (by decide) ?_
      refine lv_sipush (v := nI 9999) X.x X.b d_R_walks_143 (by decide) ?_
      refine q_cvv X (c_R_more l E (qr S 16 (moreS g112 (44 + 6 * w + 4) (nI 1) (nI 9999))) (moreS g112 (44 + 6 * w + 4) (nI 1) (nI 9999)) (by rw [qr_at]) (20 + 3 * t + 2) (nI 1) (nI 9999) (by omega)) hW (q_recv X hW ds_R rfl) ok_R_more mw_915 ⟨by decide, by decide⟩ (As := [.int (nI (20 + 3 * t + 2)), .int (nI 1), .int (nI 9999)]) rfl rfl (Nat.le_of_ble_eq_true rfl) (lv := [(4, .int (ν (20 + 3 * t + 1))), (3, .int (nI (44 + 6 * w))), (0, .ref (eA E 70)), (1, .int (nI w)), (2, .int (nI t))]) hl ⟨Nat.le_refl 0, Nat.le_refl 0⟩ d_R_walks_146 (fun H locs hW => ?_)
      have hW : qWH E (qr S 16 (moreS (moreS g112 (44 + 6 * w + 4) (nI 1) (nI 9999)) (20 + 3 * t + 2) (nI 1) (nI 9999))) s H locs := (by have h := hW; rw [qr_qr] at h; exact h)
      refine lv_aload_n X.x X.b d_R_walks_149 rfl (lv_at hl 2 rfl) ?_
      refine lv_iload_n X.x X.b d_R_walks_150 rfl (lv_at hl 3 rfl) ?_
      refine lv_iload_n X.x X.b d_R_walks_151 rfl (lv_at hl 4 rfl) ?_
      refine lv_aload_n X.x X.b d_R_walks_152 rfl (lv_at hl 2 rfl) ?_
      refine lv_iload_n X.x X.b d_R_walks_153 rfl (lv_at hl 4 rfl) ?_
      refine lv_aload_n X.x X.b d_R_walks_154 rfl (lv_at hl 2 rfl) ?_
      refine lv_iload_n X.x X.b d_R_walks_155 rfl (lv_at hl 3 rfl) ?_
      refine lv_iload_n X.x X.b d_R_walks_156 rfl (lv_at hl 4 rfl) ?_
      refine q_cvi X (c_R_doesCare l E (qr S 16 (moreS (moreS g112 (44 + 6 * w + 4) (nI 1) (nI 9999)) (20 + 3 * t + 2) (nI 1) (nI 9999))) (moreS (moreS g112 (44 + 6 * w + 4) (nI 1) (nI 9999)) (20 + 3 * t + 2) (nI 1) (nI 9999)) (by rw [qr_at]) w t (by omega) (by omega)) hW (q_recv X hW ds_R rfl) ok_R_doesCare mw_871 ⟨by decide, by decide⟩ (As := [.int (nI w), .int (nI t)]) rfl rfl (Nat.le_of_ble_eq_true rfl) (lv := [(4, .int (ν (20 + 3 * t + 1))), (3, .int (nI (44 + 6 * w))), (0, .ref (eA E 70)), (1, .int (nI w)), (2, .int (nI t))]) hl ⟨Nat.le_refl 0, Nat.le_refl 0⟩ d_R_walks_157 (fun H locs hW => ?_)
      refine q_cvi X (c_R_touches l E (qr S 16 (moreS (moreS g112 (44 + 6 * w + 4) (nI 1) (nI 9999)) (20 + 3 * t + 2) (nI 1) (nI 9999))) (moreS (moreS g112 (44 + 6 * w + 4) (nI 1) (nI 9999)) (20 + 3 * t + 2) (nI 1) (nI 9999)) (by rw [qr_at]) t (by omega) (b2i (care ((moreS (moreS g112 (44 + 6 * w + 4) (nI 1) (nI 9999)) (20 + 3 * t + 2) (nI 1) (nI 9999)) (44 + 6 * w + 3)) t)) b2i_01) hW (q_recv X hW ds_R rfl) ok_R_touches mw_919 ⟨by decide, by decide⟩ (As := [.int (nI t), .int (b2i (care ((moreS (moreS g112 (44 + 6 * w + 4) (nI 1) (nI 9999)) (20 + 3 * t + 2) (nI 1) (nI 9999)) (44 + 6 * w + 3)) t))]) rfl rfl (Nat.le_of_ble_eq_true rfl) (lv := [(4, .int (ν (20 + 3 * t + 1))), (3, .int (nI (44 + 6 * w))), (0, .ref (eA E 70)), (1, .int (nI w)), (2, .int (nI t))]) hl ⟨Nat.le_refl 0, Nat.le_refl 0⟩ d_R_walks_160 (fun H locs hW => ?_)
      refine q_cvv X (c_R_cares l E (qr S 16 (moreS (moreS g112 (44 + 6 * w + 4) (nI 1) (nI 9999)) (20 + 3 * t + 2) (nI 1) (nI 9999))) (moreS (moreS g112 (44 + 6 * w + 4) (nI 1) (nI 9999)) (20 + 3 * t + 2) (nI 1) (nI 9999)) (by rw [qr_at]) w t (by omega) (by omega) (tch ((moreS (moreS g112 (44 + 6 * w + 4) (nI 1) (nI 9999)) (20 + 3 * t + 2) (nI 1) (nI 9999)) (20 + 3 * t)) (b2i (care ((moreS (moreS g112 (44 + 6 * w + 4) (nI 1) (nI 9999)) (20 + 3 * t + 2) (nI 1) (nI 9999)) (44 + 6 * w + 3)) t)))) hW (q_recv X hW ds_R rfl) ok_R_cares mw_901 ⟨by decide, by decide⟩ (As := [.int (nI w), .int (nI t), .int (tch ((moreS (moreS g112 (44 + 6 * w + 4) (nI 1) (nI 9999)) (20 + 3 * t + 2) (nI 1) (nI 9999)) (20 + 3 * t)) (b2i (care ((moreS (moreS g112 (44 + 6 * w + 4) (nI 1) (nI 9999)) (20 + 3 * t + 2) (nI 1) (nI 9999)) (44 + 6 * w + 3)) t)))]) rfl rfl (Nat.le_of_ble_eq_true rfl) (lv := [(4, .int (ν (20 + 3 * t + 1))), (3, .int (nI (44 + 6 * w))), (0, .ref (eA E 70)), (1, .int (nI w)), (2, .int (nI t))]) hl ⟨Nat.le_refl 0, Nat.le_refl 0⟩ d_R_walks_163 (fun H locs hW => ?_)
      have hW : qWH E (qr S 16 (crS (moreS (moreS g112 (44 + 6 * w + 4) (nI 1) (nI 9999)) (20 + 3 * t + 2) (nI 1) (nI 9999)) w t (tch ((moreS (moreS g112 (44 + 6 * w + 4) (nI 1) (nI 9999)) (20 + 3 * t + 2) (nI 1) (nI 9999)) (20 + 3 * t)) (b2i (care ((moreS (moreS g112 (44 + 6 * w + 4) (nI 1) (nI 9999)) (20 + 3 * t + 2) (nI 1) (nI 9999)) (44 + 6 * w + 3)) t))))) s H locs := (by have h := hW; rw [qr_qr] at h; exact h)
      have e3 : (moreS (moreS g112 (44 + 6 * w + 4) (nI 1) (nI 9999)) (20 + 3 * t + 2) (nI 1) (nI 9999)) (44 + 6 * w + 3) = g112 (44 + 6 * w + 3) := by unfold moreS; rw [upN (by omega), upN (by omega)]
      have e0 : (moreS (moreS g112 (44 + 6 * w + 4) (nI 1) (nI 9999)) (20 + 3 * t + 2) (nI 1) (nI 9999)) (20 + 3 * t) = g112 (20 + 3 * t) := by unfold moreS; rw [upN (by omega), upN (by omega)]
      exact q_vret X hW (by unfold walkS; rw [hg, if_pos c120]; unfold crS arrS; rw [e3, e0]; unfold moreS; rw [upN (f := g112) (by omega)]; rfl) d_R_walks_166
  · have c20 := b2i_n c20
    refine lv_aload_n X.x X.b d_R_walks_23 rfl (lv_at hl 2 rfl) ?_
    refine lv_iload_n X.x X.b d_R_walks_24 rfl (lv_at hl 3 rfl) ?_
    refine lv_iconst (v := nI 2) X.x X.b d_R_walks_25 (by decide) ?_
    refine q_cvi X (c_R_walkerIs l E S ν (by rw [hν]) w 2 (by omega) (by omega)) hW (q_recv X hW ds_R rfl) ok_R_walkerIs mw_845 ⟨by decide, by decide⟩ (As := [.int (nI w), .int (nI 2)]) rfl rfl (Nat.le_of_ble_eq_true rfl) (lv := [(4, .int (ν (20 + 3 * t + 1))), (3, .int (nI (44 + 6 * w))), (0, .ref (eA E 70)), (1, .int (nI w)), (2, .int (nI t))]) hl ⟨Nat.le_refl 0, Nat.le_refl 0⟩ d_R_walks_26 (fun H locs hW => ?_)
    refine lv_istore (lv' := [(5, .int (ν (44 + 6 * w + 2))), (4, .int (ν (20 + 3 * t + 1))), (3, .int (nI (44 + 6 * w))), (0, .ref (eA E 70)), (1, .int (nI w)), (2, .int (nI t))]) X.x X.b d_R_walks_29 hl (by decide) rfl (fun ls hl => ?_)
    refine lv_aload_n X.x X.b d_R_walks_31 rfl (lv_at hl 3 rfl) ?_
    refine q_getr X hW qj4 rfl _ ds_R 0 (by decide) mw_686 rfl (c1 := 71) rfl d_R_walks_32 ?_
    refine lv_iload_n X.x X.b d_R_walks_35 rfl (lv_at hl 2 rfl) ?_
    refine lv_iload X.x X.b d_R_walks_36 (lv_at hl 1 rfl) ?_
    refine lv_aload_n X.x X.b d_R_walks_38 rfl (lv_at hl 3 rfl) ?_
    refine q_getr X hW qj4 rfl _ ds_R 0 (by decide) mw_686 rfl (c1 := 71) rfl d_R_walks_39 ?_
    refine lv_iload_n X.x X.b d_R_walks_42 rfl (lv_at hl 2 rfl) ?_
    refine g_ald X hW ds_71 (q_in (by omega) (by decide)) (p0 := 44 + 6 * w) (q_tn (by omega) (by omega)) (v := ν (44 + 6 * w)) (by rw [hν]) d_R_walks_43 ?_
    refine lv_icmp_le (tgt := 64) X.x X.b d_R_walks_44 (by decide) (fun c44 => ?_) (fun c44 => ?_)
    · refine lv_iload X.x X.b d_R_walks_64 (lv_at hl 1 rfl) ?_
      refine lv_aload_n X.x X.b d_R_walks_66 rfl (lv_at hl 3 rfl) ?_
      refine q_getr X hW qj4 rfl _ ds_R 0 (by decide) mw_686 rfl (c1 := 71) rfl d_R_walks_67 ?_
      refine lv_iload_n X.x X.b d_R_walks_70 rfl (lv_at hl 2 rfl) ?_
      refine g_ald X hW ds_71 (q_in (by omega) (by decide)) (p0 := 44 + 6 * w) (q_tn (by omega) (by omega)) (v := ν (44 + 6 * w)) (by rw [hν]) d_R_walks_71 ?_
      refine lv_iload X.x X.b d_R_walks_72 (lv_at hl 0 rfl) ?_
      refine lv_isub X.x X.b d_R_walks_74 ?_
      refine va_mmax X.x X.b (X.ml.trans hl.1.symm) X.ow (X.ts _ mw_914) (X.ts _ (qTB_in (i := 327) (by decide +kernel) rfl)) (X.ts _ (qTB_in (i := 73) (by decide +kernel) rfl)) (X.ts _ (qTB_in (i := 328) (by decide +kernel) rfl)) (by decide) (Nat.le_of_ble_eq_true rfl) (Nat.le_refl 0) (Nat.le_refl 0) d_R_walks_75 ?_
      refine lv_topi (fun x75 ex75 => ?_)
      refine g_ast X hW ds_71 (q_in (by omega) (by decide)) (p0 := 44 + 6 * w) (q_tn (by omega) (by omega)) (ρ := ν) (by rw [hν]) d_R_walks_78 (fun H locs hW => ?_)
      obtain ⟨r78, er78⟩ : ∃ z, z = upd ν (44 + 6 * w) x75 := ⟨_, rfl⟩
      rw [← er78] at hW
      refine lv_goto (tgt := 112) X.x X.b d_R_walks_79 (by decide) ?_
      obtain ⟨g112, eg112⟩ : ∃ z, z = r78 := ⟨_, rfl⟩
      rw [← eg112] at hW
      have hg : goS ν w t (fnd ν w t) = g112 := by unfold goS stp imx; rw [if_pos c20, eg112, er78, if_neg (Int32.not_lt.mpr c44), ← ex75]
      refine lv_aload_n X.x X.b d_R_walks_112 rfl (lv_at hl 3 rfl) ?_
      refine q_getr X hW qj4 rfl _ ds_R 0 (by decide) mw_686 rfl (c1 := 71) rfl d_R_walks_113 ?_
      refine lv_iload_n X.x X.b d_R_walks_116 rfl (lv_at hl 2 rfl) ?_
      refine g_ald X hW ds_71 (q_in (by omega) (by decide)) (p0 := 44 + 6 * w) (q_tn (by omega) (by omega)) (v := g112 (44 + 6 * w)) (by rw [qr_at]) d_R_walks_117 ?_
      refine lv_iload X.x X.b d_R_walks_118 (lv_at hl 1 rfl) ?_
      refine lv_icmp_ne (tgt := 166) X.x X.b d_R_walks_120 (by decide) (fun c120 => ?_) (fun c120 => ?_)
      · exact q_vret X hW (by unfold walkS; rw [hg, if_neg c120]) d_R_walks_166
      · refine lv_aload_n X.x X.b d_R_walks_123 rfl (lv_at hl 3 rfl) ?_
        refine lv_iload_n X.x X.b d_R_walks_124 rfl (lv_at hl 4 rfl) ?_
        refine lv_iconst (v := nI 4) X.x X.b d_R_walks_125 (by decide) ?_
        refine q_csi X (c_R_walkerAt l E (qr S 16 g112) w 4) hW ok_R_walkerAt mw_802 ⟨by decide, by decide⟩ (As := [.int (nI w), .int (nI 4)]) rfl rfl (Nat.le_of_ble_eq_true rfl) (lv := [(5, .int (ν (44 + 6 * w + 2))), (4, .int (ν (20 + 3 * t + 1))), (3, .int (nI (44 + 6 * w))), (0, .ref (eA E 70)), (1, .int (nI w)), (2, .int (nI t))]) hl ⟨Nat.le_refl 0, Nat.le_refl 0⟩ d_R_walks_126 (fun H locs hW => ?_)
        refine lv_iconst (v := nI 1) X.x X.b d_R_walks_129 (by decide) ?_
        refine lv_sipush (v := nI 9999) X.x X.b d_R_walks_130 (by decide) ?_
        refine q_cvv X (c_R_more l E (qr S 16 g112) g112 (by rw [qr_at]) (44 + 6 * w + 4) (nI 1) (nI 9999) (by omega)) hW (q_recv X hW ds_R rfl) ok_R_more mw_915 ⟨by decide, by decide⟩ (As := [.int (nI (44 + 6 * w + 4)), .int (nI 1), .int (nI 9999)]) rfl rfl (Nat.le_of_ble_eq_true rfl) (lv := [(5, .int (ν (44 + 6 * w + 2))), (4, .int (ν (20 + 3 * t + 1))), (3, .int (nI (44 + 6 * w))), (0, .ref (eA E 70)), (1, .int (nI w)), (2, .int (nI t))]) hl ⟨Nat.le_refl 0, Nat.le_refl 0⟩ d_R_walks_133 (fun H locs hW => ?_)
        have hW : qWH E (qr S 16 (moreS g112 (44 + 6 * w + 4) (nI 1) (nI 9999))) s H locs := (by have h := hW; rw [qr_qr] at h; exact h)
        refine lv_aload_n X.x X.b d_R_walks_136 rfl (lv_at hl 3 rfl) ?_
        refine lv_iload_n X.x X.b d_R_walks_137 rfl (lv_at hl 5 rfl) ?_
        refine lv_iconst (v := nI 2) X.x X.b d_R_walks_138 (by decide) ?_
        refine q_csi X (c_R_thingAt l E (qr S 16 (moreS g112 (44 + 6 * w + 4) (nI 1) (nI 9999))) t 2) hW ok_R_thingAt mw_791 ⟨by decide, by decide⟩ (As := [.int (nI t), .int (nI 2)]) rfl rfl (Nat.le_of_ble_eq_true rfl) (lv := [(5, .int (ν (44 + 6 * w + 2))), (4, .int (ν (20 + 3 * t + 1))), (3, .int (nI (44 + 6 * w))), (0, .ref (eA E 70)), (1, .int (nI w)), (2, .int (nI t))]) hl ⟨Nat.le_refl 0, Nat.le_refl 0⟩ d_R_walks_139 (fun H locs hW => ?_)
        refine lv_iconst (v := nI 1) X.x X.b d_R_walks_142 (by decide) ?_
        refine lv_sipush (v := nI 9999) X.x X.b d_R_walks_143 (by decide) ?_
        refine q_cvv X (c_R_more l E (qr S 16 (moreS g112 (44 + 6 * w + 4) (nI 1) (nI 9999))) (moreS g112 (44 + 6 * w + 4) (nI 1) (nI 9999)) (by rw [qr_at]) (20 + 3 * t + 2) (nI 1) (nI 9999) (by omega)) hW (q_recv X hW ds_R rfl) ok_R_more mw_915 ⟨by decide, by decide⟩ (As := [.int (nI (20 + 3 * t + 2)), .int (nI 1), .int (nI 9999)]) rfl rfl (Nat.le_of_ble_eq_true rfl) (lv := [(5, .int (ν (44 + 6 * w + 2))), (4, .int (ν (20 + 3 * t + 1))), (3, .int (nI (44 + 6 * w))), (0, .ref (eA E 70)), (1, .int (nI w)), (2, .int (nI t))]) hl ⟨Nat.le_refl 0, Nat.le_refl 0⟩ d_R_walks_146 (fun H locs hW => ?_)
        have hW : qWH E (qr S 16 (moreS (moreS g112 (44 + 6 * w + 4) (nI 1) (nI 9999)) (20 + 3 * t + 2) (nI 1) (nI 9999))) s H locs := (by have h := hW; rw [qr_qr] at h; exact h)
        refine lv_aload_n X.x X.b d_R_walks_149 rfl (lv_at hl 3 rfl) ?_
        refine lv_iload_n X.x X.b d_R_walks_150 rfl (lv_at hl 4 rfl) ?_
        refine lv_iload_n X.x X.b d_R_walks_151 rfl (lv_at hl 5 rfl) ?_
        refine lv_aload_n X.x X.b d_R_walks_152 rfl (lv_at hl 3 rfl) ?_
        refine lv_iload_n X.x X.b d_R_walks_153 rfl (lv_at hl 5 rfl) ?_
        refine lv_aload_n X.x X.b d_R_walks_154 rfl (lv_at hl 3 rfl) ?_
        refine lv_iload_n X.x X.b d_R_walks_155 rfl (lv_at hl 4 rfl) ?_
        refine lv_iload_n X.x X.b d_R_walks_156 rfl (lv_at hl 5 rfl) ?_
        refine q_cvi X (c_R_doesCare l E (qr S 16 (moreS (moreS g112 (44 + 6 * w + 4) (nI 1) (nI 9999)) (20 + 3 * t + 2) (nI 1) (nI 9999))) (moreS (moreS g112 (44 + 6 * w + 4) (nI 1) (nI 9999)) (20 + 3 * t + 2) (nI 1) (nI 9999)) (by rw [qr_at]) w t (by omega) (by omega)) hW (q_recv X hW ds_R rfl) ok_R_doesCare mw_871 ⟨by decide, by decide⟩ (As := [.int (nI w), .int (nI t)]) rfl rfl (Nat.le_of_ble_eq_true rfl) (lv := [(5, .int (ν (44 + 6 * w + 2))), (4, .int (ν (20 + 3 * t + 1))), (3, .int (nI (44 + 6 * w))), (0, .ref (eA E 70)), (1, .int (nI w)), (2, .int (nI t))]) hl ⟨Nat.le_refl 0, Nat.le_refl 0⟩ d_R_walks_157 (fun H locs hW => ?_)
        refine q_cvi X (c_R_touches l E (qr S 16 (moreS (moreS g112 (44 + 6 * w + 4) (nI 1) (nI 9999)) (20 + 3 * t + 2) (nI 1) (nI 9999))) (moreS (moreS g112 (44 + 6 * w + 4) (nI 1) (nI 9999)) (20 + 3 * t + 2) (nI 1) (nI 9999)) (by rw [qr_at]) t (by omega) (b2i (care ((moreS (moreS g112 (44 + 6 * w + 4) (nI 1) (nI 9999)) (20 + 3 * t + 2) (nI 1) (nI 9999)) (44 + 6 * w + 3)) t)) b2i_01) hW (q_recv X hW ds_R rfl) ok_R_touches mw_919 ⟨by decide, by decide⟩ (As := [.int (nI t), .int (b2i (care ((moreS (moreS g112 (44 + 6 * w + 4) (nI 1) (nI 9999)) (20 + 3 * t + 2) (nI 1) (nI 9999)) (44 + 6 * w + 3)) t))]) rfl rfl (Nat.le_of_ble_eq_true rfl) (lv := [(5, .int (ν (44 + 6 * w + 2))), (4, .int (ν (20 + 3 * t + 1))), (3, .int (nI (44 + 6 * w))), (0, .ref (eA E 70)), (1, .int (nI w)), (2, .int (nI t))]) hl ⟨Nat.le_refl 0, Nat.le_refl 0⟩ d_R_walks_160 (fun H locs hW => ?_)
        refine q_cvv X (c_R_cares l E (qr S 16 (moreS (moreS g112 (44 + 6 * w + 4) (nI 1) (nI 9999)) (20 + 3 * t + 2) (nI 1) (nI 9999))) (moreS (moreS g112 (44 + 6 * w + 4) (nI 1) (nI 9999)) (20 + 3 * t + 2) (nI 1) (nI 9999)) (by rw [qr_at]) w t (by omega) (by omega) (tch ((moreS (moreS g112 (44 + 6 * w + 4) (nI 1) (nI 9999)) (20 + 3 * t + 2) (nI 1) (nI 9999)) (20 + 3 * t)) (b2i (care ((moreS (moreS g112 (44 + 6 * w + 4) (nI 1) (nI 9999)) (20 + 3 * t + 2) (nI 1) (nI 9999)) (44 + 6 * w + 3)) t)))) hW (q_recv X hW ds_R rfl) ok_R_cares mw_901 ⟨by decide, by decide⟩ (As := [.int (nI w), .int (nI t), .int (tch ((moreS (moreS g112 (44 + 6 * w + 4) (nI 1) (nI 9999)) (20 + 3 * t + 2) (nI 1) (nI 9999)) (20 + 3 * t)) (b2i (care ((moreS (moreS g112 (44 + 6 * w + 4) (nI 1) (nI 9999)) (20 + 3 * t + 2) (nI 1) (nI 9999)) (44 + 6 * w + 3)) t)))]) rfl rfl (Nat.le_of_ble_eq_true rfl) (lv := [(5, .int (ν (44 + 6 * w + 2))), (4, .int (ν (20 + 3 * t + 1))), (3, .int (nI (44 + 6 * w))), (0, .ref (eA E 70)), (1, .int (nI w)), (2, .int (nI t))]) hl ⟨Nat.le_refl 0, Nat.le_refl 0⟩ d_R_walks_163 (fun H locs hW => ?_)
        have hW : qWH E (qr S 16 (crS (moreS (moreS g112 (44 + 6 * w + 4) (nI 1) (nI 9999)) (20 + 3 * t + 2) (nI 1) (nI 9999)) w t (tch ((moreS (moreS g112 (44 + 6 * w + 4) (nI 1) (nI 9999)) (20 + 3 * t + 2) (nI 1) (nI 9999)) (20 + 3 * t)) (b2i (care ((moreS (moreS g112 (44 + 6 * w + 4) (nI 1) (nI 9999)) (20 + 3 * t + 2) (nI 1) (nI 9999)) (44 + 6 * w + 3)) t))))) s H locs := (by have h := hW; rw [qr_qr] at h; exact h)
        have e3 : (moreS (moreS g112 (44 + 6 * w + 4) (nI 1) (nI 9999)) (20 + 3 * t + 2) (nI 1) (nI 9999)) (44 + 6 * w + 3) = g112 (44 + 6 * w + 3) := by unfold moreS; rw [upN (by omega), upN (by omega)]
        have e0 : (moreS (moreS g112 (44 + 6 * w + 4) (nI 1) (nI 9999)) (20 + 3 * t + 2) (nI 1) (nI 9999)) (20 + 3 * t) = g112 (20 + 3 * t) := by unfold moreS; rw [upN (by omega), upN (by omega)]
        exact q_vret X hW (by unfold walkS; rw [hg, if_pos c120]; unfold crS arrS; rw [e3, e0]; unfold moreS; rw [upN (f := g112) (by omega)]; rfl) d_R_walks_166
    · refine lv_iload X.x X.b d_R_walks_47 (lv_at hl 1 rfl) ?_
      refine lv_aload_n X.x X.b d_R_walks_49 rfl (lv_at hl 3 rfl) ?_
      refine q_getr X hW qj4 rfl _ ds_R 0 (by decide) mw_686 rfl (c1 := 71) rfl d_R_walks_50 ?_
      refine lv_iload_n X.x X.b d_R_walks_53 rfl (lv_at hl 2 rfl) ?_
      refine g_ald X hW ds_71 (q_in (by omega) (by decide)) (p0 := 44 + 6 * w) (q_tn (by omega) (by omega)) (v := ν (44 + 6 * w)) (by rw [hν]) d_R_walks_54 ?_
      refine lv_iload X.x X.b d_R_walks_55 (lv_at hl 0 rfl) ?_
      refine lv_iadd X.x X.b d_R_walks_57 ?_
      refine va_mmin X.x X.b (X.ml.trans hl.1.symm) X.ow (X.ts _ mw_913) (X.ts _ (qTB_in (i := 324) (by decide +kernel) rfl)) (X.ts _ (qTB_in (i := 73) (by decide +kernel) rfl)) (X.ts _ (qTB_in (i := 325) (by decide +kernel) rfl)) (by decide) (Nat.le_of_ble_eq_true rfl) (Nat.le_refl 0) (Nat.le_refl 0) d_R_walks_58 ?_
      refine lv_topi (fun x58 ex58 => ?_)
      refine lv_goto (tgt := 78) X.x X.b d_R_walks_61 (by decide) ?_
      refine g_ast X hW ds_71 (q_in (by omega) (by decide)) (p0 := 44 + 6 * w) (q_tn (by omega) (by omega)) (ρ := ν) (by rw [hν]) d_R_walks_78 (fun H locs hW => ?_)
      obtain ⟨r78, er78⟩ : ∃ z, z = upd ν (44 + 6 * w) x58 := ⟨_, rfl⟩
      rw [← er78] at hW
      refine lv_goto (tgt := 112) X.x X.b d_R_walks_79 (by decide) ?_
      obtain ⟨g112, eg112⟩ : ∃ z, z = r78 := ⟨_, rfl⟩
      rw [← eg112] at hW
      have hg : goS ν w t (fnd ν w t) = g112 := by unfold goS stp imn; rw [if_pos c20, eg112, er78, if_pos (Int32.not_le.mp c44), ← ex58]
      refine lv_aload_n X.x X.b d_R_walks_112 rfl (lv_at hl 3 rfl) ?_
      refine q_getr X hW qj4 rfl _ ds_R 0 (by decide) mw_686 rfl (c1 := 71) rfl d_R_walks_113 ?_
      refine lv_iload_n X.x X.b d_R_walks_116 rfl (lv_at hl 2 rfl) ?_
      refine g_ald X hW ds_71 (q_in (by omega) (by decide)) (p0 := 44 + 6 * w) (q_tn (by omega) (by omega)) (v := g112 (44 + 6 * w)) (by rw [qr_at]) d_R_walks_117 ?_
      refine lv_iload X.x X.b d_R_walks_118 (lv_at hl 1 rfl) ?_
      refine lv_icmp_ne (tgt := 166) X.x X.b d_R_walks_120 (by decide) (fun c120 => ?_) (fun c120 => ?_)
      · exact q_vret X hW (by unfold walkS; rw [hg, if_neg c120]) d_R_walks_166
      · refine lv_aload_n X.x X.b d_R_walks_123 rfl (lv_at hl 3 rfl) ?_
        refine lv_iload_n X.x X.b d_R_walks_124 rfl (lv_at hl 4 rfl) ?_
        refine lv_iconst (v := nI 4) X.x X.b d_R_walks_125 (by decide) ?_
        refine q_csi X (c_R_walkerAt l E (qr S 16 g112) w 4) hW ok_R_walkerAt mw_802 ⟨by decide, by decide⟩ (As := [.int (nI w), .int (nI 4)]) rfl rfl (Nat.le_of_ble_eq_true rfl) (lv := [(5, .int (ν (44 + 6 * w + 2))), (4, .int (ν (20 + 3 * t + 1))), (3, .int (nI (44 + 6 * w))), (0, .ref (eA E 70)), (1, .int (nI w)), (2, .int (nI t))]) hl ⟨Nat.le_refl 0, Nat.le_refl 0⟩ d_R_walks_126 (fun H locs hW => ?_)
        refine lv_iconst (v := nI 1) X.x X.b d_R_walks_129 (by decide) ?_
        refine lv_sipush (v := nI 9999) X.x X.b d_R_walks_130 (by decide) ?_
        refine q_cvv X (c_R_more l E (qr S 16 g112) g112 (by rw [qr_at]) (44 + 6 * w + 4) (nI 1) (nI 9999) (by omega)) hW (q_recv X hW ds_R rfl) ok_R_more mw_915 ⟨by decide, by decide⟩ (As := [.int (nI (44 + 6 * w + 4)), .int (nI 1), .int (nI 9999)]) rfl rfl (Nat.le_of_ble_eq_true rfl) (lv := [(5, .int (ν (44 + 6 * w + 2))), (4, .int (ν (20 + 3 * t + 1))), (3, .int (nI (44 + 6 * w))), (0, .ref (eA E 70)), (1, .int (nI w)), (2, .int (nI t))]) hl ⟨Nat.le_refl 0, Nat.le_refl 0⟩ d_R_walks_133 (fun H locs hW => ?_)
        have hW : qWH E (qr S 16 (moreS g112 (44 + 6 * w + 4) (nI 1) (nI 9999))) s H locs := (by have h := hW; rw [qr_qr] at h; exact h)
        refine lv_aload_n X.x X.b d_R_walks_136 rfl (lv_at hl 3 rfl) ?_
        refine lv_iload_n X.x X.b d_R_walks_137 rfl (lv_at hl 5 rfl) ?_
        refine lv_iconst (v := nI 2) X.x X.b d_R_walks_138 (by decide) ?_
        refine q_csi X (c_R_thingAt l E (qr S 16 (moreS g112 (44 + 6 * w + 4) (nI 1) (nI 9999))) t 2) hW ok_R_thingAt mw_791 ⟨by decide, by decide⟩ (As := [.int (nI t), .int (nI 2)]) rfl rfl (Nat.le_of_ble_eq_true rfl) (lv := [(5, .int (ν (44 + 6 * w + 2))), (4, .int (ν (20 + 3 * t + 1))), (3, .int (nI (44 + 6 * w))), (0, .ref (eA E 70)), (1, .int (nI w)), (2, .int (nI t))]) hl ⟨Nat.le_refl 0, Nat.le_refl 0⟩ d_R_walks_139 (fun H locs hW => ?_)
        refine lv_iconst (v := nI 1) X.x X.b d_R_walks_142 (by decide) ?_
        refine lv_sipush (v := nI 9999) X.x X.b d_R_walks_143 (by decide) ?_
        refine q_cvv X (c_R_more l E (qr S 16 (moreS g112 (44 + 6 * w + 4) (nI 1) (nI 9999))) (moreS g112 (44 + 6 * w + 4) (nI 1) (nI 9999)) (by rw [qr_at]) (20 + 3 * t + 2) (nI 1) (nI 9999) (by omega)) hW (q_recv X hW ds_R rfl) ok_R_more mw_915 ⟨by decide, by decide⟩ (As := [.int (nI (20 + 3 * t + 2)), .int (nI 1), .int (nI 9999)]) rfl rfl (Nat.le_of_ble_eq_true rfl) (lv := [(5, .int (ν (44 + 6 * w + 2))), (4, .int (ν (20 + 3 * t + 1))), (3, .int (nI (44 + 6 * w))), (0, .ref (eA E 70)), (1, .int (nI w)), (2, .int (nI t))]) hl ⟨Nat.le_refl 0, Nat.le_refl 0⟩ d_R_walks_146 (fun H locs hW => ?_)
        have hW : qWH E (qr S 16 (moreS (moreS g112 (44 + 6 * w + 4) (nI 1) (nI 9999)) (20 + 3 * t + 2) (nI 1) (nI 9999))) s H locs := (by have h := hW; rw [qr_qr] at h; exact h)
        refine lv_aload_n X.x X.b d_R_walks_149 rfl (lv_at hl 3 rfl) ?_
        refine lv_iload_n X.x X.b d_R_walks_150 rfl (lv_at hl 4 rfl) ?_
        refine lv_iload_n X.x X.b d_R_walks_151 rfl (lv_at hl 5 rfl) ?_
        refine lv_aload_n X.x X.b d_R_walks_152 rfl (lv_at hl 3 rfl) ?_
        refine lv_iload_n X.x X.b d_R_walks_153 rfl (lv_at hl 5 rfl) ?_
        refine lv_aload_n X.x X.b d_R_walks_154 rfl (lv_at hl 3 rfl) ?_
        refine lv_iload_n X.x X.b d_R_walks_155 rfl (lv_at hl 4 rfl) ?_
        refine lv_iload_n X.x X.b d_R_walks_156 rfl (lv_at hl 5 rfl) ?_
        refine q_cvi X (c_R_doesCare l E (qr S 16 (moreS (moreS g112 (44 + 6 * w + 4) (nI 1) (nI 9999)) (20 + 3 * t + 2) (nI 1) (nI 9999))) (moreS (moreS g112 (44 + 6 * w + 4) (nI 1) (nI 9999)) (20 + 3 * t + 2) (nI 1) (nI 9999)) (by rw [qr_at]) w t (by omega) (by omega)) hW (q_recv X hW ds_R rfl) ok_R_doesCare mw_871 ⟨by decide, by decide⟩ (As := [.int (nI w), .int (nI t)]) rfl rfl (Nat.le_of_ble_eq_true rfl) (lv := [(5, .int (ν (44 + 6 * w + 2))), (4, .int (ν (20 + 3 * t + 1))), (3, .int (nI (44 + 6 * w))), (0, .ref (eA E 70)), (1, .int (nI w)), (2, .int (nI t))]) hl ⟨Nat.le_refl 0, Nat.le_refl 0⟩ d_R_walks_157 (fun H locs hW => ?_)
        refine q_cvi X (c_R_touches l E (qr S 16 (moreS (moreS g112 (44 + 6 * w + 4) (nI 1) (nI 9999)) (20 + 3 * t + 2) (nI 1) (nI 9999))) (moreS (moreS g112 (44 + 6 * w + 4) (nI 1) (nI 9999)) (20 + 3 * t + 2) (nI 1) (nI 9999)) (by rw [qr_at]) t (by omega) (b2i (care ((moreS (moreS g112 (44 + 6 * w + 4) (nI 1) (nI 9999)) (20 + 3 * t + 2) (nI 1) (nI 9999)) (44 + 6 * w + 3)) t)) b2i_01) hW (q_recv X hW ds_R rfl) ok_R_touches mw_919 ⟨by decide, by decide⟩ (As := [.int (nI t), .int (b2i (care ((moreS (moreS g112 (44 + 6 * w + 4) (nI 1) (nI 9999)) (20 + 3 * t + 2) (nI 1) (nI 9999)) (44 + 6 * w + 3)) t))]) rfl rfl (Nat.le_of_ble_eq_true rfl) (lv := [(5, .int (ν (44 + 6 * w + 2))), (4, .int (ν (20 + 3 * t + 1))), (3, .int (nI (44 + 6 * w))), (0, .ref (eA E 70)), (1, .int (nI w)), (2, .int (nI t))]) hl ⟨Nat.le_refl 0, Nat.le_refl 0⟩ d_R_walks_160 (fun H locs hW => ?_)
        refine q_cvv X (c_R_cares l E (qr S 16 (moreS (moreS g112 (44 + 6 * w + 4) (nI 1) (nI 9999)) (20 + 3 * t + 2) (nI 1) (nI 9999))) (moreS (moreS g112 (44 + 6 * w + 4) (nI 1) (nI 9999)) (20 + 3 * t + 2) (nI 1) (nI 9999)) (by rw [qr_at]) w t (by omega) (by omega) (tch ((moreS (moreS g112 (44 + 6 * w + 4) (nI 1) (nI 9999)) (20 + 3 * t + 2) (nI 1) (nI 9999)) (20 + 3 * t)) (b2i (care ((moreS (moreS g112 (44 + 6 * w + 4) (nI 1) (nI 9999)) (20 + 3 * t + 2) (nI 1) (nI 9999)) (44 + 6 * w + 3)) t)))) hW (q_recv X hW ds_R rfl) ok_R_cares mw_901 ⟨by decide, by decide⟩ (As := [.int (nI w), .int (nI t), .int (tch ((moreS (moreS g112 (44 + 6 * w + 4) (nI 1) (nI 9999)) (20 + 3 * t + 2) (nI 1) (nI 9999)) (20 + 3 * t)) (b2i (care ((moreS (moreS g112 (44 + 6 * w + 4) (nI 1) (nI 9999)) (20 + 3 * t + 2) (nI 1) (nI 9999)) (44 + 6 * w + 3)) t)))]) rfl rfl (Nat.le_of_ble_eq_true rfl) (lv := [(5, .int (ν (44 + 6 * w + 2))), (4, .int (ν (20 + 3 * t + 1))), (3, .int (nI (44 + 6 * w))), (0, .ref (eA E 70)), (1, .int (nI w)), (2, .int (nI t))]) hl ⟨Nat.le_refl 0, Nat.le_refl 0⟩ d_R_walks_163 (fun H locs hW => ?_)
        have hW : qWH E (qr S 16 (crS (moreS (moreS g112 (44 + 6 * w + 4) (nI 1) (nI 9999)) (20 + 3 * t + 2) (nI 1) (nI 9999)) w t (tch ((moreS (moreS g112 (44 + 6 * w + 4) (nI 1) (nI 9999)) (20 + 3 * t + 2) (nI 1) (nI 9999)) (20 + 3 * t)) (b2i (care ((moreS (moreS g112 (44 + 6 * w + 4) (nI 1) (nI 9999)) (20 + 3 * t + 2) (nI 1) (nI 9999)) (44 + 6 * w + 3)) t))))) s H locs := (by have h := hW; rw [qr_qr] at h; exact h)
        have e3 : (moreS (moreS g112 (44 + 6 * w + 4) (nI 1) (nI 9999)) (20 + 3 * t + 2) (nI 1) (nI 9999)) (44 + 6 * w + 3) = g112 (44 + 6 * w + 3) := by unfold moreS; rw [upN (by omega), upN (by omega)]
        have e0 : (moreS (moreS g112 (44 + 6 * w + 4) (nI 1) (nI 9999)) (20 + 3 * t + 2) (nI 1) (nI 9999)) (20 + 3 * t) = g112 (20 + 3 * t) := by unfold moreS; rw [upN (by omega), upN (by omega)]
        exact q_vret X hW (by unfold walkS; rw [hg, if_pos c120]; unfold crS arrS; rw [e3, e0]; unfold moreS; rw [upN (f := g112) (by omega)]; rfl) d_R_walks_166
set_option maxHeartbeats 1000000 in
set_option maxRecDepth 20000 in
theorem c_R_day (l : Launch) (E : QE) (S : QM) (ν : Nat → Int32) (hν : S 16 = ν) (hwf : WF ν)  : qCV E l y_R_day prog_7_method_47_code 4 7 [.ref (eA E 70)] S (qr S 16 (dayS ν)) := by
  refine qCV_of (by decide) (Nat.le_of_ble_eq_true rfl) (fun p e s m below meth c ls X hW hl => ?_)
  have hl : lv_has ls 4 [(0, .ref (eA E 70))] := hl
  have htl := hwf.tl
  have hwl := hwf.wl
  have hdl := hwf.dl
  refine lv_aload_n X.x X.b d_R_day_0 rfl (lv_at hl 0 rfl) ?_
  refine q_getr X hW qj4 rfl _ ds_R 0 (by decide) mw_686 rfl (c1 := 71) rfl d_R_day_1 ?_
  refine lv_aload_n X.x X.b d_R_day_4 rfl (lv_at hl 0 rfl) ?_
  refine q_cvi X (c_R_placeNow l E S ν (by rw [hν]) hwf) hW (q_recv X hW ds_R rfl) ok_R_placeNow mw_897 ⟨by decide, by decide⟩ (As := []) rfl rfl (Nat.le_of_ble_eq_true rfl) (lv := [(0, .ref (eA E 70))]) hl ⟨Nat.le_refl 0, Nat.le_refl 0⟩ d_R_day_5 (fun H locs hW => ?_)
  refine g_ald X hW ds_71 (q_in (by omega) (by decide)) (p0 := 4 + nD ν % 6) (q_tn (by omega) (by omega)) (v := ν (4 + nD ν % 6)) (by rw [hν]) d_R_day_8 ?_
  refine lv_bipush (v := nI 10) X.x X.b d_R_day_9 (by decide) ?_
  refine lv_idiv X.x X.b d_R_day_11 (by decide) ?_
  refine lv_topi (fun x11 ex11 => ?_)
  refine lv_istore_n (lv' := [(1, .int x11), (0, .ref (eA E 70))]) X.x X.b d_R_day_12 rfl hl (by decide) rfl (fun ls hl => ?_)
  refine lv_aload_n X.x X.b d_R_day_13 rfl (lv_at hl 1 rfl) ?_
  refine q_getr X hW qj4 rfl _ ds_R 0 (by decide) mw_686 rfl (c1 := 71) rfl d_R_day_14 ?_
  refine lv_aload_n X.x X.b d_R_day_17 rfl (lv_at hl 1 rfl) ?_
  refine q_cvi X (c_R_placeNow l E S ν (by rw [hν]) hwf) hW (q_recv X hW ds_R rfl) ok_R_placeNow mw_897 ⟨by decide, by decide⟩ (As := []) rfl rfl (Nat.le_of_ble_eq_true rfl) (lv := [(1, .int x11), (0, .ref (eA E 70))]) hl ⟨Nat.le_refl 0, Nat.le_refl 0⟩ d_R_day_18 (fun H locs hW => ?_)
  refine g_ald X hW ds_71 (q_in (by omega) (by decide)) (p0 := 4 + nD ν % 6) (q_tn (by omega) (by omega)) (v := ν (4 + nD ν % 6)) (by rw [hν]) d_R_day_21 ?_
  refine lv_bipush (v := nI 10) X.x X.b d_R_day_22 (by decide) ?_
  refine lv_irem X.x X.b d_R_day_24 (by decide) ?_
  refine lv_topi (fun x24 ex24 => ?_)
  refine lv_istore_n (lv' := [(2, .int x24), (1, .int x11), (0, .ref (eA E 70))]) X.x X.b d_R_day_25 rfl hl (by decide) rfl (fun ls hl => ?_)
  refine lv_aload_n X.x X.b d_R_day_26 rfl (lv_at hl 2 rfl) ?_
  refine lv_iload_n X.x X.b d_R_day_27 rfl (lv_at hl 1 rfl) ?_
  refine q_cvi X (c_R_isWalker l E S ν (by rw [hν]) hwf x11) hW (q_recv X hW ds_R rfl) ok_R_isWalker mw_841 ⟨by decide, by decide⟩ (As := [.int x11]) rfl rfl (Nat.le_of_ble_eq_true rfl) (lv := [(2, .int x24), (1, .int x11), (0, .ref (eA E 70))]) hl ⟨Nat.le_refl 0, Nat.le_refl 0⟩ d_R_day_28 (fun H locs hW => ?_)
  refine lv_if_eq (tgt := 62) X.x X.b d_R_day_31 (by decide) (fun c31 => ?_) (fun c31 => ?_)
  · have c31 := b2i_e c31
    have hd : ν = day1 ν := by unfold day1 listS; rw [← ex24, ← ex11, if_neg (fun z => c31 z.1)]
    have hsd : Same ν ν := Same.rf hwf
    refine lv_iconst (v := nI 0) X.x X.b d_R_day_62 (by decide) ?_
    refine lv_istore_n (lv' := [(3, .int (nI 0)), (2, .int x24), (1, .int x11), (0, .ref (eA E 70))]) X.x X.b d_R_day_63 rfl hl (by decide) rfl (fun ls hl => ?_)
    have hW : qWH E (qr S 16 ν) s H locs := by rw [← hν, qr_self]; exact hW
    have loop64 : ∀ (fu64 : Nat) (j : Nat) (μ : Nat → Int32), j ≤ nW ν → μ = fo wlkS j (day1 ν) → Same ν μ → nW ν - j < fu64 → ∀ (H : Heap) (locs : List Loc) (ls : Array Slot), qWH E (qr S 16 μ) s H locs → lv_has ls 4 [(3, .int (nI j)), (0, .ref (eA E 70))] → W p l e (qRm 7) s m ([.ref (eA E 70)] : List Value).toArray below meth c H locs 0 0 (MQ below (qQv E (qr S 16 (dayS ν)) s.heap.size) ([.ref (eA E 70)] : List Value).toArray s 0 0 (qAA E s.heap.size)) (F0 m 64 ls []) := by
      intro fu64
      induction fu64 with
      | zero =>
        intro j μ hj hm hs hfu
        exact absurd hfu (Nat.not_lt_zero _)
      | succ fu64 ih64 =>
        intro j μ hj hm hs hfu H locs ls hW hl
        have htl2 := hs.1.tl
        have hwl2 := hs.1.wl
        have ent := hs.2.1
        have enw := hs.2.2.1
        refine lv_iload_n X.x X.b d_R_day_64 rfl (lv_at hl 0 rfl) ?_
        refine lv_aload_n X.x X.b d_R_day_65 rfl (lv_at hl 1 rfl) ?_
        refine q_getr X hW qj4 rfl _ ds_R 0 (by decide) mw_686 rfl (c1 := 71) rfl d_R_day_66 ?_
        refine lv_iconst (v := nI 3) X.x X.b d_R_day_69 (by decide) ?_
        refine g_ald X hW ds_71 (q_in (by omega) (by decide)) (p0 := 3) (q_tn (by omega) (by omega)) (v := μ 3) (by rw [qr_at]) d_R_day_70 ?_
        rw [hs.1.w, enw]
        refine lv_icmp_ge (tgt := 104) X.x X.b d_R_day_71 (by decide) (fun c71 => ?_) (fun c71 => ?_)
        · have c71 : (nW ν) ≤ j := (nI_leI (a := (nW ν)) (b := j) (by omega) (by omega)).mp c71
          refine lv_iconst (v := nI 0) X.x X.b d_R_day_104 (by decide) ?_
          refine lv_istore_n (lv' := [(3, .int (nI 0)), (0, .ref (eA E 70))]) X.x X.b d_R_day_105 rfl hl (by decide) rfl (fun ls hl => ?_)
          have loop106 : ∀ (fu106 : Nat) (j : Nat) (μ : Nat → Int32), j ≤ nT ν → μ = fo movS j (day2 ν) → Same ν μ → nT ν - j < fu106 → ∀ (H : Heap) (locs : List Loc) (ls : Array Slot), qWH E (qr S 16 μ) s H locs → lv_has ls 4 [(3, .int (nI j)), (0, .ref (eA E 70))] → W p l e (qRm 7) s m ([.ref (eA E 70)] : List Value).toArray below meth c H locs 0 0 (MQ below (qQv E (qr S 16 (dayS ν)) s.heap.size) ([.ref (eA E 70)] : List Value).toArray s 0 0 (qAA E s.heap.size)) (F0 m 106 ls []) := by
            intro fu106
            induction fu106 with
            | zero =>
              intro j μ hj hm hs hfu
              exact absurd hfu (Nat.not_lt_zero _)
            | succ fu106 ih106 =>
              intro j μ hj hm hs hfu H locs ls hW hl
              have htl2 := hs.1.tl
              have hwl2 := hs.1.wl
              have ent := hs.2.1
              have enw := hs.2.2.1
              refine lv_iload_n X.x X.b d_R_day_106 rfl (lv_at hl 0 rfl) ?_
              refine lv_aload_n X.x X.b d_R_day_107 rfl (lv_at hl 1 rfl) ?_
              refine q_getr X hW qj4 rfl _ ds_R 0 (by decide) mw_686 rfl (c1 := 71) rfl d_R_day_108 ?_
              refine lv_iconst (v := nI 1) X.x X.b d_R_day_111 (by decide) ?_
              refine g_ald X hW ds_71 (q_in (by omega) (by decide)) (p0 := 1) (q_tn (by omega) (by omega)) (v := μ 1) (by rw [qr_at]) d_R_day_112 ?_
              rw [hs.1.t, ent]
              refine lv_icmp_ge (tgt := 147) X.x X.b d_R_day_113 (by decide) (fun c113 => ?_) (fun c113 => ?_)
              · have c113 : (nT ν) ≤ j := (nI_leI (a := (nT ν)) (b := j) (by omega) (by omega)).mp c113
                refine lv_aload_n X.x X.b d_R_day_147 rfl (lv_at hl 1 rfl) ?_
                refine lv_iconst (v := nI 0) X.x X.b d_R_day_148 (by decide) ?_
                refine lv_iconst (v := nI 1) X.x X.b d_R_day_149 (by decide) ?_
                refine lv_ldc (v := nI 99999) X.x X.b X.ow (X.ts _ mw_887) d_R_day_150 ?_
                refine q_cvv X (c_R_more l E (qr S 16 μ) μ (by rw [qr_at]) 0 (nI 1) (nI 99999) (by omega)) hW (q_recv X hW ds_R rfl) ok_R_more mw_915 ⟨by decide, by decide⟩ (As := [.int (nI 0), .int (nI 1), .int (nI 99999)]) rfl rfl (Nat.le_of_ble_eq_true rfl) (lv := [(3, .int (nI j)), (0, .ref (eA E 70))]) hl ⟨Nat.le_refl 0, Nat.le_refl 0⟩ d_R_day_152 (fun H locs hW => ?_)
                have hW : qWH E (qr S 16 (moreS μ 0 (nI 1) (nI 99999))) s H locs := (by have h := hW; rw [qr_qr] at h; exact h)
                exact q_vret X hW (by rw [show μ = day3 ν by rw [hm, show j = nT ν by omega]; rfl]; rfl) d_R_day_155
              · have c113 : ¬ (nT ν) ≤ j := fun z => c113 ((nI_leI (a := (nT ν)) (b := j) (by omega) (by omega)).mpr z)
                refine lv_aload_n X.x X.b d_R_day_116 rfl (lv_at hl 1 rfl) ?_
                refine q_getr X hW qj4 rfl _ ds_R 0 (by decide) mw_686 rfl (c1 := 71) rfl d_R_day_117 ?_
                refine lv_iload_n X.x X.b d_R_day_120 rfl (lv_at hl 0 rfl) ?_
                refine lv_iconst (v := nI 1) X.x X.b d_R_day_121 (by decide) ?_
                refine q_csi X (c_R_thingAt l E (qr S 16 μ) j 1) hW ok_R_thingAt mw_791 ⟨by decide, by decide⟩ (As := [.int (nI j), .int (nI 1)]) rfl rfl (Nat.le_of_ble_eq_true rfl) (lv := [(3, .int (nI j)), (0, .ref (eA E 70))]) hl ⟨Nat.le_refl 0, Nat.le_refl 0⟩ d_R_day_122 (fun H locs hW => ?_)
                refine lv_aload_n X.x X.b d_R_day_125 rfl (lv_at hl 1 rfl) ?_
                refine lv_iload_n X.x X.b d_R_day_126 rfl (lv_at hl 0 rfl) ?_
                refine lv_iconst (v := nI 1) X.x X.b d_R_day_127 (by decide) ?_
                refine q_cvi X (c_R_thingIs l E (qr S 16 μ) μ (by rw [qr_at]) j 1 (by omega) (by omega)) hW (q_recv X hW ds_R rfl) ok_R_thingIs mw_821 ⟨by decide, by decide⟩ (As := [.int (nI j), .int (nI 1)]) rfl rfl (Nat.le_of_ble_eq_true rfl) (lv := [(3, .int (nI j)), (0, .ref (eA E 70))]) hl ⟨Nat.le_refl 0, Nat.le_refl 0⟩ d_R_day_128 (fun H locs hW => ?_)
                refine lv_aload_n X.x X.b d_R_day_131 rfl (lv_at hl 1 rfl) ?_
                refine lv_iload_n X.x X.b d_R_day_132 rfl (lv_at hl 0 rfl) ?_
                refine q_cvi X (c_R_moves l E (qr S 16 μ) μ (by rw [qr_at]) j (by omega)) hW (q_recv X hW ds_R rfl) ok_R_moves mw_829 ⟨by decide, by decide⟩ (As := [.int (nI j)]) rfl rfl (Nat.le_of_ble_eq_true rfl) (lv := [(3, .int (nI j)), (0, .ref (eA E 70))]) hl ⟨Nat.le_refl 0, Nat.le_refl 0⟩ d_R_day_133 (fun H locs hW => ?_)
                refine lv_iadd X.x X.b d_R_day_136 ?_
                refine lv_bipush (v := nI 16) X.x X.b d_R_day_137 (by decide) ?_
                refine lv_irem X.x X.b d_R_day_139 (by decide) ?_
                refine g_ast X hW ds_71 (q_in (by omega) (by decide)) (p0 := 20 + 3 * j + 1) (q_tn (by omega) (by omega)) (ρ := μ) (by rw [qr_at]) d_R_day_140 (fun H locs hW => ?_)
                obtain ⟨r140, er140⟩ : ∃ z, z = upd μ (20 + 3 * j + 1) (((μ (20 + 3 * j + 1)) + (mvs (μ (20 + 3 * j)) (μ 0))) - ((μ (20 + 3 * j + 1)) + (mvs (μ (20 + 3 * j)) (μ 0))) / (nI 16) * (nI 16)) := ⟨_, rfl⟩
                rw [← er140] at hW
                rw [qr_qr] at hW
                refine lv_iinc (v := nI (j + 1)) (lv' := [(3, .int (nI (j + 1))), (0, .ref (eA E 70))]) X.x X.b d_R_day_141 hl (k := 0) rfl (by rw [show Int32.ofInt 1 = nI 1 from by decide, nI_add]) (by decide) rfl (fun ls hl => ?_)
                refine lv_goto (tgt := 106) X.x X.b d_R_day_144 (by decide) ?_
                have hk : movS j μ = r140 := by rw [er140]; rfl
                exact ih106 (j + 1) r140 (by omega) (by rw [← hk, hm]; rfl) (by rw [← hk]; exact hs.tr (movS_same hs.1 (by omega))) (by omega) _ _ _ hW (lv_sub hl [0, 1] rfl)
          exact loop106 (nT ν - 0 + 1) 0 μ (by omega) (by rw [hm, show j = nW ν by omega]; rfl) hs (Nat.lt_succ_self _) _ _ _ hW (lv_sub hl [0, 1] rfl)
        · have c71 : ¬ (nW ν) ≤ j := fun z => c71 ((nI_leI (a := (nW ν)) (b := j) (by omega) (by omega)).mpr z)
          refine lv_aload_n X.x X.b d_R_day_74 rfl (lv_at hl 1 rfl) ?_
          refine lv_aload_n X.x X.b d_R_day_75 rfl (lv_at hl 1 rfl) ?_
          refine lv_iload_n X.x X.b d_R_day_76 rfl (lv_at hl 0 rfl) ?_
          refine lv_iconst (v := nI 1) X.x X.b d_R_day_77 (by decide) ?_
          refine q_cvi X (c_R_walkerIs l E (qr S 16 μ) μ (by rw [qr_at]) j 1 (by omega) (by omega)) hW (q_recv X hW ds_R rfl) ok_R_walkerIs mw_845 ⟨by decide, by decide⟩ (As := [.int (nI j), .int (nI 1)]) rfl rfl (Nat.le_of_ble_eq_true rfl) (lv := [(3, .int (nI j)), (0, .ref (eA E 70))]) hl ⟨Nat.le_refl 0, Nat.le_refl 0⟩ d_R_day_78 (fun H locs hW => ?_)
          refine q_cvi X (c_R_isThing l E (qr S 16 μ) μ (by rw [qr_at]) hs.1 (μ (44 + 6 * j + 1))) hW (q_recv X hW ds_R rfl) ok_R_isThing mw_809 ⟨by decide, by decide⟩ (As := [.int (μ (44 + 6 * j + 1))]) rfl rfl (Nat.le_of_ble_eq_true rfl) (lv := [(3, .int (nI j)), (0, .ref (eA E 70))]) hl ⟨Nat.le_refl 0, Nat.le_refl 0⟩ d_R_day_81 (fun H locs hW => ?_)
          refine lv_if_eq (tgt := 98) X.x X.b d_R_day_84 (by decide) (fun c84 => ?_) (fun c84 => ?_)
          · have c84 := b2i_e c84
            refine lv_iinc (v := nI (j + 1)) (lv' := [(3, .int (nI (j + 1))), (0, .ref (eA E 70))]) X.x X.b d_R_day_98 hl (k := 0) rfl (by rw [show Int32.ofInt 1 = nI 1 from by decide, nI_add]) (by decide) rfl (fun ls hl => ?_)
            refine lv_goto (tgt := 64) X.x X.b d_R_day_101 (by decide) ?_
            have hk : wlkS j μ = μ := by unfold wlkS; rw [if_neg c84]
            exact ih64 (j + 1) μ (by omega) (by rw [← hk, hm]; rfl) (by rw [← hk]; exact hs.tr (wlkS_same hs.1 (by omega))) (by omega) _ _ _ hW (lv_sub hl [0, 1] rfl)
          · have c84 := b2i_n c84
            refine lv_aload_n X.x X.b d_R_day_87 rfl (lv_at hl 1 rfl) ?_
            refine lv_iload_n X.x X.b d_R_day_88 rfl (lv_at hl 0 rfl) ?_
            refine lv_aload_n X.x X.b d_R_day_89 rfl (lv_at hl 1 rfl) ?_
            refine lv_iload_n X.x X.b d_R_day_90 rfl (lv_at hl 0 rfl) ?_
            refine lv_iconst (v := nI 1) X.x X.b d_R_day_91 (by decide) ?_
            refine q_cvi X (c_R_walkerIs l E (qr S 16 μ) μ (by rw [qr_at]) j 1 (by omega) (by omega)) hW (q_recv X hW ds_R rfl) ok_R_walkerIs mw_845 ⟨by decide, by decide⟩ (As := [.int (nI j), .int (nI 1)]) rfl rfl (Nat.le_of_ble_eq_true rfl) (lv := [(3, .int (nI j)), (0, .ref (eA E 70))]) hl ⟨Nat.le_refl 0, Nat.le_refl 0⟩ d_R_day_92 (fun H locs hW => ?_)
            obtain ⟨t92, ht92, et92⟩ := isT_n hs.1 c84
            rw [et92]
            refine q_cvv X (c_R_walks l E (qr S 16 μ) μ (by rw [qr_at]) hs.1 j t92 (by omega) (by omega)) hW (q_recv X hW ds_R rfl) ok_R_walks mw_905 ⟨by decide, by decide⟩ (As := [.int (nI j), .int (nI t92)]) rfl rfl (Nat.le_of_ble_eq_true rfl) (lv := [(3, .int (nI j)), (0, .ref (eA E 70))]) hl ⟨Nat.le_refl 0, Nat.le_refl 0⟩ d_R_day_95 (fun H locs hW => ?_)
            have hW : qWH E (qr S 16 (walkS μ j t92 (fnd μ j t92))) s H locs := (by have h := hW; rw [qr_qr] at h; exact h)
            refine lv_iinc (v := nI (j + 1)) (lv' := [(3, .int (nI (j + 1))), (0, .ref (eA E 70))]) X.x X.b d_R_day_98 hl (k := 0) rfl (by rw [show Int32.ofInt 1 = nI 1 from by decide, nI_add]) (by decide) rfl (fun ls hl => ?_)
            refine lv_goto (tgt := 64) X.x X.b d_R_day_101 (by decide) ?_
            have hk : wlkS j μ = walkS μ j t92 (fnd μ j t92) := by unfold wlkS; rw [if_pos c84, et92, nI_clamp (by omega)]
            exact ih64 (j + 1) (walkS μ j t92 (fnd μ j t92)) (by omega) (by rw [← hk, hm]; rfl) (by rw [← hk]; exact hs.tr (wlkS_same hs.1 (by omega))) (by omega) _ _ _ hW (lv_sub hl [0, 1] rfl)
    exact loop64 (nW ν - 0 + 1) 0 ν (by omega) hd hsd (Nat.lt_succ_self _) _ _ _ hW (lv_sub hl [0, 3] rfl)
  · have c31 := b2i_n c31
    obtain ⟨w31, hw31, rfl⟩ := isW_n hwf c31
    refine lv_aload_n X.x X.b d_R_day_34 rfl (lv_at hl 2 rfl) ?_
    refine lv_iload_n X.x X.b d_R_day_35 rfl (lv_at hl 0 rfl) ?_
    refine q_cvi X (c_R_isThing l E S ν (by rw [hν]) hwf x24) hW (q_recv X hW ds_R rfl) ok_R_isThing mw_809 ⟨by decide, by decide⟩ (As := [.int x24]) rfl rfl (Nat.le_of_ble_eq_true rfl) (lv := [(2, .int x24), (1, .int (nI w31)), (0, .ref (eA E 70))]) hl ⟨Nat.le_refl 0, Nat.le_refl 0⟩ d_R_day_36 (fun H locs hW => ?_)
    refine lv_if_eq (tgt := 62) X.x X.b d_R_day_39 (by decide) (fun c39 => ?_) (fun c39 => ?_)
    · have c39 := b2i_e c39
      have hd : ν = day1 ν := by unfold day1 listS; rw [← ex24, ← ex11, if_neg (fun z => c39 z.2)]
      have hsd : Same ν ν := Same.rf hwf
      refine lv_iconst (v := nI 0) X.x X.b d_R_day_62 (by decide) ?_
      refine lv_istore_n (lv' := [(3, .int (nI 0)), (2, .int x24), (1, .int (nI w31)), (0, .ref (eA E 70))]) X.x X.b d_R_day_63 rfl hl (by decide) rfl (fun ls hl => ?_)
      have hW : qWH E (qr S 16 ν) s H locs := by rw [← hν, qr_self]; exact hW
      have loop64 : ∀ (fu64 : Nat) (j : Nat) (μ : Nat → Int32), j ≤ nW ν → μ = fo wlkS j (day1 ν) → Same ν μ → nW ν - j < fu64 → ∀ (H : Heap) (locs : List Loc) (ls : Array Slot), qWH E (qr S 16 μ) s H locs → lv_has ls 4 [(3, .int (nI j)), (0, .ref (eA E 70))] → W p l e (qRm 7) s m ([.ref (eA E 70)] : List Value).toArray below meth c H locs 0 0 (MQ below (qQv E (qr S 16 (dayS ν)) s.heap.size) ([.ref (eA E 70)] : List Value).toArray s 0 0 (qAA E s.heap.size)) (F0 m 64 ls []) := by
        intro fu64
        induction fu64 with
        | zero =>
          intro j μ hj hm hs hfu
          exact absurd hfu (Nat.not_lt_zero _)
        | succ fu64 ih64 =>
          intro j μ hj hm hs hfu H locs ls hW hl
          have htl2 := hs.1.tl
          have hwl2 := hs.1.wl
          have ent := hs.2.1
          have enw := hs.2.2.1
          refine lv_iload_n X.x X.b d_R_day_64 rfl (lv_at hl 0 rfl) ?_
          refine lv_aload_n X.x X.b d_R_day_65 rfl (lv_at hl 1 rfl) ?_
          refine q_getr X hW qj4 rfl _ ds_R 0 (by decide) mw_686 rfl (c1 := 71) rfl d_R_day_66 ?_
          refine lv_iconst (v := nI 3) X.x X.b d_R_day_69 (by decide) ?_
          refine g_ald X hW ds_71 (q_in (by omega) (by decide)) (p0 := 3) (q_tn (by omega) (by omega)) (v := μ 3) (by rw [qr_at]) d_R_day_70 ?_
          rw [hs.1.w, enw]
          refine lv_icmp_ge (tgt := 104) X.x X.b d_R_day_71 (by decide) (fun c71 => ?_) (fun c71 => ?_)
          · have c71 : (nW ν) ≤ j := (nI_leI (a := (nW ν)) (b := j) (by omega) (by omega)).mp c71
            refine lv_iconst (v := nI 0) X.x X.b d_R_day_104 (by decide) ?_
            refine lv_istore_n (lv' := [(3, .int (nI 0)), (0, .ref (eA E 70))]) X.x X.b d_R_day_105 rfl hl (by decide) rfl (fun ls hl => ?_)
            have loop106 : ∀ (fu106 : Nat) (j : Nat) (μ : Nat → Int32), j ≤ nT ν → μ = fo movS j (day2 ν) → Same ν μ → nT ν - j < fu106 → ∀ (H : Heap) (locs : List Loc) (ls : Array Slot), qWH E (qr S 16 μ) s H locs → lv_has ls 4 [(3, .int (nI j)), (0, .ref (eA E 70))] → W p l e (qRm 7) s m ([.ref (eA E 70)] : List Value).toArray below meth c H locs 0 0 (MQ below (qQv E (qr S 16 (dayS ν)) s.heap.size) ([.ref (eA E 70)] : List Value).toArray s 0 0 (qAA E s.heap.size)) (F0 m 106 ls []) := by
              intro fu106
              induction fu106 with
              | zero =>
                intro j μ hj hm hs hfu
                exact absurd hfu (Nat.not_lt_zero _)
              | succ fu106 ih106 =>
                intro j μ hj hm hs hfu H locs ls hW hl
                have htl2 := hs.1.tl
                have hwl2 := hs.1.wl
                have ent := hs.2.1
                have enw := hs.2.2.1
                refine lv_iload_n X.x X.b d_R_day_106 rfl (lv_at hl 0 rfl) ?_
                refine lv_aload_n X.x X.b d_R_day_107 rfl (lv_at hl 1 rfl) ?_
                refine q_getr X hW qj4 rfl _ ds_R 0 (by decide) mw_686 rfl (c1 := 71) rfl d_R_day_108 ?_
                refine lv_iconst (v := nI 1) X.x X.b d_R_day_111 (by decide) ?_
                refine g_ald X hW ds_71 (q_in (by omega) (by decide)) (p0 := 1) (q_tn (by omega) (by omega)) (v := μ 1) (by rw [qr_at]) d_R_day_112 ?_
                rw [hs.1.t, ent]
                refine lv_icmp_ge (tgt := 147) X.x X.b d_R_day_113 (by decide) (fun c113 => ?_) (fun c113 => ?_)
                · have c113 : (nT ν) ≤ j := (nI_leI (a := (nT ν)) (b := j) (by omega) (by omega)).mp c113
                  refine lv_aload_n X.x X.b d_R_day_147 rfl (lv_at hl 1 rfl) ?_
                  refine lv_iconst (v := nI 0) X.x X.b d_R_day_148 (by decide) ?_
                  refine lv_iconst (v := nI 1) X.x X.b d_R_day_149 (by decide) ?_
                  refine lv_ldc (v := nI 99999) X.x X.b X.ow (X.ts _ mw_887) d_R_day_150 ?_
                  refine q_cvv X (c_R_more l E (qr S 16 μ) μ (by rw [qr_at]) 0 (nI 1) (nI 99999) (by omega)) hW (q_recv X hW ds_R rfl) ok_R_more mw_915 ⟨by decide, by decide⟩ (As := [.int (nI 0), .int (nI 1), .int (nI 99999)]) rfl rfl (Nat.le_of_ble_eq_true rfl) (lv := [(3, .int (nI j)), (0, .ref (eA E 70))]) hl ⟨Nat.le_refl 0, Nat.le_refl 0⟩ d_R_day_152 (fun H locs hW => ?_)
                  have hW : qWH E (qr S 16 (moreS μ 0 (nI 1) (nI 99999))) s H locs := (by have h := hW; rw [qr_qr] at h; exact h)
                  exact q_vret X hW (by rw [show μ = day3 ν by rw [hm, show j = nT ν by omega]; rfl]; rfl) d_R_day_155
                · have c113 : ¬ (nT ν) ≤ j := fun z => c113 ((nI_leI (a := (nT ν)) (b := j) (by omega) (by omega)).mpr z)
                  refine lv_aload_n X.x X.b d_R_day_116 rfl (lv_at hl 1 rfl) ?_
                  refine q_getr X hW qj4 rfl _ ds_R 0 (by decide) mw_686 rfl (c1 := 71) rfl d_R_day_117 ?_
                  refine lv_iload_n X.x X.b d_R_day_120 rfl (lv_at hl 0 rfl) ?_
                  refine lv_iconst (v := nI 1) X.x X.b d_R_day_121 (by decide) ?_
                  refine q_csi X (c_R_thingAt l E (qr S 16 μ) j 1) hW ok_R_thingAt mw_791 ⟨by decide, by decide⟩ (As := [.int (nI j), .int (nI 1)]) rfl rfl (Nat.le_of_ble_eq_true rfl) (lv := [(3, .int (nI j)), (0, .ref (eA E 70))]) hl ⟨Nat.le_refl 0, Nat.le_refl 0⟩ d_R_day_122 (fun H locs hW => ?_)
                  refine lv_aload_n X.x X.b d_R_day_125 rfl (lv_at hl 1 rfl) ?_
                  refine lv_iload_n X.x X.b d_R_day_126 rfl (lv_at hl 0 rfl) ?_
                  refine lv_iconst (v := nI 1) X.x X.b d_R_day_127 (by decide) ?_
                  refine q_cvi X (c_R_thingIs l E (qr S 16 μ) μ (by rw [qr_at]) j 1 (by omega) (by omega)) hW (q_recv X hW ds_R rfl) ok_R_thingIs mw_821 ⟨by decide, by decide⟩ (As := [.int (nI j), .int (nI 1)]) rfl rfl (Nat.le_of_ble_eq_true rfl) (lv := [(3, .int (nI j)), (0, .ref (eA E 70))]) hl ⟨Nat.le_refl 0, Nat.le_refl 0⟩ d_R_day_128 (fun H locs hW => ?_)
                  refine lv_aload_n X.x X.b d_R_day_131 rfl (lv_at hl 1 rfl) ?_
                  refine lv_iload_n X.x X.b d_R_day_132 rfl (lv_at hl 0 rfl) ?_
                  refine q_cvi X (c_R_moves l E (qr S 16 μ) μ (by rw [qr_at]) j (by omega)) hW (q_recv X hW ds_R rfl) ok_R_moves mw_829 ⟨by decide, by decide⟩ (As := [.int (nI j)]) rfl rfl (Nat.le_of_ble_eq_true rfl) (lv := [(3, .int (nI j)), (0, .ref (eA E 70))]) hl ⟨Nat.le_refl 0, Nat.le_refl 0⟩ d_R_day_133 (fun H locs hW => ?_)
                  refine lv_iadd X.x X.b d_R_day_136 ?_
                  refine lv_bipush (v := nI 16) X.x X.b d_R_day_137 (by decide) ?_
                  refine lv_irem X.x X.b d_R_day_139 (by decide) ?_
                  refine g_ast X hW ds_71 (q_in (by omega) (by decide)) (p0 := 20 + 3 * j + 1) (q_tn (by omega) (by omega)) (ρ := μ) (by rw [qr_at]) d_R_day_140 (fun H locs hW => ?_)
                  obtain ⟨r140, er140⟩ : ∃ z, z = upd μ (20 + 3 * j + 1) (((μ (20 + 3 * j + 1)) + (mvs (μ (20 + 3 * j)) (μ 0))) - ((μ (20 + 3 * j + 1)) + (mvs (μ (20 + 3 * j)) (μ 0))) / (nI 16) * (nI 16)) := ⟨_, rfl⟩
                  rw [← er140] at hW
                  rw [qr_qr] at hW
                  refine lv_iinc (v := nI (j + 1)) (lv' := [(3, .int (nI (j + 1))), (0, .ref (eA E 70))]) X.x X.b d_R_day_141 hl (k := 0) rfl (by rw [show Int32.ofInt 1 = nI 1 from by decide, nI_add]) (by decide) rfl (fun ls hl => ?_)
                  refine lv_goto (tgt := 106) X.x X.b d_R_day_144 (by decide) ?_
                  have hk : movS j μ = r140 := by rw [er140]; rfl
                  exact ih106 (j + 1) r140 (by omega) (by rw [← hk, hm]; rfl) (by rw [← hk]; exact hs.tr (movS_same hs.1 (by omega))) (by omega) _ _ _ hW (lv_sub hl [0, 1] rfl)
            exact loop106 (nT ν - 0 + 1) 0 μ (by omega) (by rw [hm, show j = nW ν by omega]; rfl) hs (Nat.lt_succ_self _) _ _ _ hW (lv_sub hl [0, 1] rfl)
          · have c71 : ¬ (nW ν) ≤ j := fun z => c71 ((nI_leI (a := (nW ν)) (b := j) (by omega) (by omega)).mpr z)
            refine lv_aload_n X.x X.b d_R_day_74 rfl (lv_at hl 1 rfl) ?_
            refine lv_aload_n X.x X.b d_R_day_75 rfl (lv_at hl 1 rfl) ?_
            refine lv_iload_n X.x X.b d_R_day_76 rfl (lv_at hl 0 rfl) ?_
            refine lv_iconst (v := nI 1) X.x X.b d_R_day_77 (by decide) ?_
            refine q_cvi X (c_R_walkerIs l E (qr S 16 μ) μ (by rw [qr_at]) j 1 (by omega) (by omega)) hW (q_recv X hW ds_R rfl) ok_R_walkerIs mw_845 ⟨by decide, by decide⟩ (As := [.int (nI j), .int (nI 1)]) rfl rfl (Nat.le_of_ble_eq_true rfl) (lv := [(3, .int (nI j)), (0, .ref (eA E 70))]) hl ⟨Nat.le_refl 0, Nat.le_refl 0⟩ d_R_day_78 (fun H locs hW => ?_)
            refine q_cvi X (c_R_isThing l E (qr S 16 μ) μ (by rw [qr_at]) hs.1 (μ (44 + 6 * j + 1))) hW (q_recv X hW ds_R rfl) ok_R_isThing mw_809 ⟨by decide, by decide⟩ (As := [.int (μ (44 + 6 * j + 1))]) rfl rfl (Nat.le_of_ble_eq_true rfl) (lv := [(3, .int (nI j)), (0, .ref (eA E 70))]) hl ⟨Nat.le_refl 0, Nat.le_refl 0⟩ d_R_day_81 (fun H locs hW => ?_)
            refine lv_if_eq (tgt := 98) X.x X.b d_R_day_84 (by decide) (fun c84 => ?_) (fun c84 => ?_)
            · have c84 := b2i_e c84
              refine lv_iinc (v := nI (j + 1)) (lv' := [(3, .int (nI (j + 1))), (0, .ref (eA E 70))]) X.x X.b d_R_day_98 hl (k := 0) rfl (by rw [show Int32.ofInt 1 = nI 1 from by decide, nI_add]) (by decide) rfl (fun ls hl => ?_)
              refine lv_goto (tgt := 64) X.x X.b d_R_day_101 (by decide) ?_
              have hk : wlkS j μ = μ := by unfold wlkS; rw [if_neg c84]
              exact ih64 (j + 1) μ (by omega) (by rw [← hk, hm]; rfl) (by rw [← hk]; exact hs.tr (wlkS_same hs.1 (by omega))) (by omega) _ _ _ hW (lv_sub hl [0, 1] rfl)
            · have c84 := b2i_n c84
              refine lv_aload_n X.x X.b d_R_day_87 rfl (lv_at hl 1 rfl) ?_
              refine lv_iload_n X.x X.b d_R_day_88 rfl (lv_at hl 0 rfl) ?_
              refine lv_aload_n X.x X.b d_R_day_89 rfl (lv_at hl 1 rfl) ?_
              refine lv_iload_n X.x X.b d_R_day_90 rfl (lv_at hl 0 rfl) ?_
              refine lv_iconst (v := nI 1) X.x X.b d_R_day_91 (by decide) ?_
              refine q_cvi X (c_R_walkerIs l E (qr S 16 μ) μ (by rw [qr_at]) j 1 (by omega) (by omega)) hW (q_recv X hW ds_R rfl) ok_R_walkerIs mw_845 ⟨by decide, by decide⟩ (As := [.int (nI j), .int (nI 1)]) rfl rfl (Nat.le_of_ble_eq_true rfl) (lv := [(3, .int (nI j)), (0, .ref (eA E 70))]) hl ⟨Nat.le_refl 0, Nat.le_refl 0⟩ d_R_day_92 (fun H locs hW => ?_)
              obtain ⟨t92, ht92, et92⟩ := isT_n hs.1 c84
              rw [et92]
              refine q_cvv X (c_R_walks l E (qr S 16 μ) μ (by rw [qr_at]) hs.1 j t92 (by omega) (by omega)) hW (q_recv X hW ds_R rfl) ok_R_walks mw_905 ⟨by decide, by decide⟩ (As := [.int (nI j), .int (nI t92)]) rfl rfl (Nat.le_of_ble_eq_true rfl) (lv := [(3, .int (nI j)), (0, .ref (eA E 70))]) hl ⟨Nat.le_refl 0, Nat.le_refl 0⟩ d_R_day_95 (fun H locs hW => ?_)
              have hW : qWH E (qr S 16 (walkS μ j t92 (fnd μ j t92))) s H locs := (by have h := hW; rw [qr_qr] at h; exact h)
              refine lv_iinc (v := nI (j + 1)) (lv' := [(3, .int (nI (j + 1))), (0, .ref (eA E 70))]) X.x X.b d_R_day_98 hl (k := 0) rfl (by rw [show Int32.ofInt 1 = nI 1 from by decide, nI_add]) (by decide) rfl (fun ls hl => ?_)
              refine lv_goto (tgt := 64) X.x X.b d_R_day_101 (by decide) ?_
              have hk : wlkS j μ = walkS μ j t92 (fnd μ j t92) := by unfold wlkS; rw [if_pos c84, et92, nI_clamp (by omega)]
              exact ih64 (j + 1) (walkS μ j t92 (fnd μ j t92)) (by omega) (by rw [← hk, hm]; rfl) (by rw [← hk]; exact hs.tr (wlkS_same hs.1 (by omega))) (by omega) _ _ _ hW (lv_sub hl [0, 1] rfl)
      exact loop64 (nW ν - 0 + 1) 0 ν (by omega) hd hsd (Nat.lt_succ_self _) _ _ _ hW (lv_sub hl [0, 3] rfl)
    · have c39 := b2i_n c39
      obtain ⟨t39, ht39, rfl⟩ := isT_n hwf c39
      refine lv_aload_n X.x X.b d_R_day_42 rfl (lv_at hl 2 rfl) ?_
      refine lv_iload_n X.x X.b d_R_day_43 rfl (lv_at hl 1 rfl) ?_
      refine lv_iload_n X.x X.b d_R_day_44 rfl (lv_at hl 0 rfl) ?_
      refine lv_aload_n X.x X.b d_R_day_45 rfl (lv_at hl 2 rfl) ?_
      refine lv_iload_n X.x X.b d_R_day_46 rfl (lv_at hl 1 rfl) ?_
      refine lv_iload_n X.x X.b d_R_day_47 rfl (lv_at hl 0 rfl) ?_
      refine q_cvi X (c_R_doesCare l E S ν (by rw [hν]) w31 t39 (by omega) (by omega)) hW (q_recv X hW ds_R rfl) ok_R_doesCare mw_871 ⟨by decide, by decide⟩ (As := [.int (nI w31), .int (nI t39)]) rfl rfl (Nat.le_of_ble_eq_true rfl) (lv := [(2, .int (nI t39)), (1, .int (nI w31)), (0, .ref (eA E 70))]) hl ⟨Nat.le_refl 0, Nat.le_refl 0⟩ d_R_day_48 (fun H locs hW => ?_)
      refine lv_if_ne (tgt := 58) X.x X.b d_R_day_51 (by decide) (fun c51 => ?_) (fun c51 => ?_)
      · have c51 := b2i_n c51
        refine lv_iconst (v := nI 0) X.x X.b d_R_day_58 (by decide) ?_
        refine q_cvv X (c_R_cares l E S ν (by rw [hν]) w31 t39 (by omega) (by omega) (nI 0)) hW (q_recv X hW ds_R rfl) ok_R_cares mw_901 ⟨by decide, by decide⟩ (As := [.int (nI w31), .int (nI t39), .int (nI 0)]) rfl rfl (Nat.le_of_ble_eq_true rfl) (lv := [(2, .int (nI t39)), (1, .int (nI w31)), (0, .ref (eA E 70))]) hl ⟨Nat.le_refl 0, Nat.le_refl 0⟩ d_R_day_59 (fun H locs hW => ?_)
        have hW : qWH E (qr S 16 (crS ν w31 t39 (nI 0))) s H locs := hW
        have hd : crS ν w31 t39 (nI 0) = day1 ν := by unfold day1 listS; rw [← ex24, ← ex11, if_pos ⟨(isW_i hwf (by omega)).mpr hw31, (isT_i hwf (by omega)).mpr ht39⟩, nI_clamp (by omega), nI_clamp (by omega)]; unfold turnS crS; exact congrArg (upd ν (44 + 6 * w31 + 3)) (puts_c ⟨fun z => absurd rfl z, fun z => absurd c51 z⟩)
        have hsd : Same ν (crS ν w31 t39 (nI 0)) := by rw [hd]; exact day1_same hwf
        refine lv_iconst (v := nI 0) X.x X.b d_R_day_62 (by decide) ?_
        refine lv_istore_n (lv' := [(3, .int (nI 0)), (2, .int (nI t39)), (1, .int (nI w31)), (0, .ref (eA E 70))]) X.x X.b d_R_day_63 rfl hl (by decide) rfl (fun ls hl => ?_)
        have loop64 : ∀ (fu64 : Nat) (j : Nat) (μ : Nat → Int32), j ≤ nW ν → μ = fo wlkS j (day1 ν) → Same ν μ → nW ν - j < fu64 → ∀ (H : Heap) (locs : List Loc) (ls : Array Slot), qWH E (qr S 16 μ) s H locs → lv_has ls 4 [(3, .int (nI j)), (0, .ref (eA E 70))] → W p l e (qRm 7) s m ([.ref (eA E 70)] : List Value).toArray below meth c H locs 0 0 (MQ below (qQv E (qr S 16 (dayS ν)) s.heap.size) ([.ref (eA E 70)] : List Value).toArray s 0 0 (qAA E s.heap.size)) (F0 m 64 ls []) := by
          intro fu64
          induction fu64 with
          | zero =>
            intro j μ hj hm hs hfu
            exact absurd hfu (Nat.not_lt_zero _)
          | succ fu64 ih64 =>
            intro j μ hj hm hs hfu H locs ls hW hl
            have htl2 := hs.1.tl
            have hwl2 := hs.1.wl
            have ent := hs.2.1
            have enw := hs.2.2.1
            refine lv_iload_n X.x X.b d_R_day_64 rfl (lv_at hl 0 rfl) ?_
            refine lv_aload_n X.x X.b d_R_day_65 rfl (lv_at hl 1 rfl) ?_
            refine q_getr X hW qj4 rfl _ ds_R 0 (by decide) mw_686 rfl (c1 := 71) rfl d_R_day_66 ?_
            refine lv_iconst (v := nI 3) X.x X.b d_R_day_69 (by decide) ?_
            refine g_ald X hW ds_71 (q_in (by omega) (by decide)) (p0 := 3) (q_tn (by omega) (by omega)) (v := μ 3) (by rw [qr_at]) d_R_day_70 ?_
            rw [hs.1.w, enw]
            refine lv_icmp_ge (tgt := 104) X.x X.b d_R_day_71 (by decide) (fun c71 => ?_) (fun c71 => ?_)
            · have c71 : (nW ν) ≤ j := (nI_leI (a := (nW ν)) (b := j) (by omega) (by omega)).mp c71
              refine lv_iconst (v := nI 0) X.x X.b d_R_day_104 (by decide) ?_
              refine lv_istore_n (lv' := [(3, .int (nI 0)), (0, .ref (eA E 70))]) X.x X.b d_R_day_105 rfl hl (by decide) rfl (fun ls hl => ?_)
              have loop106 : ∀ (fu106 : Nat) (j : Nat) (μ : Nat → Int32), j ≤ nT ν → μ = fo movS j (day2 ν) → Same ν μ → nT ν - j < fu106 → ∀ (H : Heap) (locs : List Loc) (ls : Array Slot), qWH E (qr S 16 μ) s H locs → lv_has ls 4 [(3, .int (nI j)), (0, .ref (eA E 70))] → W p l e (qRm 7) s m ([.ref (eA E 70)] : List Value).toArray below meth c H locs 0 0 (MQ below (qQv E (qr S 16 (dayS ν)) s.heap.size) ([.ref (eA E 70)] : List Value).toArray s 0 0 (qAA E s.heap.size)) (F0 m 106 ls []) := by
                intro fu106
                induction fu106 with
                | zero =>
                  intro j μ hj hm hs hfu
                  exact absurd hfu (Nat.not_lt_zero _)
                | succ fu106 ih106 =>
                  intro j μ hj hm hs hfu H locs ls hW hl
                  have htl2 := hs.1.tl
                  have hwl2 := hs.1.wl
                  have ent := hs.2.1
                  have enw := hs.2.2.1
                  refine lv_iload_n X.x X.b d_R_day_106 rfl (lv_at hl 0 rfl) ?_
                  refine lv_aload_n X.x X.b d_R_day_107 rfl (lv_at hl 1 rfl) ?_
                  refine q_getr X hW qj4 rfl _ ds_R 0 (by decide) mw_686 rfl (c1 := 71) rfl d_R_day_108 ?_
                  refine lv_iconst (v := nI 1) X.x X.b d_R_day_111 (by decide) ?_
                  refine g_ald X hW ds_71 (q_in (by omega) (by decide)) (p0 := 1) (q_tn (by omega) (by omega)) (v := μ 1) (by rw [qr_at]) d_R_day_112 ?_
                  rw [hs.1.t, ent]
                  refine lv_icmp_ge (tgt := 147) X.x X.b d_R_day_113 (by decide) (fun c113 => ?_) (fun c113 => ?_)
                  · have c113 : (nT ν) ≤ j := (nI_leI (a := (nT ν)) (b := j) (by omega) (by omega)).mp c113
                    refine lv_aload_n X.x X.b d_R_day_147 rfl (lv_at hl 1 rfl) ?_
                    refine lv_iconst (v := nI 0) X.x X.b d_R_day_148 (by decide) ?_
                    refine lv_iconst (v := nI 1) X.x X.b d_R_day_149 (by decide) ?_
                    refine lv_ldc (v := nI 99999) X.x X.b X.ow (X.ts _ mw_887) d_R_day_150 ?_
                    refine q_cvv X (c_R_more l E (qr S 16 μ) μ (by rw [qr_at]) 0 (nI 1) (nI 99999) (by omega)) hW (q_recv X hW ds_R rfl) ok_R_more mw_915 ⟨by decide, by decide⟩ (As := [.int (nI 0), .int (nI 1), .int (nI 99999)]) rfl rfl (Nat.le_of_ble_eq_true rfl) (lv := [(3, .int (nI j)), (0, .ref (eA E 70))]) hl ⟨Nat.le_refl 0, Nat.le_refl 0⟩ d_R_day_152 (fun H locs hW => ?_)
                    have hW : qWH E (qr S 16 (moreS μ 0 (nI 1) (nI 99999))) s H locs := (by have h := hW; rw [qr_qr] at h; exact h)
                    exact q_vret X hW (by rw [show μ = day3 ν by rw [hm, show j = nT ν by omega]; rfl]; rfl) d_R_day_155
                  · have c113 : ¬ (nT ν) ≤ j := fun z => c113 ((nI_leI (a := (nT ν)) (b := j) (by omega) (by omega)).mpr z)
                    refine lv_aload_n X.x X.b d_R_day_116 rfl (lv_at hl 1 rfl) ?_
                    refine q_getr X hW qj4 rfl _ ds_R 0 (by decide) mw_686 rfl (c1 := 71) rfl d_R_day_117 ?_
                    refine lv_iload_n X.x X.b d_R_day_120 rfl (lv_at hl 0 rfl) ?_
                    refine lv_iconst (v := nI 1) X.x X.b d_R_day_121 (by decide) ?_
                    refine q_csi X (c_R_thingAt l E (qr S 16 μ) j 1) hW ok_R_thingAt mw_791 ⟨by decide, by decide⟩ (As := [.int (nI j), .int (nI 1)]) rfl rfl (Nat.le_of_ble_eq_true rfl) (lv := [(3, .int (nI j)), (0, .ref (eA E 70))]) hl ⟨Nat.le_refl 0, Nat.le_refl 0⟩ d_R_day_122 (fun H locs hW => ?_)
                    refine lv_aload_n X.x X.b d_R_day_125 rfl (lv_at hl 1 rfl) ?_
                    refine lv_iload_n X.x X.b d_R_day_126 rfl (lv_at hl 0 rfl) ?_
                    refine lv_iconst (v := nI 1) X.x X.b d_R_day_127 (by decide) ?_
                    refine q_cvi X (c_R_thingIs l E (qr S 16 μ) μ (by rw [qr_at]) j 1 (by omega) (by omega)) hW (q_recv X hW ds_R rfl) ok_R_thingIs mw_821 ⟨by decide, by decide⟩ (As := [.int (nI j), .int (nI 1)]) rfl rfl (Nat.le_of_ble_eq_true rfl) (lv := [(3, .int (nI j)), (0, .ref (eA E 70))]) hl ⟨Nat.le_refl 0, Nat.le_refl 0⟩ d_R_day_128 (fun H locs hW => ?_)
                    refine lv_aload_n X.x X.b d_R_day_131 rfl (lv_at hl 1 rfl) ?_
                    refine lv_iload_n X.x X.b d_R_day_132 rfl (lv_at hl 0 rfl) ?_
                    refine q_cvi X (c_R_moves l E (qr S 16 μ) μ (by rw [qr_at]) j (by omega)) hW (q_recv X hW ds_R rfl) ok_R_moves mw_829 ⟨by decide, by decide⟩ (As := [.int (nI j)]) rfl rfl (Nat.le_of_ble_eq_true rfl) (lv := [(3, .int (nI j)), (0, .ref (eA E 70))]) hl ⟨Nat.le_refl 0, Nat.le_refl 0⟩ d_R_day_133 (fun H locs hW => ?_)
                    refine lv_iadd X.x X.b d_R_day_136 ?_
                    refine lv_bipush (v := nI 16) X.x X.b d_R_day_137 (by decide) ?_
                    refine lv_irem X.x X.b d_R_day_139 (by decide) ?_
                    refine g_ast X hW ds_71 (q_in (by omega) (by decide)) (p0 := 20 + 3 * j + 1) (q_tn (by omega) (by omega)) (ρ := μ) (by rw [qr_at]) d_R_day_140 (fun H locs hW => ?_)
                    obtain ⟨r140, er140⟩ : ∃ z, z = upd μ (20 + 3 * j + 1) (((μ (20 + 3 * j + 1)) + (mvs (μ (20 + 3 * j)) (μ 0))) - ((μ (20 + 3 * j + 1)) + (mvs (μ (20 + 3 * j)) (μ 0))) / (nI 16) * (nI 16)) := ⟨_, rfl⟩
                    rw [← er140] at hW
                    rw [qr_qr] at hW
                    refine lv_iinc (v := nI (j + 1)) (lv' := [(3, .int (nI (j + 1))), (0, .ref (eA E 70))]) X.x X.b d_R_day_141 hl (k := 0) rfl (by rw [show Int32.ofInt 1 = nI 1 from by decide, nI_add]) (by decide) rfl (fun ls hl => ?_)
                    refine lv_goto (tgt := 106) X.x X.b d_R_day_144 (by decide) ?_
                    have hk : movS j μ = r140 := by rw [er140]; rfl
                    exact ih106 (j + 1) r140 (by omega) (by rw [← hk, hm]; rfl) (by rw [← hk]; exact hs.tr (movS_same hs.1 (by omega))) (by omega) _ _ _ hW (lv_sub hl [0, 1] rfl)
              exact loop106 (nT ν - 0 + 1) 0 μ (by omega) (by rw [hm, show j = nW ν by omega]; rfl) hs (Nat.lt_succ_self _) _ _ _ hW (lv_sub hl [0, 1] rfl)
            · have c71 : ¬ (nW ν) ≤ j := fun z => c71 ((nI_leI (a := (nW ν)) (b := j) (by omega) (by omega)).mpr z)
              refine lv_aload_n X.x X.b d_R_day_74 rfl (lv_at hl 1 rfl) ?_
              refine lv_aload_n X.x X.b d_R_day_75 rfl (lv_at hl 1 rfl) ?_
              refine lv_iload_n X.x X.b d_R_day_76 rfl (lv_at hl 0 rfl) ?_
              refine lv_iconst (v := nI 1) X.x X.b d_R_day_77 (by decide) ?_
              refine q_cvi X (c_R_walkerIs l E (qr S 16 μ) μ (by rw [qr_at]) j 1 (by omega) (by omega)) hW (q_recv X hW ds_R rfl) ok_R_walkerIs mw_845 ⟨by decide, by decide⟩ (As := [.int (nI j), .int (nI 1)]) rfl rfl (Nat.le_of_ble_eq_true rfl) (lv := [(3, .int (nI j)), (0, .ref (eA E 70))]) hl ⟨Nat.le_refl 0, Nat.le_refl 0⟩ d_R_day_78 (fun H locs hW => ?_)
              refine q_cvi X (c_R_isThing l E (qr S 16 μ) μ (by rw [qr_at]) hs.1 (μ (44 + 6 * j + 1))) hW (q_recv X hW ds_R rfl) ok_R_isThing mw_809 ⟨by decide, by decide⟩ (As := [.int (μ (44 + 6 * j + 1))]) rfl rfl (Nat.le_of_ble_eq_true rfl) (lv := [(3, .int (nI j)), (0, .ref (eA E 70))]) hl ⟨Nat.le_refl 0, Nat.le_refl 0⟩ d_R_day_81 (fun H locs hW => ?_)
              refine lv_if_eq (tgt := 98) X.x X.b d_R_day_84 (by decide) (fun c84 => ?_) (fun c84 => ?_)
              · have c84 := b2i_e c84
                refine lv_iinc (v := nI (j + 1)) (lv' := [(3, .int (nI (j + 1))), (0, .ref (eA E 70))]) X.x X.b d_R_day_98 hl (k := 0) rfl (by rw [show Int32.ofInt 1 = nI 1 from by decide, nI_add]) (by decide) rfl (fun ls hl => ?_)
                refine lv_goto (tgt := 64) X.x X.b d_R_day_101 (by decide) ?_
                have hk : wlkS j μ = μ := by unfold wlkS; rw [if_neg c84]
                exact ih64 (j + 1) μ (by omega) (by rw [← hk, hm]; rfl) (by rw [← hk]; exact hs.tr (wlkS_same hs.1 (by omega))) (by omega) _ _ _ hW (lv_sub hl [0, 1] rfl)
              · have c84 := b2i_n c84
                refine lv_aload_n X.x X.b d_R_day_87 rfl (lv_at hl 1 rfl) ?_
                refine lv_iload_n X.x X.b d_R_day_88 rfl (lv_at hl 0 rfl) ?_
                refine lv_aload_n X.x X.b d_R_day_89 rfl (lv_at hl 1 rfl) ?_
                refine lv_iload_n X.x X.b d_R_day_90 rfl (lv_at hl 0 rfl) ?_
                refine lv_iconst (v := nI 1) X.x X.b d_R_day_91 (by decide) ?_
                refine q_cvi X (c_R_walkerIs l E (qr S 16 μ) μ (by rw [qr_at]) j 1 (by omega) (by omega)) hW (q_recv X hW ds_R rfl) ok_R_walkerIs mw_845 ⟨by decide, by decide⟩ (As := [.int (nI j), .int (nI 1)]) rfl rfl (Nat.le_of_ble_eq_true rfl) (lv := [(3, .int (nI j)), (0, .ref (eA E 70))]) hl ⟨Nat.le_refl 0, Nat.le_refl 0⟩ d_R_day_92 (fun H locs hW => ?_)
                obtain ⟨t92, ht92, et92⟩ := isT_n hs.1 c84
                rw [et92]
                refine q_cvv X (c_R_walks l E (qr S 16 μ) μ (by rw [qr_at]) hs.1 j t92 (by omega) (by omega)) hW (q_recv X hW ds_R rfl) ok_R_walks mw_905 ⟨by decide, by decide⟩ (As := [.int (nI j), .int (nI t92)]) rfl rfl (Nat.le_of_ble_eq_true rfl) (lv := [(3, .int (nI j)), (0, .ref (eA E 70))]) hl ⟨Nat.le_refl 0, Nat.le_refl 0⟩ d_R_day_95 (fun H locs hW => ?_)
                have hW : qWH E (qr S 16 (walkS μ j t92 (fnd μ j t92))) s H locs := (by have h := hW; rw [qr_qr] at h; exact h)
                refine lv_iinc (v := nI (j + 1)) (lv' := [(3, .int (nI (j + 1))), (0, .ref (eA E 70))]) X.x X.b d_R_day_98 hl (k := 0) rfl (by rw [show Int32.ofInt 1 = nI 1 from by decide, nI_add]) (by decide) rfl (fun ls hl => ?_)
                refine lv_goto (tgt := 64) X.x X.b d_R_day_101 (by decide) ?_
                have hk : wlkS j μ = walkS μ j t92 (fnd μ j t92) := by unfold wlkS; rw [if_pos c84, et92, nI_clamp (by omega)]
                exact ih64 (j + 1) (walkS μ j t92 (fnd μ j t92)) (by omega) (by rw [← hk, hm]; rfl) (by rw [← hk]; exact hs.tr (wlkS_same hs.1 (by omega))) (by omega) _ _ _ hW (lv_sub hl [0, 1] rfl)
        exact loop64 (nW ν - 0 + 1) 0 (crS ν w31 t39 (nI 0)) (by omega) hd hsd (Nat.lt_succ_self _) _ _ _ hW (lv_sub hl [0, 3] rfl)
      · have c51 := b2i_e c51
        refine lv_iconst (v := nI 1) X.x X.b d_R_day_54 (by decide) ?_
        refine lv_goto (tgt := 59) X.x X.b d_R_day_55 (by decide) ?_
        refine q_cvv X (c_R_cares l E S ν (by rw [hν]) w31 t39 (by omega) (by omega) (nI 1)) hW (q_recv X hW ds_R rfl) ok_R_cares mw_901 ⟨by decide, by decide⟩ (As := [.int (nI w31), .int (nI t39), .int (nI 1)]) rfl rfl (Nat.le_of_ble_eq_true rfl) (lv := [(2, .int (nI t39)), (1, .int (nI w31)), (0, .ref (eA E 70))]) hl ⟨Nat.le_refl 0, Nat.le_refl 0⟩ d_R_day_59 (fun H locs hW => ?_)
        have hW : qWH E (qr S 16 (crS ν w31 t39 (nI 1))) s H locs := hW
        have hd : crS ν w31 t39 (nI 1) = day1 ν := by unfold day1 listS; rw [← ex24, ← ex11, if_pos ⟨(isW_i hwf (by omega)).mpr hw31, (isT_i hwf (by omega)).mpr ht39⟩, nI_clamp (by omega), nI_clamp (by omega)]; unfold turnS crS; exact congrArg (upd ν (44 + 6 * w31 + 3)) (puts_c ⟨fun _ => c51, fun _ => by decide⟩)
        have hsd : Same ν (crS ν w31 t39 (nI 1)) := by rw [hd]; exact day1_same hwf
        refine lv_iconst (v := nI 0) X.x X.b d_R_day_62 (by decide) ?_
        refine lv_istore_n (lv' := [(3, .int (nI 0)), (2, .int (nI t39)), (1, .int (nI w31)), (0, .ref (eA E 70))]) X.x X.b d_R_day_63 rfl hl (by decide) rfl (fun ls hl => ?_)
        have loop64 : ∀ (fu64 : Nat) (j : Nat) (μ : Nat → Int32), j ≤ nW ν → μ = fo wlkS j (day1 ν) → Same ν μ → nW ν - j < fu64 → ∀ (H : Heap) (locs : List Loc) (ls : Array Slot), qWH E (qr S 16 μ) s H locs → lv_has ls 4 [(3, .int (nI j)), (0, .ref (eA E 70))] → W p l e (qRm 7) s m ([.ref (eA E 70)] : List Value).toArray below meth c H locs 0 0 (MQ below (qQv E (qr S 16 (dayS ν)) s.heap.size) ([.ref (eA E 70)] : List Value).toArray s 0 0 (qAA E s.heap.size)) (F0 m 64 ls []) := by
          intro fu64
          induction fu64 with
          | zero =>
            intro j μ hj hm hs hfu
            exact absurd hfu (Nat.not_lt_zero _)
          | succ fu64 ih64 =>
            intro j μ hj hm hs hfu H locs ls hW hl
            have htl2 := hs.1.tl
            have hwl2 := hs.1.wl
            have ent := hs.2.1
            have enw := hs.2.2.1
            refine lv_iload_n X.x X.b d_R_day_64 rfl (lv_at hl 0 rfl) ?_
            refine lv_aload_n X.x X.b d_R_day_65 rfl (lv_at hl 1 rfl) ?_
            refine q_getr X hW qj4 rfl _ ds_R 0 (by decide) mw_686 rfl (c1 := 71) rfl d_R_day_66 ?_
            refine lv_iconst (v := nI 3) X.x X.b d_R_day_69 (by decide) ?_
            refine g_ald X hW ds_71 (q_in (by omega) (by decide)) (p0 := 3) (q_tn (by omega) (by omega)) (v := μ 3) (by rw [qr_at]) d_R_day_70 ?_
            rw [hs.1.w, enw]
            refine lv_icmp_ge (tgt := 104) X.x X.b d_R_day_71 (by decide) (fun c71 => ?_) (fun c71 => ?_)
            · have c71 : (nW ν) ≤ j := (nI_leI (a := (nW ν)) (b := j) (by omega) (by omega)).mp c71
              refine lv_iconst (v := nI 0) X.x X.b d_R_day_104 (by decide) ?_
              refine lv_istore_n (lv' := [(3, .int (nI 0)), (0, .ref (eA E 70))]) X.x X.b d_R_day_105 rfl hl (by decide) rfl (fun ls hl => ?_)
              have loop106 : ∀ (fu106 : Nat) (j : Nat) (μ : Nat → Int32), j ≤ nT ν → μ = fo movS j (day2 ν) → Same ν μ → nT ν - j < fu106 → ∀ (H : Heap) (locs : List Loc) (ls : Array Slot), qWH E (qr S 16 μ) s H locs → lv_has ls 4 [(3, .int (nI j)), (0, .ref (eA E 70))] → W p l e (qRm 7) s m ([.ref (eA E 70)] : List Value).toArray below meth c H locs 0 0 (MQ below (qQv E (qr S 16 (dayS ν)) s.heap.size) ([.ref (eA E 70)] : List Value).toArray s 0 0 (qAA E s.heap.size)) (F0 m 106 ls []) := by
                intro fu106
                induction fu106 with
                | zero =>
                  intro j μ hj hm hs hfu
                  exact absurd hfu (Nat.not_lt_zero _)
                | succ fu106 ih106 =>
                  intro j μ hj hm hs hfu H locs ls hW hl
                  have htl2 := hs.1.tl
                  have hwl2 := hs.1.wl
                  have ent := hs.2.1
                  have enw := hs.2.2.1
                  refine lv_iload_n X.x X.b d_R_day_106 rfl (lv_at hl 0 rfl) ?_
                  refine lv_aload_n X.x X.b d_R_day_107 rfl (lv_at hl 1 rfl) ?_
                  refine q_getr X hW qj4 rfl _ ds_R 0 (by decide) mw_686 rfl (c1 := 71) rfl d_R_day_108 ?_
                  refine lv_iconst (v := nI 1) X.x X.b d_R_day_111 (by decide) ?_
                  refine g_ald X hW ds_71 (q_in (by omega) (by decide)) (p0 := 1) (q_tn (by omega) (by omega)) (v := μ 1) (by rw [qr_at]) d_R_day_112 ?_
                  rw [hs.1.t, ent]
                  refine lv_icmp_ge (tgt := 147) X.x X.b d_R_day_113 (by decide) (fun c113 => ?_) (fun c113 => ?_)
                  · have c113 : (nT ν) ≤ j := (nI_leI (a := (nT ν)) (b := j) (by omega) (by omega)).mp c113
                    refine lv_aload_n X.x X.b d_R_day_147 rfl (lv_at hl 1 rfl) ?_
                    refine lv_iconst (v := nI 0) X.x X.b d_R_day_148 (by decide) ?_
                    refine lv_iconst (v := nI 1) X.x X.b d_R_day_149 (by decide) ?_
                    refine lv_ldc (v := nI 99999) X.x X.b X.ow (X.ts _ mw_887) d_R_day_150 ?_
                    refine q_cvv X (c_R_more l E (qr S 16 μ) μ (by rw [qr_at]) 0 (nI 1) (nI 99999) (by omega)) hW (q_recv X hW ds_R rfl) ok_R_more mw_915 ⟨by decide, by decide⟩ (As := [.int (nI 0), .int (nI 1), .int (nI 99999)]) rfl rfl (Nat.le_of_ble_eq_true rfl) (lv := [(3, .int (nI j)), (0, .ref (eA E 70))]) hl ⟨Nat.le_refl 0, Nat.le_refl 0⟩ d_R_day_152 (fun H locs hW => ?_)
                    have hW : qWH E (qr S 16 (moreS μ 0 (nI 1) (nI 99999))) s H locs := (by have h := hW; rw [qr_qr] at h; exact h)
                    exact q_vret X hW (by rw [show μ = day3 ν by rw [hm, show j = nT ν by omega]; rfl]; rfl) d_R_day_155
                  · have c113 : ¬ (nT ν) ≤ j := fun z => c113 ((nI_leI (a := (nT ν)) (b := j) (by omega) (by omega)).mpr z)
                    refine lv_aload_n X.x X.b d_R_day_116 rfl (lv_at hl 1 rfl) ?_
                    refine q_getr X hW qj4 rfl _ ds_R 0 (by decide) mw_686 rfl (c1 := 71) rfl d_R_day_117 ?_
                    refine lv_iload_n X.x X.b d_R_day_120 rfl (lv_at hl 0 rfl) ?_
                    refine lv_iconst (v := nI 1) X.x X.b d_R_day_121 (by decide) ?_
                    refine q_csi X (c_R_thingAt l E (qr S 16 μ) j 1) hW ok_R_thingAt mw_791 ⟨by decide, by decide⟩ (As := [.int (nI j), .int (nI 1)]) rfl rfl (Nat.le_of_ble_eq_true rfl) (lv := [(3, .int (nI j)), (0, .ref (eA E 70))]) hl ⟨Nat.le_refl 0, Nat.le_refl 0⟩ d_R_day_122 (fun H locs hW => ?_)
                    refine lv_aload_n X.x X.b d_R_day_125 rfl (lv_at hl 1 rfl) ?_
                    refine lv_iload_n X.x X.b d_R_day_126 rfl (lv_at hl 0 rfl) ?_
                    refine lv_iconst (v := nI 1) X.x X.b d_R_day_127 (by decide) ?_
                    refine q_cvi X (c_R_thingIs l E (qr S 16 μ) μ (by rw [qr_at]) j 1 (by omega) (by omega)) hW (q_recv X hW ds_R rfl) ok_R_thingIs mw_821 ⟨by decide, by decide⟩ (As := [.int (nI j), .int (nI 1)]) rfl rfl (Nat.le_of_ble_eq_true rfl) (lv := [(3, .int (nI j)), (0, .ref (eA E 70))]) hl ⟨Nat.le_refl 0, Nat.le_refl 0⟩ d_R_day_128 (fun H locs hW => ?_)
                    refine lv_aload_n X.x X.b d_R_day_131 rfl (lv_at hl 1 rfl) ?_
                    refine lv_iload_n X.x X.b d_R_day_132 rfl (lv_at hl 0 rfl) ?_
                    refine q_cvi X (c_R_moves l E (qr S 16 μ) μ (by rw [qr_at]) j (by omega)) hW (q_recv X hW ds_R rfl) ok_R_moves mw_829 ⟨by decide, by decide⟩ (As := [.int (nI j)]) rfl rfl (Nat.le_of_ble_eq_true rfl) (lv := [(3, .int (nI j)), (0, .ref (eA E 70))]) hl ⟨Nat.le_refl 0, Nat.le_refl 0⟩ d_R_day_133 (fun H locs hW => ?_)
                    refine lv_iadd X.x X.b d_R_day_136 ?_
                    refine lv_bipush (v := nI 16) X.x X.b d_R_day_137 (by decide) ?_
                    refine lv_irem X.x X.b d_R_day_139 (by decide) ?_
                    refine g_ast X hW ds_71 (q_in (by omega) (by decide)) (p0 := 20 + 3 * j + 1) (q_tn (by omega) (by omega)) (ρ := μ) (by rw [qr_at]) d_R_day_140 (fun H locs hW => ?_)
                    obtain ⟨r140, er140⟩ : ∃ z, z = upd μ (20 + 3 * j + 1) (((μ (20 + 3 * j + 1)) + (mvs (μ (20 + 3 * j)) (μ 0))) - ((μ (20 + 3 * j + 1)) + (mvs (μ (20 + 3 * j)) (μ 0))) / (nI 16) * (nI 16)) := ⟨_, rfl⟩
                    rw [← er140] at hW
                    rw [qr_qr] at hW
                    refine lv_iinc (v := nI (j + 1)) (lv' := [(3, .int (nI (j + 1))), (0, .ref (eA E 70))]) X.x X.b d_R_day_141 hl (k := 0) rfl (by rw [show Int32.ofInt 1 = nI 1 from by decide, nI_add]) (by decide) rfl (fun ls hl => ?_)
                    refine lv_goto (tgt := 106) X.x X.b d_R_day_144 (by decide) ?_
                    have hk : movS j μ = r140 := by rw [er140]; rfl
                    exact ih106 (j + 1) r140 (by omega) (by rw [← hk, hm]; rfl) (by rw [← hk]; exact hs.tr (movS_same hs.1 (by omega))) (by omega) _ _ _ hW (lv_sub hl [0, 1] rfl)
              exact loop106 (nT ν - 0 + 1) 0 μ (by omega) (by rw [hm, show j = nW ν by omega]; rfl) hs (Nat.lt_succ_self _) _ _ _ hW (lv_sub hl [0, 1] rfl)
            · have c71 : ¬ (nW ν) ≤ j := fun z => c71 ((nI_leI (a := (nW ν)) (b := j) (by omega) (by omega)).mpr z)
              refine lv_aload_n X.x X.b d_R_day_74 rfl (lv_at hl 1 rfl) ?_
              refine lv_aload_n X.x X.b d_R_day_75 rfl (lv_at hl 1 rfl) ?_
              refine lv_iload_n X.x X.b d_R_day_76 rfl (lv_at hl 0 rfl) ?_
              refine lv_iconst (v := nI 1) X.x X.b d_R_day_77 (by decide) ?_
              refine q_cvi X (c_R_walkerIs l E (qr S 16 μ) μ (by rw [qr_at]) j 1 (by omega) (by omega)) hW (q_recv X hW ds_R rfl) ok_R_walkerIs mw_845 ⟨by decide, by decide⟩ (As := [.int (nI j), .int (nI 1)]) rfl rfl (Nat.le_of_ble_eq_true rfl) (lv := [(3, .int (nI j)), (0, .ref (eA E 70))]) hl ⟨Nat.le_refl 0, Nat.le_refl 0⟩ d_R_day_78 (fun H locs hW => ?_)
              refine q_cvi X (c_R_isThing l E (qr S 16 μ) μ (by rw [qr_at]) hs.1 (μ (44 + 6 * j + 1))) hW (q_recv X hW ds_R rfl) ok_R_isThing mw_809 ⟨by decide, by decide⟩ (As := [.int (μ (44 + 6 * j + 1))]) rfl rfl (Nat.le_of_ble_eq_true rfl) (lv := [(3, .int (nI j)), (0, .ref (eA E 70))]) hl ⟨Nat.le_refl 0, Nat.le_refl 0⟩ d_R_day_81 (fun H locs hW => ?_)
              refine lv_if_eq (tgt := 98) X.x X.b d_R_day_84 (by decide) (fun c84 => ?_) (fun c84 => ?_)
              · have c84 := b2i_e c84
                refine lv_iinc (v := nI (j + 1)) (lv' := [(3, .int (nI (j + 1))), (0, .ref (eA E 70))]) X.x X.b d_R_day_98 hl (k := 0) rfl (by rw [show Int32.ofInt 1 = nI 1 from by decide, nI_add]) (by decide) rfl (fun ls hl => ?_)
                refine lv_goto (tgt := 64) X.x X.b d_R_day_101 (by decide) ?_
                have hk : wlkS j μ = μ := by unfold wlkS; rw [if_neg c84]
                exact ih64 (j + 1) μ (by omega) (by rw [← hk, hm]; rfl) (by rw [← hk]; exact hs.tr (wlkS_same hs.1 (by omega))) (by omega) _ _ _ hW (lv_sub hl [0, 1] rfl)
              · have c84 := b2i_n c84
                refine lv_aload_n X.x X.b d_R_day_87 rfl (lv_at hl 1 rfl) ?_
                refine lv_iload_n X.x X.b d_R_day_88 rfl (lv_at hl 0 rfl) ?_
                refine lv_aload_n X.x X.b d_R_day_89 rfl (lv_at hl 1 rfl) ?_
                refine lv_iload_n X.x X.b d_R_day_90 rfl (lv_at hl 0 rfl) ?_
                refine lv_iconst (v := nI 1) X.x X.b d_R_day_91 (by decide) ?_
                refine q_cvi X (c_R_walkerIs l E (qr S 16 μ) μ (by rw [qr_at]) j 1 (by omega) (by omega)) hW (q_recv X hW ds_R rfl) ok_R_walkerIs mw_845 ⟨by decide, by decide⟩ (As := [.int (nI j), .int (nI 1)]) rfl rfl (Nat.le_of_ble_eq_true rfl) (lv := [(3, .int (nI j)), (0, .ref (eA E 70))]) hl ⟨Nat.le_refl 0, Nat.le_refl 0⟩ d_R_day_92 (fun H locs hW => ?_)
                obtain ⟨t92, ht92, et92⟩ := isT_n hs.1 c84
                rw [et92]
                refine q_cvv X (c_R_walks l E (qr S 16 μ) μ (by rw [qr_at]) hs.1 j t92 (by omega) (by omega)) hW (q_recv X hW ds_R rfl) ok_R_walks mw_905 ⟨by decide, by decide⟩ (As := [.int (nI j), .int (nI t92)]) rfl rfl (Nat.le_of_ble_eq_true rfl) (lv := [(3, .int (nI j)), (0, .ref (eA E 70))]) hl ⟨Nat.le_refl 0, Nat.le_refl 0⟩ d_R_day_95 (fun H locs hW => ?_)
                have hW : qWH E (qr S 16 (walkS μ j t92 (fnd μ j t92))) s H locs := (by have h := hW; rw [qr_qr] at h; exact h)
                refine lv_iinc (v := nI (j + 1)) (lv' := [(3, .int (nI (j + 1))), (0, .ref (eA E 70))]) X.x X.b d_R_day_98 hl (k := 0) rfl (by rw [show Int32.ofInt 1 = nI 1 from by decide, nI_add]) (by decide) rfl (fun ls hl => ?_)
                refine lv_goto (tgt := 64) X.x X.b d_R_day_101 (by decide) ?_
                have hk : wlkS j μ = walkS μ j t92 (fnd μ j t92) := by unfold wlkS; rw [if_pos c84, et92, nI_clamp (by omega)]
                exact ih64 (j + 1) (walkS μ j t92 (fnd μ j t92)) (by omega) (by rw [← hk, hm]; rfl) (by rw [← hk]; exact hs.tr (wlkS_same hs.1 (by omega))) (by omega) _ _ _ hW (lv_sub hl [0, 1] rfl)
        exact loop64 (nW ν - 0 + 1) 0 (crS ν w31 t39 (nI 1)) (by omega) hd hsd (Nat.lt_succ_self _) _ _ _ hW (lv_sub hl [0, 3] rfl)
set_option maxHeartbeats 1000000 in
set_option maxRecDepth 20000 in
theorem c_R_daysGo (l : Launch) (E : QE) (S : QM) (ν : Nat → Int32) (hν : S 16 = ν) (hwf : WF ν) (n : Nat) (hn : n ≤ 1000) : qCV E l y_R_daysGo prog_7_method_48_code 3 8 [.ref (eA E 70), .int (nI n)] S (qr S 16 (daysS n ν)) := by
  refine qCV_of (by decide) (Nat.le_of_ble_eq_true rfl) (fun p e s m below meth c ls X hW hl => ?_)
  have hl : lv_has ls 3 [(0, .ref (eA E 70)), (1, .int (nI n))] := hl
  have htl := hwf.tl
  have hwl := hwf.wl
  have hdl := hwf.dl
  refine lv_iconst (v := nI 0) X.x X.b d_R_daysGo_0 (by decide) ?_
  refine lv_istore_n (lv' := [(2, .int (nI 0)), (0, .ref (eA E 70)), (1, .int (nI n))]) X.x X.b d_R_daysGo_1 rfl hl (by decide) rfl (fun ls hl => ?_)
  have hW : qWH E (qr S 16 ν) s s.heap [] := by rw [← hν, qr_self]; exact hW
  have loop2 : ∀ (fu2 : Nat) (j : Nat) (μ : Nat → Int32), j ≤ n → μ = daysS j ν → n - j < fu2 → ∀ (H : Heap) (locs : List Loc) (ls : Array Slot), qWH E (qr S 16 μ) s H locs → lv_has ls 3 [(2, .int (nI j)), (0, .ref (eA E 70)), (1, .int (nI n))] → W p l e (qRm 8) s m ([.ref (eA E 70), .int (nI n)] : List Value).toArray below meth c H locs 0 0 (MQ below (qQv E (qr S 16 (daysS n ν)) s.heap.size) ([.ref (eA E 70), .int (nI n)] : List Value).toArray s 0 0 (qAA E s.heap.size)) (F0 m 2 ls []) := by
    intro fu2
    induction fu2 with
    | zero =>
      intro j μ hj hm hfu
      exact absurd hfu (Nat.not_lt_zero _)
    | succ fu2 ih2 =>
      intro j μ hj hm hfu H locs ls hW hl
      refine lv_iload_n X.x X.b d_R_daysGo_2 rfl (lv_at hl 0 rfl) ?_
      refine lv_iload_n X.x X.b d_R_daysGo_3 rfl (lv_at hl 2 rfl) ?_
      refine lv_icmp_ge (tgt := 17) X.x X.b d_R_daysGo_4 (by decide) (fun c4 => ?_) (fun c4 => ?_)
      · have c4 : n ≤ j := (nI_leI (a := n) (b := j) (by omega) (by omega)).mp c4
        exact q_vret X hW (by rw [hm, show j = n by omega]) d_R_daysGo_17
      · have c4 : ¬ n ≤ j := fun z => c4 ((nI_leI (a := n) (b := j) (by omega) (by omega)).mpr z)
        refine lv_aload_n X.x X.b d_R_daysGo_7 rfl (lv_at hl 1 rfl) ?_
        refine q_cvv X (c_R_day l E (qr S 16 μ) μ (by rw [qr_at]) (hm ▸ dF hwf j)) hW (q_recv X hW ds_R rfl) ok_R_day mw_893 ⟨by decide, by decide⟩ (As := []) rfl rfl (Nat.le_of_ble_eq_true rfl) (lv := [(2, .int (nI j)), (0, .ref (eA E 70)), (1, .int (nI n))]) hl ⟨Nat.le_refl 0, Nat.le_refl 0⟩ d_R_daysGo_8 (fun H locs hW => ?_)
        have hW : qWH E (qr S 16 (dayS μ)) s H locs := (by have h := hW; rw [qr_qr] at h; exact h)
        refine lv_iinc (v := nI (j + 1)) (lv' := [(2, .int (nI (j + 1))), (0, .ref (eA E 70)), (1, .int (nI n))]) X.x X.b d_R_daysGo_11 hl (k := 0) rfl (by rw [show Int32.ofInt 1 = nI 1 from by decide, nI_add]) (by decide) rfl (fun ls hl => ?_)
        refine lv_goto (tgt := 2) X.x X.b d_R_daysGo_14 (by decide) ?_
        exact ih2 (j + 1) (dayS μ) (by omega) (by rw [hm]; rfl) (by omega) _ _ _ hW (lv_sub hl [0, 1, 2] rfl)
  exact loop2 (n - 0 + 1) 0 ν (by omega) rfl (Nat.lt_succ_self _) _ _ _ hW (lv_sub hl [0, 1, 2] rfl)
set_option maxHeartbeats 1000000 in
set_option maxRecDepth 20000 in
theorem c_R_sumOf (l : Launch) (E : QE) (S : QM) (ν : Nat → Int32) (hν : S 16 = ν) (hwf : WF ν) (f : Nat) (hf : f < 6) : qCI E l y_R_sumOf prog_7_method_49_code 4 .int 3 [.ref (eA E 70), .int (nI f)] S (sumS ν f) S := by
  refine qCI_of (by decide) (Nat.le_of_ble_eq_true rfl) (fun p e s m below meth c ls X hW hl => ?_)
  have hl : lv_has ls 4 [(0, .ref (eA E 70)), (1, .int (nI f))] := hl
  have htl := hwf.tl
  have hwl := hwf.wl
  have hdl := hwf.dl
  refine lv_iconst (v := nI 0) X.x X.b d_R_sumOf_0 (by decide) ?_
  refine lv_istore_n (lv' := [(2, .int (nI 0)), (0, .ref (eA E 70)), (1, .int (nI f))]) X.x X.b d_R_sumOf_1 rfl hl (by decide) rfl (fun ls hl => ?_)
  refine lv_iconst (v := nI 0) X.x X.b d_R_sumOf_2 (by decide) ?_
  refine lv_istore_n (lv' := [(3, .int (nI 0)), (2, .int (nI 0)), (0, .ref (eA E 70)), (1, .int (nI f))]) X.x X.b d_R_sumOf_3 rfl hl (by decide) rfl (fun ls hl => ?_)
  have loop4 : ∀ (fu4 : Nat) (j : Nat) (a : Int32), j ≤ nW ν → a = fo (fun w a => a + ν (44 + 6 * w + f)) j (nI 0) → nW ν - j < fu4 → ∀ (H : Heap) (locs : List Loc) (ls : Array Slot), qWH E S s H locs → lv_has ls 4 [(3, .int (nI j)), (2, .int a), (0, .ref (eA E 70)), (1, .int (nI f))] → W p l e (qRm 3) s m ([.ref (eA E 70), .int (nI f)] : List Value).toArray below meth c H locs 0 0 (MQ below (qQi E (sumS ν f) S s.heap.size) ([.ref (eA E 70), .int (nI f)] : List Value).toArray s 0 0 (qAA E s.heap.size)) (F0 m 4 ls []) := by
    intro fu4
    induction fu4 with
    | zero =>
      intro j a hj ha hfu
      exact absurd hfu (Nat.not_lt_zero _)
    | succ fu4 ih4 =>
      intro j a hj ha hfu H locs ls hW hl
      refine lv_iload_n X.x X.b d_R_sumOf_4 rfl (lv_at hl 0 rfl) ?_
      refine lv_aload_n X.x X.b d_R_sumOf_5 rfl (lv_at hl 2 rfl) ?_
      refine q_getr X hW qj4 rfl _ ds_R 0 (by decide) mw_686 rfl (c1 := 71) rfl d_R_sumOf_6 ?_
      refine lv_iconst (v := nI 3) X.x X.b d_R_sumOf_9 (by decide) ?_
      refine g_ald X hW ds_71 (q_in (by omega) (by decide)) (p0 := 3) (q_tn (by omega) (by omega)) (v := ν 3) (by rw [hν]) d_R_sumOf_10 ?_
      rw [hwf.w]
      refine lv_icmp_ge (tgt := 29) X.x X.b d_R_sumOf_11 (by decide) (fun c11 => ?_) (fun c11 => ?_)
      · have c11 : (nW ν) ≤ j := (nI_leI (a := (nW ν)) (b := j) (by omega) (by omega)).mp c11
        refine lv_iload_n X.x X.b d_R_sumOf_29 rfl (lv_at hl 1 rfl) ?_
        exact q_zret X rfl hW ⟨by rw [ha, show j = nW ν by omega]; rfl, rfl⟩ d_R_sumOf_30
      · have c11 : ¬ (nW ν) ≤ j := fun z => c11 ((nI_leI (a := (nW ν)) (b := j) (by omega) (by omega)).mpr z)
        refine lv_iload_n X.x X.b d_R_sumOf_14 rfl (lv_at hl 1 rfl) ?_
        refine lv_aload_n X.x X.b d_R_sumOf_15 rfl (lv_at hl 2 rfl) ?_
        refine lv_iload_n X.x X.b d_R_sumOf_16 rfl (lv_at hl 0 rfl) ?_
        refine lv_iload_n X.x X.b d_R_sumOf_17 rfl (lv_at hl 3 rfl) ?_
        refine q_cvi X (c_R_walkerIs l E S ν (by rw [hν]) j f (by omega) (by omega)) hW (q_recv X hW ds_R rfl) ok_R_walkerIs mw_845 ⟨by decide, by decide⟩ (As := [.int (nI j), .int (nI f)]) rfl rfl (Nat.le_of_ble_eq_true rfl) (lv := [(3, .int (nI j)), (2, .int a), (0, .ref (eA E 70)), (1, .int (nI f))]) hl ⟨Nat.le_refl 0, Nat.le_refl 0⟩ d_R_sumOf_18 (fun H locs hW => ?_)
        refine lv_iadd X.x X.b d_R_sumOf_21 ?_
        refine lv_istore_n (lv' := [(2, .int (a + (ν (44 + 6 * j + f)))), (3, .int (nI j)), (0, .ref (eA E 70)), (1, .int (nI f))]) X.x X.b d_R_sumOf_22 rfl hl (by decide) rfl (fun ls hl => ?_)
        refine lv_iinc (v := nI (j + 1)) (lv' := [(3, .int (nI (j + 1))), (2, .int (a + (ν (44 + 6 * j + f)))), (0, .ref (eA E 70)), (1, .int (nI f))]) X.x X.b d_R_sumOf_23 hl (k := 1) rfl (by rw [show Int32.ofInt 1 = nI 1 from by decide, nI_add]) (by decide) rfl (fun ls hl => ?_)
        refine lv_goto (tgt := 4) X.x X.b d_R_sumOf_26 (by decide) ?_
        exact ih4 (j + 1) (a + (ν (44 + 6 * j + f))) (by omega) (by rw [fo_succ, ← ha]) (by omega) _ _ _ hW (lv_sub hl [0, 1, 2, 3] rfl)
  exact loop4 (nW ν - 0 + 1) 0 (nI 0) (by omega) rfl (Nat.lt_succ_self _) _ _ _ hW (lv_sub hl [0, 1, 2, 3] rfl)
set_option maxHeartbeats 1000000 in
set_option maxRecDepth 20000 in
theorem c_R_goingOnes (l : Launch) (E : QE) (S : QM) (ν : Nat → Int32) (hν : S 16 = ν) (hwf : WF ν)  : qCI E l y_R_goingOnes prog_7_method_51_code 4 .int 6 [.ref (eA E 70)] S (setS (gdd ν) (nW ν)) S := by
  refine qCI_of (by decide) (Nat.le_of_ble_eq_true rfl) (fun p e s m below meth c ls X hW hl => ?_)
  have hl : lv_has ls 4 [(0, .ref (eA E 70))] := hl
  have htl := hwf.tl
  have hwl := hwf.wl
  have hdl := hwf.dl
  refine lv_iconst (v := nI 0) X.x X.b d_R_goingOnes_0 (by decide) ?_
  refine lv_istore_n (lv' := [(1, .int (nI 0)), (0, .ref (eA E 70))]) X.x X.b d_R_goingOnes_1 rfl hl (by decide) rfl (fun ls hl => ?_)
  refine lv_iconst (v := nI 0) X.x X.b d_R_goingOnes_2 (by decide) ?_
  refine lv_istore_n (lv' := [(2, .int (nI 0)), (1, .int (nI 0)), (0, .ref (eA E 70))]) X.x X.b d_R_goingOnes_3 rfl hl (by decide) rfl (fun ls hl => ?_)
  have loop4 : ∀ (fu4 : Nat) (j : Nat) (a : Int32), j ≤ nW ν → a = fo (fun i a => if (isT ν (ν (44 + 6 * i + 1)) ∧ fnd ν i (ν (44 + 6 * i + 1)).toNatClampNeg) then a ||| bt i else a) j (nI 0) → nW ν - j < fu4 → ∀ (H : Heap) (locs : List Loc) (ls : Array Slot), qWH E S s H locs → lv_has ls 4 [(2, .int (nI j)), (1, .int a), (0, .ref (eA E 70))] → W p l e (qRm 6) s m ([.ref (eA E 70)] : List Value).toArray below meth c H locs 0 0 (MQ below (qQi E (setS (gdd ν) (nW ν)) S s.heap.size) ([.ref (eA E 70)] : List Value).toArray s 0 0 (qAA E s.heap.size)) (F0 m 4 ls []) := by
    intro fu4
    induction fu4 with
    | zero =>
      intro j a hj ha hfu
      exact absurd hfu (Nat.not_lt_zero _)
    | succ fu4 ih4 =>
      intro j a hj ha hfu H locs ls hW hl
      refine lv_iload_n X.x X.b d_R_goingOnes_4 rfl (lv_at hl 0 rfl) ?_
      refine lv_aload_n X.x X.b d_R_goingOnes_5 rfl (lv_at hl 2 rfl) ?_
      refine q_getr X hW qj4 rfl _ ds_R 0 (by decide) mw_686 rfl (c1 := 71) rfl d_R_goingOnes_6 ?_
      refine lv_iconst (v := nI 3) X.x X.b d_R_goingOnes_9 (by decide) ?_
      refine g_ald X hW ds_71 (q_in (by omega) (by decide)) (p0 := 3) (q_tn (by omega) (by omega)) (v := ν 3) (by rw [hν]) d_R_goingOnes_10 ?_
      refine W.eq (congrArg (fun z => F0 m 11 ls [.int z, .int (nI j)]) hwf.w) ?_
      refine lv_icmp_ge (tgt := 54) X.x X.b d_R_goingOnes_11 (by decide) (fun c11 => ?_) (fun c11 => ?_)
      · have c11 : (nW ν) ≤ j := (nI_leI (a := (nW ν)) (b := j) (by omega) (by omega)).mp c11
        refine lv_iload_n X.x X.b d_R_goingOnes_54 rfl (lv_at hl 1 rfl) ?_
        exact q_zret X rfl hW ⟨by rw [ha, show j = nW ν by omega]; rfl, rfl⟩ d_R_goingOnes_55
      · have c11 : ¬ (nW ν) ≤ j := fun z => c11 ((nI_leI (a := (nW ν)) (b := j) (by omega) (by omega)).mpr z)
        refine lv_aload_n X.x X.b d_R_goingOnes_14 rfl (lv_at hl 2 rfl) ?_
        refine lv_iload_n X.x X.b d_R_goingOnes_15 rfl (lv_at hl 0 rfl) ?_
        refine lv_iconst (v := nI 1) X.x X.b d_R_goingOnes_16 (by decide) ?_
        refine q_cvi X (c_R_walkerIs l E S ν (by rw [hν]) j 1 (by omega) (by omega)) hW (q_recv X hW ds_R rfl) ok_R_walkerIs mw_845 ⟨by decide, by decide⟩ (As := [.int (nI j), .int (nI 1)]) rfl rfl (Nat.le_of_ble_eq_true rfl) (lv := [(2, .int (nI j)), (1, .int a), (0, .ref (eA E 70))]) hl ⟨Nat.le_refl 0, Nat.le_refl 0⟩ d_R_goingOnes_17 (fun H locs hW => ?_)
        refine lv_topi (fun x17 ex17 => ?_)
        refine lv_istore_n (lv' := [(3, .int x17), (2, .int (nI j)), (1, .int a), (0, .ref (eA E 70))]) X.x X.b d_R_goingOnes_20 rfl hl (by decide) rfl (fun ls hl => ?_)
        refine lv_iload_n X.x X.b d_R_goingOnes_21 rfl (lv_at hl 2 rfl) ?_
        refine lv_aload_n X.x X.b d_R_goingOnes_22 rfl (lv_at hl 3 rfl) ?_
        refine lv_iload_n X.x X.b d_R_goingOnes_23 rfl (lv_at hl 0 rfl) ?_
        refine q_cvi X (c_R_isThing l E S ν (by rw [hν]) hwf x17) hW (q_recv X hW ds_R rfl) ok_R_isThing mw_809 ⟨by decide, by decide⟩ (As := [.int x17]) rfl rfl (Nat.le_of_ble_eq_true rfl) (lv := [(3, .int x17), (2, .int (nI j)), (1, .int a), (0, .ref (eA E 70))]) hl ⟨Nat.le_refl 0, Nat.le_refl 0⟩ d_R_goingOnes_24 (fun H locs hW => ?_)
        refine lv_if_eq (tgt := 45) X.x X.b d_R_goingOnes_27 (by decide) (fun c27 => ?_) (fun c27 => ?_)
        · have c27 := b2i_e c27
          refine lv_iconst (v := nI 0) X.x X.b d_R_goingOnes_45 (by decide) ?_
          refine lv_ior X.x X.b d_R_goingOnes_46 ?_
          refine lv_istore_n (lv' := [(1, .int (a ||| (nI 0))), (3, .int x17), (2, .int (nI j)), (0, .ref (eA E 70))]) X.x X.b d_R_goingOnes_47 rfl hl (by decide) rfl (fun ls hl => ?_)
          refine lv_iinc (v := nI (j + 1)) (lv' := [(2, .int (nI (j + 1))), (1, .int (a ||| (nI 0))), (3, .int x17), (0, .ref (eA E 70))]) X.x X.b d_R_goingOnes_48 hl (k := 2) rfl (by rw [show Int32.ofInt 1 = nI 1 from by decide, nI_add]) (by decide) rfl (fun ls hl => ?_)
          refine lv_goto (tgt := 4) X.x X.b d_R_goingOnes_51 (by decide) ?_
          exact ih4 (j + 1) (a ||| (nI 0)) (by omega) (by rw [fo_succ, ← ha]; first | exact (if_pos (by rw [← ex17, nI_clamp (by omega)]; exact ⟨c27, c36⟩)).symm | (rw [if_neg (by rw [← ex17]; exact fun z => c27 z.1)]; exact or0) | (rw [if_neg (by rw [← ex17, nI_clamp (by omega)]; exact fun z => c36 z.2)]; exact or0)) (by omega) _ _ _ hW (lv_sub hl [0, 1, 3] rfl)
        · have c27 := b2i_n c27
          obtain ⟨t27, ht27, rfl⟩ := isT_n hwf c27
          refine lv_aload_n X.x X.b d_R_goingOnes_30 rfl (lv_at hl 3 rfl) ?_
          refine lv_iload_n X.x X.b d_R_goingOnes_31 rfl (lv_at hl 1 rfl) ?_
          refine lv_iload_n X.x X.b d_R_goingOnes_32 rfl (lv_at hl 0 rfl) ?_
          refine q_cvi X (c_R_isGuided l E S ν (by rw [hν]) hwf j t27 (by omega) (by omega)) hW (q_recv X hW ds_R rfl) ok_R_isGuided mw_909 ⟨by decide, by decide⟩ (As := [.int (nI j), .int (nI t27)]) rfl rfl (Nat.le_of_ble_eq_true rfl) (lv := [(3, .int (nI t27)), (2, .int (nI j)), (1, .int a), (0, .ref (eA E 70))]) hl ⟨Nat.le_refl 0, Nat.le_refl 0⟩ d_R_goingOnes_33 (fun H locs hW => ?_)
          refine lv_if_eq (tgt := 45) X.x X.b d_R_goingOnes_36 (by decide) (fun c36 => ?_) (fun c36 => ?_)
          · have c36 := b2i_e c36
            refine lv_iconst (v := nI 0) X.x X.b d_R_goingOnes_45 (by decide) ?_
            refine lv_ior X.x X.b d_R_goingOnes_46 ?_
            refine lv_istore_n (lv' := [(1, .int (a ||| (nI 0))), (3, .int (nI t27)), (2, .int (nI j)), (0, .ref (eA E 70))]) X.x X.b d_R_goingOnes_47 rfl hl (by decide) rfl (fun ls hl => ?_)
            refine lv_iinc (v := nI (j + 1)) (lv' := [(2, .int (nI (j + 1))), (1, .int (a ||| (nI 0))), (3, .int (nI t27)), (0, .ref (eA E 70))]) X.x X.b d_R_goingOnes_48 hl (k := 2) rfl (by rw [show Int32.ofInt 1 = nI 1 from by decide, nI_add]) (by decide) rfl (fun ls hl => ?_)
            refine lv_goto (tgt := 4) X.x X.b d_R_goingOnes_51 (by decide) ?_
            exact ih4 (j + 1) (a ||| (nI 0)) (by omega) (by rw [fo_succ, ← ha]; first | exact (if_pos (by rw [← ex17, nI_clamp (by omega)]; exact ⟨c27, c36⟩)).symm | (rw [if_neg (by rw [← ex17]; exact fun z => c27 z.1)]; exact or0) | (rw [if_neg (by rw [← ex17, nI_clamp (by omega)]; exact fun z => c36 z.2)]; exact or0)) (by omega) _ _ _ hW (lv_sub hl [0, 1, 3] rfl)
          · have c36 := b2i_n c36
            refine lv_iconst (v := nI 1) X.x X.b d_R_goingOnes_39 (by decide) ?_
            refine lv_iload_n X.x X.b d_R_goingOnes_40 rfl (lv_at hl 1 rfl) ?_
            refine lv_ishl X.x X.b d_R_goingOnes_41 ?_
            refine lv_goto (tgt := 46) X.x X.b d_R_goingOnes_42 (by decide) ?_
            refine lv_ior X.x X.b d_R_goingOnes_46 ?_
            refine lv_istore_n (lv' := [(1, .int (a ||| ((nI 1) <<< ((nI j) &&& 31)))), (3, .int (nI t27)), (2, .int (nI j)), (0, .ref (eA E 70))]) X.x X.b d_R_goingOnes_47 rfl hl (by decide) rfl (fun ls hl => ?_)
            refine lv_iinc (v := nI (j + 1)) (lv' := [(2, .int (nI (j + 1))), (1, .int (a ||| ((nI 1) <<< ((nI j) &&& 31)))), (3, .int (nI t27)), (0, .ref (eA E 70))]) X.x X.b d_R_goingOnes_48 hl (k := 2) rfl (by rw [show Int32.ofInt 1 = nI 1 from by decide, nI_add]) (by decide) rfl (fun ls hl => ?_)
            refine lv_goto (tgt := 4) X.x X.b d_R_goingOnes_51 (by decide) ?_
            exact ih4 (j + 1) (a ||| ((nI 1) <<< ((nI j) &&& 31))) (by omega) (by rw [fo_succ, ← ha]; first | exact (if_pos (by rw [← ex17, nI_clamp (by omega)]; exact ⟨c27, c36⟩)).symm | (rw [if_neg (by rw [← ex17]; exact fun z => c27 z.1)]; exact or0) | (rw [if_neg (by rw [← ex17, nI_clamp (by omega)]; exact fun z => c36 z.2)]; exact or0)) (by omega) _ _ _ hW (lv_sub hl [0, 1, 3] rfl)
  exact loop4 (nW ν - 0 + 1) 0 (nI 0) (by omega) rfl (Nat.lt_succ_self _) _ _ _ hW (lv_sub hl [0, 1, 2] rfl)
set_option maxHeartbeats 1000000 in
set_option maxRecDepth 20000 in
theorem c_R_caredFor (l : Launch) (E : QE) (S : QM) (ν : Nat → Int32) (hν : S 16 = ν) (hwf : WF ν)  : qCI E l y_R_caredFor prog_7_method_52_code 3 .int 3 [.ref (eA E 70)] S (carS ν) S := by
  refine qCI_of (by decide) (Nat.le_of_ble_eq_true rfl) (fun p e s m below meth c ls X hW hl => ?_)
  have hl : lv_has ls 3 [(0, .ref (eA E 70))] := hl
  have htl := hwf.tl
  have hwl := hwf.wl
  have hdl := hwf.dl
  refine lv_iconst (v := nI 0) X.x X.b d_R_caredFor_0 (by decide) ?_
  refine lv_istore_n (lv' := [(1, .int (nI 0)), (0, .ref (eA E 70))]) X.x X.b d_R_caredFor_1 rfl hl (by decide) rfl (fun ls hl => ?_)
  refine lv_iconst (v := nI 0) X.x X.b d_R_caredFor_2 (by decide) ?_
  refine lv_istore_n (lv' := [(2, .int (nI 0)), (1, .int (nI 0)), (0, .ref (eA E 70))]) X.x X.b d_R_caredFor_3 rfl hl (by decide) rfl (fun ls hl => ?_)
  have loop4 : ∀ (fu4 : Nat) (j : Nat) (a : Int32), j ≤ nW ν → a = fo (fun i a => a ||| ν (44 + 6 * i + 3)) j (nI 0) → nW ν - j < fu4 → ∀ (H : Heap) (locs : List Loc) (ls : Array Slot), qWH E S s H locs → lv_has ls 3 [(2, .int (nI j)), (1, .int a), (0, .ref (eA E 70))] → W p l e (qRm 3) s m ([.ref (eA E 70)] : List Value).toArray below meth c H locs 0 0 (MQ below (qQi E (carS ν) S s.heap.size) ([.ref (eA E 70)] : List Value).toArray s 0 0 (qAA E s.heap.size)) (F0 m 4 ls []) := by
    intro fu4
    induction fu4 with
    | zero =>
      intro j a hj ha hfu
      exact absurd hfu (Nat.not_lt_zero _)
    | succ fu4 ih4 =>
      intro j a hj ha hfu H locs ls hW hl
      refine lv_iload_n X.x X.b d_R_caredFor_4 rfl (lv_at hl 0 rfl) ?_
      refine lv_aload_n X.x X.b d_R_caredFor_5 rfl (lv_at hl 2 rfl) ?_
      refine q_getr X hW qj4 rfl _ ds_R 0 (by decide) mw_686 rfl (c1 := 71) rfl d_R_caredFor_6 ?_
      refine lv_iconst (v := nI 3) X.x X.b d_R_caredFor_9 (by decide) ?_
      refine g_ald X hW ds_71 (q_in (by omega) (by decide)) (p0 := 3) (q_tn (by omega) (by omega)) (v := ν 3) (by rw [hν]) d_R_caredFor_10 ?_
      rw [hwf.w]
      refine lv_icmp_ge (tgt := 29) X.x X.b d_R_caredFor_11 (by decide) (fun c11 => ?_) (fun c11 => ?_)
      · have c11 : (nW ν) ≤ j := (nI_leI (a := (nW ν)) (b := j) (by omega) (by omega)).mp c11
        refine lv_iload_n X.x X.b d_R_caredFor_29 rfl (lv_at hl 1 rfl) ?_
        refine lv_iconst (v := nI 1) X.x X.b d_R_caredFor_30 (by decide) ?_
        refine lv_aload_n X.x X.b d_R_caredFor_31 rfl (lv_at hl 2 rfl) ?_
        refine q_getr X hW qj4 rfl _ ds_R 0 (by decide) mw_686 rfl (c1 := 71) rfl d_R_caredFor_32 ?_
        refine lv_iconst (v := nI 1) X.x X.b d_R_caredFor_35 (by decide) ?_
        refine g_ald X hW ds_71 (q_in (by omega) (by decide)) (p0 := 1) (q_tn (by omega) (by omega)) (v := ν 1) (by rw [hν]) d_R_caredFor_36 ?_
        refine lv_ishl X.x X.b d_R_caredFor_37 ?_
        refine lv_iconst (v := nI 1) X.x X.b d_R_caredFor_38 (by decide) ?_
        refine lv_isub X.x X.b d_R_caredFor_39 ?_
        refine lv_iand X.x X.b d_R_caredFor_40 ?_
        exact q_zret X rfl hW ⟨by rw [ha, show j = nW ν by omega]; rfl, rfl⟩ d_R_caredFor_41
      · have c11 : ¬ (nW ν) ≤ j := fun z => c11 ((nI_leI (a := (nW ν)) (b := j) (by omega) (by omega)).mpr z)
        refine lv_iload_n X.x X.b d_R_caredFor_14 rfl (lv_at hl 1 rfl) ?_
        refine lv_aload_n X.x X.b d_R_caredFor_15 rfl (lv_at hl 2 rfl) ?_
        refine lv_iload_n X.x X.b d_R_caredFor_16 rfl (lv_at hl 0 rfl) ?_
        refine lv_iconst (v := nI 3) X.x X.b d_R_caredFor_17 (by decide) ?_
        refine q_cvi X (c_R_walkerIs l E S ν (by rw [hν]) j 3 (by omega) (by omega)) hW (q_recv X hW ds_R rfl) ok_R_walkerIs mw_845 ⟨by decide, by decide⟩ (As := [.int (nI j), .int (nI 3)]) rfl rfl (Nat.le_of_ble_eq_true rfl) (lv := [(2, .int (nI j)), (1, .int a), (0, .ref (eA E 70))]) hl ⟨Nat.le_refl 0, Nat.le_refl 0⟩ d_R_caredFor_18 (fun H locs hW => ?_)
        refine lv_ior X.x X.b d_R_caredFor_21 ?_
        refine lv_istore_n (lv' := [(1, .int (a ||| (ν (44 + 6 * j + 3)))), (2, .int (nI j)), (0, .ref (eA E 70))]) X.x X.b d_R_caredFor_22 rfl hl (by decide) rfl (fun ls hl => ?_)
        refine lv_iinc (v := nI (j + 1)) (lv' := [(2, .int (nI (j + 1))), (1, .int (a ||| (ν (44 + 6 * j + 3)))), (0, .ref (eA E 70))]) X.x X.b d_R_caredFor_23 hl (k := 1) rfl (by rw [show Int32.ofInt 1 = nI 1 from by decide, nI_add]) (by decide) rfl (fun ls hl => ?_)
        refine lv_goto (tgt := 4) X.x X.b d_R_caredFor_26 (by decide) ?_
        exact ih4 (j + 1) (a ||| (ν (44 + 6 * j + 3))) (by omega) (by rw [fo_succ, ← ha]) (by omega) _ _ _ hW (lv_sub hl [0, 1, 2] rfl)
  exact loop4 (nW ν - 0 + 1) 0 (nI 0) (by omega) rfl (Nat.lt_succ_self _) _ _ _ hW (lv_sub hl [0, 1, 2] rfl)
set_option maxHeartbeats 1000000 in
set_option maxRecDepth 20000 in
theorem c_R_walkersCells (l : Launch) (E : QE) (S : QM) (ν : Nat → Int32) (hν : S 16 = ν) (hwf : WF ν)  : qCI E l y_R_walkersCells prog_7_method_53_code 3 .int 3 [.ref (eA E 70)] S (wcsS ν) S := by
  refine qCI_of (by decide) (Nat.le_of_ble_eq_true rfl) (fun p e s m below meth c ls X hW hl => ?_)
  have hl : lv_has ls 3 [(0, .ref (eA E 70))] := hl
  have htl := hwf.tl
  have hwl := hwf.wl
  have hdl := hwf.dl
  refine lv_iconst (v := nI 0) X.x X.b d_R_walkersCells_0 (by decide) ?_
  refine lv_istore_n (lv' := [(1, .int (nI 0)), (0, .ref (eA E 70))]) X.x X.b d_R_walkersCells_1 rfl hl (by decide) rfl (fun ls hl => ?_)
  refine lv_iconst (v := nI 0) X.x X.b d_R_walkersCells_2 (by decide) ?_
  refine lv_istore_n (lv' := [(2, .int (nI 0)), (1, .int (nI 0)), (0, .ref (eA E 70))]) X.x X.b d_R_walkersCells_3 rfl hl (by decide) rfl (fun ls hl => ?_)
  have loop4 : ∀ (fu4 : Nat) (j : Nat) (a : Int32), j ≤ nW ν → a = fo (fun i a => a ||| nI 1 <<< (ν (44 + 6 * i) &&& 31)) j (nI 0) → nW ν - j < fu4 → ∀ (H : Heap) (locs : List Loc) (ls : Array Slot), qWH E S s H locs → lv_has ls 3 [(2, .int (nI j)), (1, .int a), (0, .ref (eA E 70))] → W p l e (qRm 3) s m ([.ref (eA E 70)] : List Value).toArray below meth c H locs 0 0 (MQ below (qQi E (wcsS ν) S s.heap.size) ([.ref (eA E 70)] : List Value).toArray s 0 0 (qAA E s.heap.size)) (F0 m 4 ls []) := by
    intro fu4
    induction fu4 with
    | zero =>
      intro j a hj ha hfu
      exact absurd hfu (Nat.not_lt_zero _)
    | succ fu4 ih4 =>
      intro j a hj ha hfu H locs ls hW hl
      refine lv_iload_n X.x X.b d_R_walkersCells_4 rfl (lv_at hl 0 rfl) ?_
      refine lv_aload_n X.x X.b d_R_walkersCells_5 rfl (lv_at hl 2 rfl) ?_
      refine q_getr X hW qj4 rfl _ ds_R 0 (by decide) mw_686 rfl (c1 := 71) rfl d_R_walkersCells_6 ?_
      refine lv_iconst (v := nI 3) X.x X.b d_R_walkersCells_9 (by decide) ?_
      refine g_ald X hW ds_71 (q_in (by omega) (by decide)) (p0 := 3) (q_tn (by omega) (by omega)) (v := ν 3) (by rw [hν]) d_R_walkersCells_10 ?_
      rw [hwf.w]
      refine lv_icmp_ge (tgt := 31) X.x X.b d_R_walkersCells_11 (by decide) (fun c11 => ?_) (fun c11 => ?_)
      · have c11 : (nW ν) ≤ j := (nI_leI (a := (nW ν)) (b := j) (by omega) (by omega)).mp c11
        refine lv_iload_n X.x X.b d_R_walkersCells_31 rfl (lv_at hl 1 rfl) ?_
        exact q_zret X rfl hW ⟨by rw [ha, show j = nW ν by omega]; rfl, rfl⟩ d_R_walkersCells_32
      · have c11 : ¬ (nW ν) ≤ j := fun z => c11 ((nI_leI (a := (nW ν)) (b := j) (by omega) (by omega)).mpr z)
        refine lv_iload_n X.x X.b d_R_walkersCells_14 rfl (lv_at hl 1 rfl) ?_
        refine lv_iconst (v := nI 1) X.x X.b d_R_walkersCells_15 (by decide) ?_
        refine lv_aload_n X.x X.b d_R_walkersCells_16 rfl (lv_at hl 2 rfl) ?_
        refine lv_iload_n X.x X.b d_R_walkersCells_17 rfl (lv_at hl 0 rfl) ?_
        refine lv_iconst (v := nI 0) X.x X.b d_R_walkersCells_18 (by decide) ?_
        refine q_cvi X (c_R_walkerIs_z l E S ν (by rw [hν]) j (by omega)) hW (q_recv X hW ds_R rfl) ok_R_walkerIs mw_845 ⟨by decide, by decide⟩ (As := [.int (nI j), .int (nI 0)]) rfl rfl (Nat.le_of_ble_eq_true rfl) (lv := [(2, .int (nI j)), (1, .int a), (0, .ref (eA E 70))]) hl ⟨Nat.le_refl 0, Nat.le_refl 0⟩ d_R_walkersCells_19 (fun H locs hW => ?_)
        refine lv_ishl X.x X.b d_R_walkersCells_22 ?_
        refine lv_ior X.x X.b d_R_walkersCells_23 ?_
        refine lv_istore_n (lv' := [(1, .int (a ||| ((nI 1) <<< ((ν (44 + 6 * j)) &&& 31)))), (2, .int (nI j)), (0, .ref (eA E 70))]) X.x X.b d_R_walkersCells_24 rfl hl (by decide) rfl (fun ls hl => ?_)
        refine lv_iinc (v := nI (j + 1)) (lv' := [(2, .int (nI (j + 1))), (1, .int (a ||| ((nI 1) <<< ((ν (44 + 6 * j)) &&& 31)))), (0, .ref (eA E 70))]) X.x X.b d_R_walkersCells_25 hl (k := 1) rfl (by rw [show Int32.ofInt 1 = nI 1 from by decide, nI_add]) (by decide) rfl (fun ls hl => ?_)
        refine lv_goto (tgt := 4) X.x X.b d_R_walkersCells_28 (by decide) ?_
        exact ih4 (j + 1) (a ||| ((nI 1) <<< ((ν (44 + 6 * j)) &&& 31))) (by omega) (by rw [fo_succ, ← ha]) (by omega) _ _ _ hW (lv_sub hl [0, 1, 2] rfl)
  exact loop4 (nW ν - 0 + 1) 0 (nI 0) (by omega) rfl (Nat.lt_succ_self _) _ _ _ hW (lv_sub hl [0, 1, 2] rfl)
set_option maxHeartbeats 1000000 in
set_option maxRecDepth 20000 in
theorem c_R_thingsCells (l : Launch) (E : QE) (S : QM) (ν : Nat → Int32) (hν : S 16 = ν) (hwf : WF ν)  : qCI E l y_R_thingsCells prog_7_method_54_code 3 .int 3 [.ref (eA E 70)] S (tcsS ν) S := by
  refine qCI_of (by decide) (Nat.le_of_ble_eq_true rfl) (fun p e s m below meth c ls X hW hl => ?_)
  have hl : lv_has ls 3 [(0, .ref (eA E 70))] := hl
  have htl := hwf.tl
  have hwl := hwf.wl
  have hdl := hwf.dl
  refine lv_iconst (v := nI 0) X.x X.b d_R_thingsCells_0 (by decide) ?_
  refine lv_istore_n (lv' := [(1, .int (nI 0)), (0, .ref (eA E 70))]) X.x X.b d_R_thingsCells_1 rfl hl (by decide) rfl (fun ls hl => ?_)
  refine lv_iconst (v := nI 0) X.x X.b d_R_thingsCells_2 (by decide) ?_
  refine lv_istore_n (lv' := [(2, .int (nI 0)), (1, .int (nI 0)), (0, .ref (eA E 70))]) X.x X.b d_R_thingsCells_3 rfl hl (by decide) rfl (fun ls hl => ?_)
  have loop4 : ∀ (fu4 : Nat) (j : Nat) (a : Int32), j ≤ nT ν → a = fo (fun i a => a ||| nI 1 <<< (ν (20 + 3 * i + 1) &&& 31)) j (nI 0) → nT ν - j < fu4 → ∀ (H : Heap) (locs : List Loc) (ls : Array Slot), qWH E S s H locs → lv_has ls 3 [(2, .int (nI j)), (1, .int a), (0, .ref (eA E 70))] → W p l e (qRm 3) s m ([.ref (eA E 70)] : List Value).toArray below meth c H locs 0 0 (MQ below (qQi E (tcsS ν) S s.heap.size) ([.ref (eA E 70)] : List Value).toArray s 0 0 (qAA E s.heap.size)) (F0 m 4 ls []) := by
    intro fu4
    induction fu4 with
    | zero =>
      intro j a hj ha hfu
      exact absurd hfu (Nat.not_lt_zero _)
    | succ fu4 ih4 =>
      intro j a hj ha hfu H locs ls hW hl
      refine lv_iload_n X.x X.b d_R_thingsCells_4 rfl (lv_at hl 0 rfl) ?_
      refine lv_aload_n X.x X.b d_R_thingsCells_5 rfl (lv_at hl 2 rfl) ?_
      refine q_getr X hW qj4 rfl _ ds_R 0 (by decide) mw_686 rfl (c1 := 71) rfl d_R_thingsCells_6 ?_
      refine lv_iconst (v := nI 1) X.x X.b d_R_thingsCells_9 (by decide) ?_
      refine g_ald X hW ds_71 (q_in (by omega) (by decide)) (p0 := 1) (q_tn (by omega) (by omega)) (v := ν 1) (by rw [hν]) d_R_thingsCells_10 ?_
      rw [hwf.t]
      refine lv_icmp_ge (tgt := 31) X.x X.b d_R_thingsCells_11 (by decide) (fun c11 => ?_) (fun c11 => ?_)
      · have c11 : (nT ν) ≤ j := (nI_leI (a := (nT ν)) (b := j) (by omega) (by omega)).mp c11
        refine lv_iload_n X.x X.b d_R_thingsCells_31 rfl (lv_at hl 1 rfl) ?_
        exact q_zret X rfl hW ⟨by rw [ha, show j = nT ν by omega]; rfl, rfl⟩ d_R_thingsCells_32
      · have c11 : ¬ (nT ν) ≤ j := fun z => c11 ((nI_leI (a := (nT ν)) (b := j) (by omega) (by omega)).mpr z)
        refine lv_iload_n X.x X.b d_R_thingsCells_14 rfl (lv_at hl 1 rfl) ?_
        refine lv_iconst (v := nI 1) X.x X.b d_R_thingsCells_15 (by decide) ?_
        refine lv_aload_n X.x X.b d_R_thingsCells_16 rfl (lv_at hl 2 rfl) ?_
        refine lv_iload_n X.x X.b d_R_thingsCells_17 rfl (lv_at hl 0 rfl) ?_
        refine lv_iconst (v := nI 1) X.x X.b d_R_thingsCells_18 (by decide) ?_
        refine q_cvi X (c_R_thingIs l E S ν (by rw [hν]) j 1 (by omega) (by omega)) hW (q_recv X hW ds_R rfl) ok_R_thingIs mw_821 ⟨by decide, by decide⟩ (As := [.int (nI j), .int (nI 1)]) rfl rfl (Nat.le_of_ble_eq_true rfl) (lv := [(2, .int (nI j)), (1, .int a), (0, .ref (eA E 70))]) hl ⟨Nat.le_refl 0, Nat.le_refl 0⟩ d_R_thingsCells_19 (fun H locs hW => ?_)
        refine lv_ishl X.x X.b d_R_thingsCells_22 ?_
        refine lv_ior X.x X.b d_R_thingsCells_23 ?_
        refine lv_istore_n (lv' := [(1, .int (a ||| ((nI 1) <<< ((ν (20 + 3 * j + 1)) &&& 31)))), (2, .int (nI j)), (0, .ref (eA E 70))]) X.x X.b d_R_thingsCells_24 rfl hl (by decide) rfl (fun ls hl => ?_)
        refine lv_iinc (v := nI (j + 1)) (lv' := [(2, .int (nI (j + 1))), (1, .int (a ||| ((nI 1) <<< ((ν (20 + 3 * j + 1)) &&& 31)))), (0, .ref (eA E 70))]) X.x X.b d_R_thingsCells_25 hl (k := 1) rfl (by rw [show Int32.ofInt 1 = nI 1 from by decide, nI_add]) (by decide) rfl (fun ls hl => ?_)
        refine lv_goto (tgt := 4) X.x X.b d_R_thingsCells_28 (by decide) ?_
        exact ih4 (j + 1) (a ||| ((nI 1) <<< ((ν (20 + 3 * j + 1)) &&& 31))) (by omega) (by rw [fo_succ, ← ha]) (by omega) _ _ _ hW (lv_sub hl [0, 1, 2] rfl)
  exact loop4 (nT ν - 0 + 1) 0 (nI 0) (by omega) rfl (Nat.lt_succ_self _) _ _ _ hW (lv_sub hl [0, 1, 2] rfl)
set_option maxHeartbeats 1000000 in
set_option maxRecDepth 20000 in
theorem c_R_unseen (l : Launch) (E : QE) (S : QM) (ν : Nat → Int32) (hν : S 16 = ν) (hwf : WF ν)  : qCI E l y_R_unseen prog_7_method_55_code 3 .int 6 [.ref (eA E 70)] S (unsS ν) S := by
  refine qCI_of (by decide) (Nat.le_of_ble_eq_true rfl) (fun p e s m below meth c ls X hW hl => ?_)
  have hl : lv_has ls 3 [(0, .ref (eA E 70))] := hl
  have htl := hwf.tl
  have hwl := hwf.wl
  have hdl := hwf.dl
  refine lv_iconst (v := nI 0) X.x X.b d_R_unseen_0 (by decide) ?_
  refine lv_istore_n (lv' := [(1, .int (nI 0)), (0, .ref (eA E 70))]) X.x X.b d_R_unseen_1 rfl hl (by decide) rfl (fun ls hl => ?_)
  refine lv_iconst (v := nI 0) X.x X.b d_R_unseen_2 (by decide) ?_
  refine lv_istore_n (lv' := [(2, .int (nI 0)), (1, .int (nI 0)), (0, .ref (eA E 70))]) X.x X.b d_R_unseen_3 rfl hl (by decide) rfl (fun ls hl => ?_)
  have loop4 : ∀ (fu4 : Nat) (j : Nat) (a : Int32), j ≤ nT ν → a = fo (fun i a => if snbS ν i = 0 then a ||| bt i else a) j (nI 0) → nT ν - j < fu4 → ∀ (H : Heap) (locs : List Loc) (ls : Array Slot), qWH E S s H locs → lv_has ls 3 [(2, .int (nI j)), (1, .int a), (0, .ref (eA E 70))] → W p l e (qRm 6) s m ([.ref (eA E 70)] : List Value).toArray below meth c H locs 0 0 (MQ below (qQi E (unsS ν) S s.heap.size) ([.ref (eA E 70)] : List Value).toArray s 0 0 (qAA E s.heap.size)) (F0 m 4 ls []) := by
    intro fu4
    induction fu4 with
    | zero =>
      intro j a hj ha hfu
      exact absurd hfu (Nat.not_lt_zero _)
    | succ fu4 ih4 =>
      intro j a hj ha hfu H locs ls hW hl
      refine lv_iload_n X.x X.b d_R_unseen_4 rfl (lv_at hl 0 rfl) ?_
      refine lv_aload_n X.x X.b d_R_unseen_5 rfl (lv_at hl 2 rfl) ?_
      refine q_getr X hW qj4 rfl _ ds_R 0 (by decide) mw_686 rfl (c1 := 71) rfl d_R_unseen_6 ?_
      refine lv_iconst (v := nI 1) X.x X.b d_R_unseen_9 (by decide) ?_
      refine g_ald X hW ds_71 (q_in (by omega) (by decide)) (p0 := 1) (q_tn (by omega) (by omega)) (v := ν 1) (by rw [hν]) d_R_unseen_10 ?_
      rw [hwf.t]
      refine lv_icmp_ge (tgt := 38) X.x X.b d_R_unseen_11 (by decide) (fun c11 => ?_) (fun c11 => ?_)
      · have c11 : (nT ν) ≤ j := (nI_leI (a := (nT ν)) (b := j) (by omega) (by omega)).mp c11
        refine lv_iload_n X.x X.b d_R_unseen_38 rfl (lv_at hl 1 rfl) ?_
        exact q_zret X rfl hW ⟨by rw [ha, show j = nT ν by omega]; rfl, rfl⟩ d_R_unseen_39
      · have c11 : ¬ (nT ν) ≤ j := fun z => c11 ((nI_leI (a := (nT ν)) (b := j) (by omega) (by omega)).mpr z)
        refine lv_iload_n X.x X.b d_R_unseen_14 rfl (lv_at hl 1 rfl) ?_
        refine lv_aload_n X.x X.b d_R_unseen_15 rfl (lv_at hl 2 rfl) ?_
        refine lv_iload_n X.x X.b d_R_unseen_16 rfl (lv_at hl 0 rfl) ?_
        refine q_cvi X (c_R_seers l E S ν (by rw [hν]) hwf j (by omega)) hW (q_recv X hW ds_R rfl) ok_R_seers mw_879 ⟨by decide, by decide⟩ (As := [.int (nI j)]) rfl rfl (Nat.le_of_ble_eq_true rfl) (lv := [(2, .int (nI j)), (1, .int a), (0, .ref (eA E 70))]) hl ⟨Nat.le_refl 0, Nat.le_refl 0⟩ d_R_unseen_17 (fun H locs hW => ?_)
        refine lv_if_ne (tgt := 29) X.x X.b d_R_unseen_20 (by decide) (fun c20 => ?_) (fun c20 => ?_)
        · refine lv_iconst (v := nI 0) X.x X.b d_R_unseen_29 (by decide) ?_
          refine lv_ior X.x X.b d_R_unseen_30 ?_
          refine lv_istore_n (lv' := [(1, .int (a ||| (nI 0))), (2, .int (nI j)), (0, .ref (eA E 70))]) X.x X.b d_R_unseen_31 rfl hl (by decide) rfl (fun ls hl => ?_)
          refine lv_iinc (v := nI (j + 1)) (lv' := [(2, .int (nI (j + 1))), (1, .int (a ||| (nI 0))), (0, .ref (eA E 70))]) X.x X.b d_R_unseen_32 hl (k := 1) rfl (by rw [show Int32.ofInt 1 = nI 1 from by decide, nI_add]) (by decide) rfl (fun ls hl => ?_)
          refine lv_goto (tgt := 4) X.x X.b d_R_unseen_35 (by decide) ?_
          exact ih4 (j + 1) (a ||| (nI 0)) (by omega) (by rw [fo_succ, ← ha]; first | exact (if_pos c20).symm | (rw [if_neg c20]; exact or0)) (by omega) _ _ _ hW (lv_sub hl [0, 1, 2] rfl)
        · refine lv_iconst (v := nI 1) X.x X.b d_R_unseen_23 (by decide) ?_
          refine lv_iload_n X.x X.b d_R_unseen_24 rfl (lv_at hl 0 rfl) ?_
          refine lv_ishl X.x X.b d_R_unseen_25 ?_
          refine lv_goto (tgt := 30) X.x X.b d_R_unseen_26 (by decide) ?_
          refine lv_ior X.x X.b d_R_unseen_30 ?_
          refine lv_istore_n (lv' := [(1, .int (a ||| ((nI 1) <<< ((nI j) &&& 31)))), (2, .int (nI j)), (0, .ref (eA E 70))]) X.x X.b d_R_unseen_31 rfl hl (by decide) rfl (fun ls hl => ?_)
          refine lv_iinc (v := nI (j + 1)) (lv' := [(2, .int (nI (j + 1))), (1, .int (a ||| ((nI 1) <<< ((nI j) &&& 31)))), (0, .ref (eA E 70))]) X.x X.b d_R_unseen_32 hl (k := 1) rfl (by rw [show Int32.ofInt 1 = nI 1 from by decide, nI_add]) (by decide) rfl (fun ls hl => ?_)
          refine lv_goto (tgt := 4) X.x X.b d_R_unseen_35 (by decide) ?_
          exact ih4 (j + 1) (a ||| ((nI 1) <<< ((nI j) &&& 31))) (by omega) (by rw [fo_succ, ← ha]; first | exact (if_pos c20).symm | (rw [if_neg c20]; exact or0)) (by omega) _ _ _ hW (lv_sub hl [0, 1, 2] rfl)
  exact loop4 (nT ν - 0 + 1) 0 (nI 0) (by omega) rfl (Nat.lt_succ_self _) _ _ _ hW (lv_sub hl [0, 1, 2] rfl)
