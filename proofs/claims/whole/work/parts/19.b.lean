theorem d_R_byteAt_0 : decode prog_7_method_83_code 0 = .ok (.iload_n 1, 1) := by decide +kernel
theorem d_R_byteAt_1 : decode prog_7_method_83_code 1 = .ok (.aload_n 0, 1) := by decide +kernel
theorem d_R_byteAt_2 : decode prog_7_method_83_code 2 = .ok (.getfield 251, 3) := by decide +kernel
theorem d_R_byteAt_5 : decode prog_7_method_83_code 5 = .ok (.if_icmp .ge 12, 3) := by decide +kernel
theorem d_R_byteAt_8 : decode prog_7_method_83_code 8 = .ok (.aload_n 0, 1) := by decide +kernel
theorem d_R_byteAt_9 : decode prog_7_method_83_code 9 = .ok (.getfield 22, 3) := by decide +kernel
theorem d_R_byteAt_12 : decode prog_7_method_83_code 12 = .ok (.iload_n 1, 1) := by decide +kernel
theorem d_R_byteAt_13 : decode prog_7_method_83_code 13 = .ok (.iaload, 1) := by decide +kernel
theorem d_R_byteAt_14 : decode prog_7_method_83_code 14 = .ok (.goto 4, 3) := by decide +kernel
theorem d_R_byteAt_18 : decode prog_7_method_83_code 18 = .ok (.ireturn, 1) := by decide +kernel
theorem d_R_byteAt_17 : decode prog_7_method_83_code 17 = .ok (.iconst (-1), 1) := by decide +kernel
theorem d_R_token_0 : decode prog_7_method_84_code 0 = .ok (.aload_n 0, 1) := by decide +kernel
theorem d_R_token_1 : decode prog_7_method_84_code 1 = .ok (.aload_n 0, 1) := by decide +kernel
theorem d_R_token_2 : decode prog_7_method_84_code 2 = .ok (.getfield 255, 3) := by decide +kernel
theorem d_R_token_5 : decode prog_7_method_84_code 5 = .ok (.putfield 258, 3) := by decide +kernel
theorem d_R_token_8 : decode prog_7_method_84_code 8 = .ok (.aload_n 0, 1) := by decide +kernel
theorem d_R_token_9 : decode prog_7_method_84_code 9 = .ok (.aload_n 0, 1) := by decide +kernel
theorem d_R_token_10 : decode prog_7_method_84_code 10 = .ok (.getfield 258, 3) := by decide +kernel
theorem d_R_token_13 : decode prog_7_method_84_code 13 = .ok (.invokevirtual 261, 3) := by decide +kernel
theorem d_R_token_16 : decode prog_7_method_84_code 16 = .ok (.bipush 32, 2) := by decide +kernel
theorem d_R_token_18 : decode prog_7_method_84_code 18 = .ok (.if_icmp .ne 16, 3) := by decide +kernel
theorem d_R_token_21 : decode prog_7_method_84_code 21 = .ok (.aload_n 0, 1) := by decide +kernel
theorem d_R_token_22 : decode prog_7_method_84_code 22 = .ok (.dup, 1) := by decide +kernel
theorem d_R_token_23 : decode prog_7_method_84_code 23 = .ok (.getfield 258, 3) := by decide +kernel
theorem d_R_token_26 : decode prog_7_method_84_code 26 = .ok (.iconst 1, 1) := by decide +kernel
theorem d_R_token_27 : decode prog_7_method_84_code 27 = .ok (.iadd, 1) := by decide +kernel
theorem d_R_token_28 : decode prog_7_method_84_code 28 = .ok (.putfield 258, 3) := by decide +kernel
theorem d_R_token_31 : decode prog_7_method_84_code 31 = .ok (.goto (-23), 3) := by decide +kernel
theorem d_R_token_34 : decode prog_7_method_84_code 34 = .ok (.aload_n 0, 1) := by decide +kernel
theorem d_R_token_35 : decode prog_7_method_84_code 35 = .ok (.aload_n 0, 1) := by decide +kernel
theorem d_R_token_36 : decode prog_7_method_84_code 36 = .ok (.getfield 258, 3) := by decide +kernel
theorem d_R_token_39 : decode prog_7_method_84_code 39 = .ok (.invokevirtual 261, 3) := by decide +kernel
theorem d_R_token_42 : decode prog_7_method_84_code 42 = .ok (.istore_n 1, 1) := by decide +kernel
theorem d_R_token_43 : decode prog_7_method_84_code 43 = .ok (.aload_n 0, 1) := by decide +kernel
theorem d_R_token_44 : decode prog_7_method_84_code 44 = .ok (.aload_n 0, 1) := by decide +kernel
theorem d_R_token_45 : decode prog_7_method_84_code 45 = .ok (.getfield 258, 3) := by decide +kernel
theorem d_R_token_48 : decode prog_7_method_84_code 48 = .ok (.putfield 255, 3) := by decide +kernel
theorem d_R_token_51 : decode prog_7_method_84_code 51 = .ok (.aload_n 0, 1) := by decide +kernel
theorem d_R_token_52 : decode prog_7_method_84_code 52 = .ok (.iconst 0, 1) := by decide +kernel
theorem d_R_token_53 : decode prog_7_method_84_code 53 = .ok (.putfield 264, 3) := by decide +kernel
theorem d_R_token_56 : decode prog_7_method_84_code 56 = .ok (.iload_n 1, 1) := by decide +kernel
theorem d_R_token_57 : decode prog_7_method_84_code 57 = .ok (.ifCond .ge 11, 3) := by decide +kernel
theorem d_R_token_60 : decode prog_7_method_84_code 60 = .ok (.aload_n 0, 1) := by decide +kernel
theorem d_R_token_61 : decode prog_7_method_84_code 61 = .ok (.iconst 0, 1) := by decide +kernel
theorem d_R_token_62 : decode prog_7_method_84_code 62 = .ok (.putfield 267, 3) := by decide +kernel
theorem d_R_token_65 : decode prog_7_method_84_code 65 = .ok (.goto 141, 3) := by decide +kernel
theorem d_R_token_68 : decode prog_7_method_84_code 68 = .ok (.iload_n 1, 1) := by decide +kernel
theorem d_R_token_69 : decode prog_7_method_84_code 69 = .ok (.bipush 97, 2) := by decide +kernel
theorem d_R_token_71 : decode prog_7_method_84_code 71 = .ok (.bipush 122, 2) := by decide +kernel
theorem d_R_token_73 : decode prog_7_method_84_code 73 = .ok (.invokestatic 70, 3) := by decide +kernel
theorem d_R_token_76 : decode prog_7_method_84_code 76 = .ok (.ifCond .eq 39, 3) := by decide +kernel
theorem d_R_token_79 : decode prog_7_method_84_code 79 = .ok (.aload_n 0, 1) := by decide +kernel
theorem d_R_token_80 : decode prog_7_method_84_code 80 = .ok (.iconst 1, 1) := by decide +kernel
theorem d_R_token_81 : decode prog_7_method_84_code 81 = .ok (.putfield 267, 3) := by decide +kernel
theorem d_R_token_84 : decode prog_7_method_84_code 84 = .ok (.aload_n 0, 1) := by decide +kernel
theorem d_R_token_85 : decode prog_7_method_84_code 85 = .ok (.aload_n 0, 1) := by decide +kernel
theorem d_R_token_86 : decode prog_7_method_84_code 86 = .ok (.getfield 255, 3) := by decide +kernel
theorem d_R_token_89 : decode prog_7_method_84_code 89 = .ok (.invokevirtual 261, 3) := by decide +kernel
theorem d_R_token_92 : decode prog_7_method_84_code 92 = .ok (.bipush 97, 2) := by decide +kernel
theorem d_R_token_94 : decode prog_7_method_84_code 94 = .ok (.bipush 122, 2) := by decide +kernel
theorem d_R_token_96 : decode prog_7_method_84_code 96 = .ok (.invokestatic 70, 3) := by decide +kernel
theorem d_R_token_99 : decode prog_7_method_84_code 99 = .ok (.ifCond .eq 107, 3) := by decide +kernel
theorem d_R_token_102 : decode prog_7_method_84_code 102 = .ok (.aload_n 0, 1) := by decide +kernel
theorem d_R_token_103 : decode prog_7_method_84_code 103 = .ok (.dup, 1) := by decide +kernel
theorem d_R_token_104 : decode prog_7_method_84_code 104 = .ok (.getfield 255, 3) := by decide +kernel
theorem d_R_token_107 : decode prog_7_method_84_code 107 = .ok (.iconst 1, 1) := by decide +kernel
theorem d_R_token_108 : decode prog_7_method_84_code 108 = .ok (.iadd, 1) := by decide +kernel
theorem d_R_token_109 : decode prog_7_method_84_code 109 = .ok (.putfield 255, 3) := by decide +kernel
theorem d_R_token_112 : decode prog_7_method_84_code 112 = .ok (.goto (-28), 3) := by decide +kernel
theorem d_R_token_115 : decode prog_7_method_84_code 115 = .ok (.iload_n 1, 1) := by decide +kernel
theorem d_R_token_116 : decode prog_7_method_84_code 116 = .ok (.bipush 48, 2) := by decide +kernel
theorem d_R_token_118 : decode prog_7_method_84_code 118 = .ok (.bipush 57, 2) := by decide +kernel
theorem d_R_token_120 : decode prog_7_method_84_code 120 = .ok (.invokestatic 70, 3) := by decide +kernel
theorem d_R_token_123 : decode prog_7_method_84_code 123 = .ok (.ifCond .eq 68, 3) := by decide +kernel
theorem d_R_token_126 : decode prog_7_method_84_code 126 = .ok (.aload_n 0, 1) := by decide +kernel
theorem d_R_token_127 : decode prog_7_method_84_code 127 = .ok (.iconst 2, 1) := by decide +kernel
theorem d_R_token_128 : decode prog_7_method_84_code 128 = .ok (.putfield 267, 3) := by decide +kernel
theorem d_R_token_131 : decode prog_7_method_84_code 131 = .ok (.aload_n 0, 1) := by decide +kernel
theorem d_R_token_132 : decode prog_7_method_84_code 132 = .ok (.aload_n 0, 1) := by decide +kernel
theorem d_R_token_133 : decode prog_7_method_84_code 133 = .ok (.getfield 255, 3) := by decide +kernel
theorem d_R_token_136 : decode prog_7_method_84_code 136 = .ok (.invokevirtual 261, 3) := by decide +kernel
theorem d_R_token_139 : decode prog_7_method_84_code 139 = .ok (.bipush 48, 2) := by decide +kernel
theorem d_R_token_141 : decode prog_7_method_84_code 141 = .ok (.bipush 57, 2) := by decide +kernel
theorem d_R_token_143 : decode prog_7_method_84_code 143 = .ok (.invokestatic 70, 3) := by decide +kernel
theorem d_R_token_146 : decode prog_7_method_84_code 146 = .ok (.ifCond .eq 60, 3) := by decide +kernel
theorem d_R_token_149 : decode prog_7_method_84_code 149 = .ok (.aload_n 0, 1) := by decide +kernel
theorem d_R_token_150 : decode prog_7_method_84_code 150 = .ok (.sipush 1000, 3) := by decide +kernel
theorem d_R_token_153 : decode prog_7_method_84_code 153 = .ok (.bipush 10, 2) := by decide +kernel
theorem d_R_token_155 : decode prog_7_method_84_code 155 = .ok (.aload_n 0, 1) := by decide +kernel
theorem d_R_token_156 : decode prog_7_method_84_code 156 = .ok (.getfield 264, 3) := by decide +kernel
theorem d_R_token_159 : decode prog_7_method_84_code 159 = .ok (.imul, 1) := by decide +kernel
theorem d_R_token_160 : decode prog_7_method_84_code 160 = .ok (.aload_n 0, 1) := by decide +kernel
theorem d_R_token_161 : decode prog_7_method_84_code 161 = .ok (.aload_n 0, 1) := by decide +kernel
theorem d_R_token_162 : decode prog_7_method_84_code 162 = .ok (.getfield 255, 3) := by decide +kernel
theorem d_R_token_165 : decode prog_7_method_84_code 165 = .ok (.invokevirtual 261, 3) := by decide +kernel
theorem d_R_token_168 : decode prog_7_method_84_code 168 = .ok (.iadd, 1) := by decide +kernel
theorem d_R_token_169 : decode prog_7_method_84_code 169 = .ok (.bipush 48, 2) := by decide +kernel
theorem d_R_token_171 : decode prog_7_method_84_code 171 = .ok (.isub, 1) := by decide +kernel
theorem d_R_token_172 : decode prog_7_method_84_code 172 = .ok (.invokestatic 152, 3) := by decide +kernel
theorem d_R_token_175 : decode prog_7_method_84_code 175 = .ok (.putfield 264, 3) := by decide +kernel
theorem d_R_token_178 : decode prog_7_method_84_code 178 = .ok (.aload_n 0, 1) := by decide +kernel
theorem d_R_token_179 : decode prog_7_method_84_code 179 = .ok (.dup, 1) := by decide +kernel
theorem d_R_token_180 : decode prog_7_method_84_code 180 = .ok (.getfield 255, 3) := by decide +kernel
theorem d_R_token_183 : decode prog_7_method_84_code 183 = .ok (.iconst 1, 1) := by decide +kernel
theorem d_R_token_184 : decode prog_7_method_84_code 184 = .ok (.iadd, 1) := by decide +kernel
theorem d_R_token_185 : decode prog_7_method_84_code 185 = .ok (.putfield 255, 3) := by decide +kernel
theorem d_R_token_188 : decode prog_7_method_84_code 188 = .ok (.goto (-57), 3) := by decide +kernel
theorem d_R_token_191 : decode prog_7_method_84_code 191 = .ok (.aload_n 0, 1) := by decide +kernel
theorem d_R_token_192 : decode prog_7_method_84_code 192 = .ok (.iconst 3, 1) := by decide +kernel
theorem d_R_token_193 : decode prog_7_method_84_code 193 = .ok (.putfield 267, 3) := by decide +kernel
theorem d_R_token_196 : decode prog_7_method_84_code 196 = .ok (.aload_n 0, 1) := by decide +kernel
theorem d_R_token_197 : decode prog_7_method_84_code 197 = .ok (.dup, 1) := by decide +kernel
theorem d_R_token_198 : decode prog_7_method_84_code 198 = .ok (.getfield 255, 3) := by decide +kernel
theorem d_R_token_201 : decode prog_7_method_84_code 201 = .ok (.iconst 1, 1) := by decide +kernel
theorem d_R_token_202 : decode prog_7_method_84_code 202 = .ok (.iadd, 1) := by decide +kernel
theorem d_R_token_203 : decode prog_7_method_84_code 203 = .ok (.putfield 255, 3) := by decide +kernel
theorem d_R_token_206 : decode prog_7_method_84_code 206 = .ok (.return_, 1) := by decide +kernel
theorem d_R_must_0 : decode prog_7_method_86_code 0 = .ok (.aload_n 0, 1) := by decide +kernel
theorem d_R_must_1 : decode prog_7_method_86_code 1 = .ok (.aload_n 0, 1) := by decide +kernel
theorem d_R_must_2 : decode prog_7_method_86_code 2 = .ok (.getfield 277, 3) := by decide +kernel
theorem d_R_must_5 : decode prog_7_method_86_code 5 = .ok (.ifCond .ne 7, 3) := by decide +kernel
theorem d_R_must_12 : decode prog_7_method_86_code 12 = .ok (.iconst 1, 1) := by decide +kernel
theorem d_R_must_13 : decode prog_7_method_86_code 13 = .ok (.goto 4, 3) := by decide +kernel
theorem d_R_must_17 : decode prog_7_method_86_code 17 = .ok (.putfield 277, 3) := by decide +kernel
theorem d_R_must_20 : decode prog_7_method_86_code 20 = .ok (.aload_n 0, 1) := by decide +kernel
theorem d_R_must_21 : decode prog_7_method_86_code 21 = .ok (.getfield 277, 3) := by decide +kernel
theorem d_R_must_24 : decode prog_7_method_86_code 24 = .ok (.ifCond .ne 7, 3) := by decide +kernel
theorem d_R_must_31 : decode prog_7_method_86_code 31 = .ok (.return_, 1) := by decide +kernel
theorem d_R_must_8 : decode prog_7_method_86_code 8 = .ok (.iload_n 1, 1) := by decide +kernel
theorem d_R_must_9 : decode prog_7_method_86_code 9 = .ok (.ifCond .ne 7, 3) := by decide +kernel
theorem d_R_must_16 : decode prog_7_method_86_code 16 = .ok (.iconst 0, 1) := by decide +kernel
theorem d_R_must_27 : decode prog_7_method_86_code 27 = .ok (.aload_n 0, 1) := by decide +kernel
theorem d_R_must_28 : decode prog_7_method_86_code 28 = .ok (.invokevirtual 281, 3) := by decide +kernel
theorem d_R_number_0 : decode prog_7_method_87_code 0 = .ok (.aload_n 0, 1) := by decide +kernel
theorem d_R_number_1 : decode prog_7_method_87_code 1 = .ok (.getfield 264, 3) := by decide +kernel
theorem d_R_number_4 : decode prog_7_method_87_code 4 = .ok (.istore_n 3, 1) := by decide +kernel
theorem d_R_number_5 : decode prog_7_method_87_code 5 = .ok (.aload_n 0, 1) := by decide +kernel
theorem d_R_number_6 : decode prog_7_method_87_code 6 = .ok (.aload_n 0, 1) := by decide +kernel
theorem d_R_number_7 : decode prog_7_method_87_code 7 = .ok (.getfield 267, 3) := by decide +kernel
theorem d_R_number_10 : decode prog_7_method_87_code 10 = .ok (.iconst 2, 1) := by decide +kernel
theorem d_R_number_11 : decode prog_7_method_87_code 11 = .ok (.if_icmp .ne 16, 3) := by decide +kernel
theorem d_R_number_14 : decode prog_7_method_87_code 14 = .ok (.iload_n 3, 1) := by decide +kernel
theorem d_R_number_15 : decode prog_7_method_87_code 15 = .ok (.iload_n 1, 1) := by decide +kernel
theorem d_R_number_16 : decode prog_7_method_87_code 16 = .ok (.iload_n 2, 1) := by decide +kernel
theorem d_R_number_17 : decode prog_7_method_87_code 17 = .ok (.invokestatic 70, 3) := by decide +kernel
theorem d_R_number_20 : decode prog_7_method_87_code 20 = .ok (.ifCond .eq 7, 3) := by decide +kernel
theorem d_R_number_23 : decode prog_7_method_87_code 23 = .ok (.iconst 1, 1) := by decide +kernel
theorem d_R_number_24 : decode prog_7_method_87_code 24 = .ok (.goto 4, 3) := by decide +kernel
theorem d_R_number_27 : decode prog_7_method_87_code 27 = .ok (.iconst 0, 1) := by decide +kernel
theorem d_R_number_28 : decode prog_7_method_87_code 28 = .ok (.invokevirtual 284, 3) := by decide +kernel
theorem d_R_number_31 : decode prog_7_method_87_code 31 = .ok (.iload_n 3, 1) := by decide +kernel
theorem d_R_number_32 : decode prog_7_method_87_code 32 = .ok (.ireturn, 1) := by decide +kernel
theorem d_R_isWord_0 : decode prog_7_method_85_code 0 = .ok (.aload_n 0, 1) := by decide +kernel
theorem d_R_isWord_1 : decode prog_7_method_85_code 1 = .ok (.getfield 267, 3) := by decide +kernel
theorem d_R_isWord_4 : decode prog_7_method_85_code 4 = .ok (.iconst 1, 1) := by decide +kernel
theorem d_R_isWord_5 : decode prog_7_method_85_code 5 = .ok (.if_icmp .ne 23, 3) := by decide +kernel
theorem d_R_isWord_8 : decode prog_7_method_85_code 8 = .ok (.aload_n 0, 1) := by decide +kernel
theorem d_R_isWord_9 : decode prog_7_method_85_code 9 = .ok (.getfield 255, 3) := by decide +kernel
theorem d_R_isWord_12 : decode prog_7_method_85_code 12 = .ok (.aload_n 0, 1) := by decide +kernel
theorem d_R_isWord_13 : decode prog_7_method_85_code 13 = .ok (.getfield 258, 3) := by decide +kernel
theorem d_R_isWord_16 : decode prog_7_method_85_code 16 = .ok (.isub, 1) := by decide +kernel
theorem d_R_isWord_17 : decode prog_7_method_85_code 17 = .ok (.aload_n 1, 1) := by decide +kernel
theorem d_R_isWord_18 : decode prog_7_method_85_code 18 = .ok (.invokevirtual 270, 3) := by decide +kernel
theorem d_R_isWord_21 : decode prog_7_method_85_code 21 = .ok (.if_icmp .ne 7, 3) := by decide +kernel
theorem d_R_isWord_24 : decode prog_7_method_85_code 24 = .ok (.iconst 1, 1) := by decide +kernel
theorem d_R_isWord_25 : decode prog_7_method_85_code 25 = .ok (.goto 4, 3) := by decide +kernel
theorem d_R_isWord_28 : decode prog_7_method_85_code 28 = .ok (.iconst 0, 1) := by decide +kernel
theorem d_R_isWord_29 : decode prog_7_method_85_code 29 = .ok (.istore_n 2, 1) := by decide +kernel
theorem d_R_isWord_30 : decode prog_7_method_85_code 30 = .ok (.iconst 0, 1) := by decide +kernel
theorem d_R_isWord_31 : decode prog_7_method_85_code 31 = .ok (.istore_n 3, 1) := by decide +kernel
theorem d_R_isWord_32 : decode prog_7_method_85_code 32 = .ok (.iload_n 3, 1) := by decide +kernel
theorem d_R_isWord_33 : decode prog_7_method_85_code 33 = .ok (.aload_n 1, 1) := by decide +kernel
theorem d_R_isWord_34 : decode prog_7_method_85_code 34 = .ok (.invokevirtual 270, 3) := by decide +kernel
theorem d_R_isWord_37 : decode prog_7_method_85_code 37 = .ok (.if_icmp .ge 38, 3) := by decide +kernel
theorem d_R_isWord_40 : decode prog_7_method_85_code 40 = .ok (.iload_n 2, 1) := by decide +kernel
theorem d_R_isWord_41 : decode prog_7_method_85_code 41 = .ok (.ifCond .eq 34, 3) := by decide +kernel
theorem d_R_isWord_44 : decode prog_7_method_85_code 44 = .ok (.aload_n 0, 1) := by decide +kernel
theorem d_R_isWord_45 : decode prog_7_method_85_code 45 = .ok (.getfield 22, 3) := by decide +kernel
theorem d_R_isWord_48 : decode prog_7_method_85_code 48 = .ok (.aload_n 0, 1) := by decide +kernel
theorem d_R_isWord_49 : decode prog_7_method_85_code 49 = .ok (.getfield 258, 3) := by decide +kernel
theorem d_R_isWord_52 : decode prog_7_method_85_code 52 = .ok (.iload_n 3, 1) := by decide +kernel
theorem d_R_isWord_53 : decode prog_7_method_85_code 53 = .ok (.iadd, 1) := by decide +kernel
theorem d_R_isWord_54 : decode prog_7_method_85_code 54 = .ok (.iaload, 1) := by decide +kernel
theorem d_R_isWord_55 : decode prog_7_method_85_code 55 = .ok (.aload_n 1, 1) := by decide +kernel
theorem d_R_isWord_56 : decode prog_7_method_85_code 56 = .ok (.iload_n 3, 1) := by decide +kernel
theorem d_R_isWord_57 : decode prog_7_method_85_code 57 = .ok (.invokevirtual 273, 3) := by decide +kernel
theorem d_R_isWord_60 : decode prog_7_method_85_code 60 = .ok (.if_icmp .ne 7, 3) := by decide +kernel
theorem d_R_isWord_63 : decode prog_7_method_85_code 63 = .ok (.iconst 1, 1) := by decide +kernel
theorem d_R_isWord_64 : decode prog_7_method_85_code 64 = .ok (.goto 4, 3) := by decide +kernel
theorem d_R_isWord_67 : decode prog_7_method_85_code 67 = .ok (.iconst 0, 1) := by decide +kernel
theorem d_R_isWord_68 : decode prog_7_method_85_code 68 = .ok (.istore_n 2, 1) := by decide +kernel
theorem d_R_isWord_69 : decode prog_7_method_85_code 69 = .ok (.iinc 3 1, 3) := by decide +kernel
theorem d_R_isWord_72 : decode prog_7_method_85_code 72 = .ok (.goto (-40), 3) := by decide +kernel
theorem d_R_isWord_75 : decode prog_7_method_85_code 75 = .ok (.iload_n 2, 1) := by decide +kernel
theorem d_R_isWord_76 : decode prog_7_method_85_code 76 = .ok (.ireturn, 1) := by decide +kernel
theorem d_R_takesWord_0 : decode prog_7_method_89_code 0 = .ok (.aload_n 0, 1) := by decide +kernel
theorem d_R_takesWord_1 : decode prog_7_method_89_code 1 = .ok (.getfield 277, 3) := by decide +kernel
theorem d_R_takesWord_4 : decode prog_7_method_89_code 4 = .ok (.ifCond .ne 15, 3) := by decide +kernel
theorem d_R_takesWord_19 : decode prog_7_method_89_code 19 = .ok (.iconst 0, 1) := by decide +kernel
theorem d_R_takesWord_20 : decode prog_7_method_89_code 20 = .ok (.istore_n 2, 1) := by decide +kernel
theorem d_R_takesWord_21 : decode prog_7_method_89_code 21 = .ok (.iload_n 2, 1) := by decide +kernel
theorem d_R_takesWord_22 : decode prog_7_method_89_code 22 = .ok (.ifCond .eq 8, 3) := by decide +kernel
theorem d_R_takesWord_30 : decode prog_7_method_89_code 30 = .ok (.iload_n 2, 1) := by decide +kernel
theorem d_R_takesWord_31 : decode prog_7_method_89_code 31 = .ok (.ireturn, 1) := by decide +kernel
theorem d_R_takesWord_7 : decode prog_7_method_89_code 7 = .ok (.aload_n 0, 1) := by decide +kernel
theorem d_R_takesWord_8 : decode prog_7_method_89_code 8 = .ok (.aload_n 1, 1) := by decide +kernel
theorem d_R_takesWord_9 : decode prog_7_method_89_code 9 = .ok (.invokevirtual 291, 3) := by decide +kernel
theorem d_R_takesWord_12 : decode prog_7_method_89_code 12 = .ok (.ifCond .eq 7, 3) := by decide +kernel
theorem d_R_takesWord_15 : decode prog_7_method_89_code 15 = .ok (.iconst 1, 1) := by decide +kernel
theorem d_R_takesWord_16 : decode prog_7_method_89_code 16 = .ok (.goto 4, 3) := by decide +kernel
theorem d_R_takesWord_25 : decode prog_7_method_89_code 25 = .ok (.aload_n 0, 1) := by decide +kernel
theorem d_R_takesWord_26 : decode prog_7_method_89_code 26 = .ok (.iconst 1, 1) := by decide +kernel
theorem d_R_takesWord_27 : decode prog_7_method_89_code 27 = .ok (.invokevirtual 284, 3) := by decide +kernel
set_option maxHeartbeats 1000000 in
set_option maxRecDepth 20000 in
theorem c_R_byteAt_t (l : Launch) (E : QE) (S : QM) (υ ξ : Nat → Int32) (hυ : S 15 = υ) (hξ : S 20 = ξ) (len : Nat) (kυ_6 : υ 6 = nI len) (hlen : len ≤ 120) (i : Nat) (hi : i < len) : qCI E l y_R_byteAt prog_7_method_83_code 2 .int 1 [.ref (eA E 70), .int (nI i)] S (ξ i) S := by
  refine qCI_of (by decide) (Nat.le_of_ble_eq_true rfl) (fun p e s m below meth c ls X hW hl => ?_)
  have hl : lv_has ls 2 [(0, .ref (eA E 70)), (1, .int (nI i))] := hl
  refine lv_iload_n X.x X.b d_R_byteAt_0 rfl (lv_at hl 1 rfl) ?_
  refine lv_aload_n X.x X.b d_R_byteAt_1 rfl (lv_at hl 0 rfl) ?_
  refine g_geti X hW qj4 rfl _ ds_R 6 (by decide) mw_692 rfl (r0 := 15) (p0 := 6) rfl (v := υ 6) (by rw [hυ]) d_R_byteAt_2 ?_
  rw [kυ_6]
  refine lv_icmp_ge (tgt := 17) X.x X.b d_R_byteAt_5 (by decide) (fun c5 => ?_) (fun c5 => ?_)
  · have c5 : len ≤ i := (nI_leI (a := len) (b := i) (by omega) (by omega)).mp c5
    omega
  · have c5 : ¬ len ≤ i := fun z => c5 ((nI_leI (a := len) (b := i) (by omega) (by omega)).mpr z)
    refine lv_aload_n X.x X.b d_R_byteAt_8 rfl (lv_at hl 0 rfl) ?_
    refine q_getr X hW qj4 rfl _ ds_R 5 (by decide) mw_691 rfl (c1 := 75) rfl d_R_byteAt_9 ?_
    refine lv_iload_n X.x X.b d_R_byteAt_12 rfl (lv_at hl 1 rfl) ?_
    refine g_ald X hW ds_75 (q_in (by omega) (by decide)) (p0 := i) (q_tn (by omega) (by omega)) (v := ξ i) (by rw [hξ]) d_R_byteAt_13 ?_
    refine lv_goto (tgt := 18) X.x X.b d_R_byteAt_14 (by decide) ?_
    exact q_zret X rfl hW ⟨rfl, rfl⟩ d_R_byteAt_18
set_option maxHeartbeats 1000000 in
set_option maxRecDepth 20000 in
theorem c_R_byteAt_f (l : Launch) (E : QE) (S : QM) (υ ξ : Nat → Int32) (hυ : S 15 = υ) (hξ : S 20 = ξ) (len : Nat) (kυ_6 : υ 6 = nI len) (hlen : len ≤ 120) (i : Nat) (hi : ¬ i < len) (hi2 : i ≤ 120) : qCI E l y_R_byteAt prog_7_method_83_code 2 .int 1 [.ref (eA E 70), .int (nI i)] S (-1) S := by
  refine qCI_of (by decide) (Nat.le_of_ble_eq_true rfl) (fun p e s m below meth c ls X hW hl => ?_)
  have hl : lv_has ls 2 [(0, .ref (eA E 70)), (1, .int (nI i))] := hl
  refine lv_iload_n X.x X.b d_R_byteAt_0 rfl (lv_at hl 1 rfl) ?_
  refine lv_aload_n X.x X.b d_R_byteAt_1 rfl (lv_at hl 0 rfl) ?_
  refine g_geti X hW qj4 rfl _ ds_R 6 (by decide) mw_692 rfl (r0 := 15) (p0 := 6) rfl (v := υ 6) (by rw [hυ]) d_R_byteAt_2 ?_
  rw [kυ_6]
  refine lv_icmp_ge (tgt := 17) X.x X.b d_R_byteAt_5 (by decide) (fun c5 => ?_) (fun c5 => ?_)
  · have c5 : len ≤ i := (nI_leI (a := len) (b := i) (by omega) (by omega)).mp c5
    refine lv_iconst (v := (-1)) X.x X.b d_R_byteAt_17 (by decide) ?_
    exact q_zret X rfl hW ⟨rfl, rfl⟩ d_R_byteAt_18
  · have c5 : ¬ len ≤ i := fun z => c5 ((nI_leI (a := len) (b := i) (by omega) (by omega)).mpr z)
    omega
set_option maxHeartbeats 1000000 in
set_option maxRecDepth 20000 in
theorem c_R_token (l : Launch) (E : QE) (S : QM) (υ ξ : Nat → Int32) (hυ : S 15 = υ) (hξ : S 20 = ξ) (len n : Nat) (kp w0 : Int32) (mi ta wa : Nat) (kυ_3 : υ 3 = kp) (kυ_6 : υ 6 = nI len) (kυ_8 : υ 8 = nI n) (kυ_11 : υ 11 = w0) (kυ_14 : υ 14 = nI mi) (kυ_15 : υ 15 = nI ta) (kυ_16 : υ 16 = nI wa) (hn : n ≤ len) (hlen : len ≤ 120) (h0 : ∀ i, i < len → 0 ≤ ξ i) : qCPv E l y_R_token prog_7_method_84_code 2 2 [.ref (eA E 70)] S (stP S ξ len n kp w0 mi ta wa) := by
  refine qCPv_of (by decide) (Nat.le_of_ble_eq_true rfl) (fun p e s m below meth c ls X hW hl => ?_)
  have hl : lv_has ls 2 [(0, .ref (eA E 70))] := hl
  refine lv_aload_n X.x X.b d_R_token_0 rfl (lv_at hl 0 rfl) ?_
  refine lv_aload_n X.x X.b d_R_token_1 rfl (lv_at hl 0 rfl) ?_
  refine g_geti X hW qj4 rfl _ ds_R 8 (by decide) mw_694 rfl (r0 := 15) (p0 := 8) rfl (v := υ 8) (by rw [hυ]) d_R_token_2 ?_
  rw [kυ_8]
  refine g_puti X hW qj4 qp4 qn4 rfl _ ds_R 7 (by decide) mw_693 rfl rfl (r0 := 15) (p0 := 7) rfl rfl rfl (ρ := υ) (by rw [hυ]) d_R_token_5 (fun H locs hW => ?_)
  obtain ⟨r5, er5⟩ : ∃ z, z = upd υ 7 (nI n) := ⟨_, rfl⟩
  rw [← er5] at hW
  have kr5_11 : r5 11 = w0 := by rw [er5, upN (by omega)]; exact kυ_11
  have kr5_14 : r5 14 = nI mi := by rw [er5, upN (by omega)]; exact kυ_14
  have kr5_15 : r5 15 = nI ta := by rw [er5, upN (by omega)]; exact kυ_15
  have kr5_16 : r5 16 = nI wa := by rw [er5, upN (by omega)]; exact kυ_16
  have kr5_3 : r5 3 = kp := by rw [er5, upN (by omega)]; exact kυ_3
  have kr5_6 : r5 6 = nI len := by rw [er5, upN (by omega)]; exact kυ_6
  have kr5_8 : r5 8 = nI n := by rw [er5, upN (by omega)]; exact kυ_8
  have kr5_7 : r5 7 = nI n := by rw [er5, upd_at]
  have loop8 : ∀ (fu8 : Nat) (i : Nat) (μ : Nat → Int32), i ≤ len → n ≤ i → lst (fun i => ¬ ξ i = nI 32) (len - i) i = tS ξ len n → μ 3 = kp → μ 6 = nI len → μ 11 = w0 → μ 14 = nI mi → μ 15 = nI ta → μ 16 = nI wa → μ 7 = nI i → len - i < fu8 → ∀ (H : Heap) (locs : List Loc) (ls : Array Slot), qWH E (qr S 15 μ) s H locs → lv_has ls 2 [(0, .ref (eA E 70))] → W p l e (qRm 2) s m ([.ref (eA E 70)] : List Value).toArray below meth c H locs 0 0 (MQ below (qQpv E (stP S ξ len n kp w0 mi ta wa) s.heap.size) ([.ref (eA E 70)] : List Value).toArray s 0 0 (qAA E s.heap.size)) (F0 m 8 ls []) := by
    intro fu8
    induction fu8 with
    | zero =>
      intro i μ hi hni hL kμ_3 kμ_6 kμ_11 kμ_14 kμ_15 kμ_16 kμ_7 hfu
      exact absurd hfu (Nat.not_lt_zero _)
    | succ fu8 ih8 =>
      intro i μ hi hni hL kμ_3 kμ_6 kμ_11 kμ_14 kμ_15 kμ_16 kμ_7 hfu H locs ls hW hl
      refine lv_aload_n X.x X.b d_R_token_8 rfl (lv_at hl 0 rfl) ?_
      refine lv_aload_n X.x X.b d_R_token_9 rfl (lv_at hl 0 rfl) ?_
      refine g_geti X hW qj4 rfl _ ds_R 7 (by decide) mw_693 rfl (r0 := 15) (p0 := 7) rfl (v := μ 7) (by rw [qr_at]) d_R_token_10 ?_
      rw [kμ_7]
      by_cases hs13 : i < len
      · refine q_cvi X (c_R_byteAt_t l E (qr S 15 μ) μ ξ (by rw [qr_at]) (by rw [qr_ne (by omega), hξ]) len kμ_6 hlen i (by omega)) hW (q_recv X hW ds_R rfl) ok_R_byteAt mw_1082 ⟨by decide, by decide⟩ (As := [.int (nI i)]) rfl rfl (Nat.le_of_ble_eq_true rfl) (lv := [(0, .ref (eA E 70))]) hl ⟨Nat.le_refl 0, Nat.le_refl 0⟩ d_R_token_13 (fun H locs hW => ?_)
        refine lv_bipush (v := nI 32) X.x X.b d_R_token_16 (by decide) ?_
        refine lv_icmp_ne (tgt := 34) X.x X.b d_R_token_18 (by decide) (fun c18 => ?_) (fun c18 => ?_)
        · have eS : i = tS ξ len n := by rw [← hL]; exact (lst_f (fun z => c18)).symm
          refine lv_aload_n X.x X.b d_R_token_34 rfl (lv_at hl 0 rfl) ?_
          refine lv_aload_n X.x X.b d_R_token_35 rfl (lv_at hl 0 rfl) ?_
          refine g_geti X hW qj4 rfl _ ds_R 7 (by decide) mw_693 rfl (r0 := 15) (p0 := 7) rfl (v := μ 7) (by rw [qr_at]) d_R_token_36 ?_
          rw [kμ_7]
          refine q_cvi X (c_R_byteAt_t l E (qr S 15 μ) μ ξ (by rw [qr_at]) (by rw [qr_ne (by omega), hξ]) len kμ_6 hlen i (by omega)) hW (q_recv X hW ds_R rfl) ok_R_byteAt mw_1082 ⟨by decide, by decide⟩ (As := [.int (nI i)]) rfl rfl (Nat.le_of_ble_eq_true rfl) (lv := [(0, .ref (eA E 70))]) hl ⟨Nat.le_refl 0, Nat.le_refl 0⟩ d_R_token_39 (fun H locs hW => ?_)
          refine lv_istore_n (lv' := [(1, .int (ξ i)), (0, .ref (eA E 70))]) X.x X.b d_R_token_42 rfl hl (by decide) rfl (fun ls hl => ?_)
          refine lv_aload_n X.x X.b d_R_token_43 rfl (lv_at hl 1 rfl) ?_
          refine lv_aload_n X.x X.b d_R_token_44 rfl (lv_at hl 1 rfl) ?_
          refine g_geti X hW qj4 rfl _ ds_R 7 (by decide) mw_693 rfl (r0 := 15) (p0 := 7) rfl (v := μ 7) (by rw [qr_at]) d_R_token_45 ?_
          rw [kμ_7]
          refine g_puti X hW qj4 qp4 qn4 rfl _ ds_R 8 (by decide) mw_694 rfl rfl (r0 := 15) (p0 := 8) rfl rfl rfl (ρ := μ) (by rw [qr_at]) d_R_token_48 (fun H locs hW => ?_)
          obtain ⟨r48, er48⟩ : ∃ z, z = upd μ 8 (nI i) := ⟨_, rfl⟩
          rw [← er48] at hW
          have kr48_11 : r48 11 = w0 := by rw [er48, upN (by omega)]; exact kμ_11
          have kr48_14 : r48 14 = nI mi := by rw [er48, upN (by omega)]; exact kμ_14
          have kr48_15 : r48 15 = nI ta := by rw [er48, upN (by omega)]; exact kμ_15
          have kr48_16 : r48 16 = nI wa := by rw [er48, upN (by omega)]; exact kμ_16
          have kr48_3 : r48 3 = kp := by rw [er48, upN (by omega)]; exact kμ_3
          have kr48_6 : r48 6 = nI len := by rw [er48, upN (by omega)]; exact kμ_6
          have kr48_7 : r48 7 = nI i := by rw [er48, upN (by omega)]; exact kμ_7
          have kr48_8 : r48 8 = nI i := by rw [er48, upd_at]
          rw [qr_qr] at hW
          refine lv_aload_n X.x X.b d_R_token_51 rfl (lv_at hl 1 rfl) ?_
          refine lv_iconst (v := nI 0) X.x X.b d_R_token_52 (by decide) ?_
          refine g_puti X hW qj4 qp4 qn4 rfl _ ds_R 10 (by decide) mw_696 rfl rfl (r0 := 15) (p0 := 10) rfl rfl rfl (ρ := r48) (by rw [qr_at]) d_R_token_53 (fun H locs hW => ?_)
          obtain ⟨r53, er53⟩ : ∃ z, z = upd r48 10 (nI 0) := ⟨_, rfl⟩
          rw [← er53] at hW
          have kr53_11 : r53 11 = w0 := by rw [er53, upN (by omega)]; exact kr48_11
          have kr53_14 : r53 14 = nI mi := by rw [er53, upN (by omega)]; exact kr48_14
          have kr53_15 : r53 15 = nI ta := by rw [er53, upN (by omega)]; exact kr48_15
          have kr53_16 : r53 16 = nI wa := by rw [er53, upN (by omega)]; exact kr48_16
          have kr53_3 : r53 3 = kp := by rw [er53, upN (by omega)]; exact kr48_3
          have kr53_6 : r53 6 = nI len := by rw [er53, upN (by omega)]; exact kr48_6
          have kr53_7 : r53 7 = nI i := by rw [er53, upN (by omega)]; exact kr48_7
          have kr53_8 : r53 8 = nI i := by rw [er53, upN (by omega)]; exact kr48_8
          have kr53_10 : r53 10 = nI 0 := by rw [er53, upd_at]
          rw [qr_qr] at hW
          refine lv_iload_n X.x X.b d_R_token_56 rfl (lv_at hl 0 rfl) ?_
          refine lv_if_ge (tgt := 68) X.x X.b d_R_token_57 (by decide) (fun c57 => ?_) (fun c57 => ?_)
          · refine lv_iload_n X.x X.b d_R_token_68 rfl (lv_at hl 0 rfl) ?_
            refine lv_bipush (v := nI 97) X.x X.b d_R_token_69 (by decide) ?_
            refine lv_bipush (v := nI 122) X.x X.b d_R_token_71 (by decide) ?_
            refine q_csi X (c_R_within l E (qr S 15 r53) (ξ i) (nI 97) (nI 122)) hW ok_R_within mw_757 ⟨by decide, by decide⟩ (As := [.int (ξ i), .int (nI 97), .int (nI 122)]) rfl rfl (Nat.le_of_ble_eq_true rfl) (lv := [(1, .int (ξ i)), (0, .ref (eA E 70))]) hl ⟨Nat.le_refl 0, Nat.le_refl 0⟩ d_R_token_73 (fun H locs hW => ?_)
            refine lv_if_eq (tgt := 115) X.x X.b d_R_token_76 (by decide) (fun c76 => ?_) (fun c76 => ?_)
            · have c76 := b2i_e c76
              refine lv_iload_n X.x X.b d_R_token_115 rfl (lv_at hl 0 rfl) ?_
              refine lv_bipush (v := nI 48) X.x X.b d_R_token_116 (by decide) ?_
              refine lv_bipush (v := nI 57) X.x X.b d_R_token_118 (by decide) ?_
              refine q_csi X (c_R_within l E (qr S 15 r53) (ξ i) (nI 48) (nI 57)) hW ok_R_within mw_757 ⟨by decide, by decide⟩ (As := [.int (ξ i), .int (nI 48), .int (nI 57)]) rfl rfl (Nat.le_of_ble_eq_true rfl) (lv := [(1, .int (ξ i)), (0, .ref (eA E 70))]) hl ⟨Nat.le_refl 0, Nat.le_refl 0⟩ d_R_token_120 (fun H locs hW => ?_)
              refine lv_if_eq (tgt := 191) X.x X.b d_R_token_123 (by decide) (fun c123 => ?_) (fun c123 => ?_)
              · have c123 := b2i_e c123
                refine lv_aload_n X.x X.b d_R_token_191 rfl (lv_at hl 1 rfl) ?_
                refine lv_iconst (v := nI 3) X.x X.b d_R_token_192 (by decide) ?_
                refine g_puti X hW qj4 qp4 qn4 rfl _ ds_R 9 (by decide) mw_695 rfl rfl (r0 := 15) (p0 := 9) rfl rfl rfl (ρ := r53) (by rw [qr_at]) d_R_token_193 (fun H locs hW => ?_)
                obtain ⟨r193, er193⟩ : ∃ z, z = upd r53 9 (nI 3) := ⟨_, rfl⟩
                rw [← er193] at hW
                have kr193_10 : r193 10 = nI 0 := by rw [er193, upN (by omega)]; exact kr53_10
                have kr193_11 : r193 11 = w0 := by rw [er193, upN (by omega)]; exact kr53_11
                have kr193_14 : r193 14 = nI mi := by rw [er193, upN (by omega)]; exact kr53_14
                have kr193_15 : r193 15 = nI ta := by rw [er193, upN (by omega)]; exact kr53_15
                have kr193_16 : r193 16 = nI wa := by rw [er193, upN (by omega)]; exact kr53_16
                have kr193_3 : r193 3 = kp := by rw [er193, upN (by omega)]; exact kr53_3
                have kr193_6 : r193 6 = nI len := by rw [er193, upN (by omega)]; exact kr53_6
                have kr193_7 : r193 7 = nI i := by rw [er193, upN (by omega)]; exact kr53_7
                have kr193_8 : r193 8 = nI i := by rw [er193, upN (by omega)]; exact kr53_8
                have kr193_9 : r193 9 = nI 3 := by rw [er193, upd_at]
                rw [qr_qr] at hW
                refine lv_aload_n X.x X.b d_R_token_196 rfl (lv_at hl 1 rfl) ?_
                refine lv_dup X.x X.b d_R_token_197 rfl ?_
                refine g_geti X hW qj4 rfl _ ds_R 8 (by decide) mw_694 rfl (r0 := 15) (p0 := 8) rfl (v := r193 8) (by rw [qr_at]) d_R_token_198 ?_
                rw [kr193_8]
                refine lv_iconst (v := nI 1) X.x X.b d_R_token_201 (by decide) ?_
                refine lv_iadd X.x X.b d_R_token_202 ?_
                rw [nI_add]
                refine g_puti X hW qj4 qp4 qn4 rfl _ ds_R 8 (by decide) mw_694 rfl rfl (r0 := 15) (p0 := 8) rfl rfl rfl (ρ := r193) (by rw [qr_at]) d_R_token_203 (fun H locs hW => ?_)
                obtain ⟨r203, er203⟩ : ∃ z, z = upd r193 8 (nI (i + 1)) := ⟨_, rfl⟩
                rw [← er203] at hW
                have kr203_10 : r203 10 = nI 0 := by rw [er203, upN (by omega)]; exact kr193_10
                have kr203_11 : r203 11 = w0 := by rw [er203, upN (by omega)]; exact kr193_11
                have kr203_14 : r203 14 = nI mi := by rw [er203, upN (by omega)]; exact kr193_14
                have kr203_15 : r203 15 = nI ta := by rw [er203, upN (by omega)]; exact kr193_15
                have kr203_16 : r203 16 = nI wa := by rw [er203, upN (by omega)]; exact kr193_16
                have kr203_3 : r203 3 = kp := by rw [er203, upN (by omega)]; exact kr193_3
                have kr203_6 : r203 6 = nI len := by rw [er203, upN (by omega)]; exact kr193_6
                have kr203_7 : r203 7 = nI i := by rw [er203, upN (by omega)]; exact kr193_7
                have kr203_8 : r203 8 = nI (i + 1) := by rw [er203, upd_at]
                have kr203_9 : r203 9 = nI 3 := by rw [er203, upN (by omega)]; exact kr193_9
                rw [qr_qr] at hW
                have eN : tN ξ len n = i + 1 := by unfold tN; rw [← eS, if_neg (fun z => z hs13), if_neg c76, if_neg c123]
                have eT : kR (tK ξ len n) = 3 := by unfold tK; rw [← eS, if_neg (fun z => z hs13), if_neg c76, if_neg c123]; split <;> rfl
                have eV : tV ξ len n = nI 0 := by unfold tV; rw [← eS, if_neg (fun z => z hs13), if_neg c76, if_neg c123]
                exact q_pvret X hW ⟨r203, ⟨kr203_3, kr203_6, by rw [kr203_7, eS], by rw [kr203_8, eN], by rw [kr203_9, eT], by rw [kr203_10, eV], kr203_11, kr203_14, kr203_15, kr203_16⟩, rfl⟩ d_R_token_206
              · have c123 := b2i_n c123
                refine lv_aload_n X.x X.b d_R_token_126 rfl (lv_at hl 1 rfl) ?_
                refine lv_iconst (v := nI 2) X.x X.b d_R_token_127 (by decide) ?_
                refine g_puti X hW qj4 qp4 qn4 rfl _ ds_R 9 (by decide) mw_695 rfl rfl (r0 := 15) (p0 := 9) rfl rfl rfl (ρ := r53) (by rw [qr_at]) d_R_token_128 (fun H locs hW => ?_)
                obtain ⟨r128, er128⟩ : ∃ z, z = upd r53 9 (nI 2) := ⟨_, rfl⟩
                rw [← er128] at hW
                have kr128_10 : r128 10 = nI 0 := by rw [er128, upN (by omega)]; exact kr53_10
                have kr128_11 : r128 11 = w0 := by rw [er128, upN (by omega)]; exact kr53_11
                have kr128_14 : r128 14 = nI mi := by rw [er128, upN (by omega)]; exact kr53_14
                have kr128_15 : r128 15 = nI ta := by rw [er128, upN (by omega)]; exact kr53_15
                have kr128_16 : r128 16 = nI wa := by rw [er128, upN (by omega)]; exact kr53_16
                have kr128_3 : r128 3 = kp := by rw [er128, upN (by omega)]; exact kr53_3
                have kr128_6 : r128 6 = nI len := by rw [er128, upN (by omega)]; exact kr53_6
                have kr128_7 : r128 7 = nI i := by rw [er128, upN (by omega)]; exact kr53_7
                have kr128_8 : r128 8 = nI i := by rw [er128, upN (by omega)]; exact kr53_8
                have kr128_9 : r128 9 = nI 2 := by rw [er128, upd_at]
                rw [qr_qr] at hW
                have loop131 : ∀ (fu131 : Nat) (j : Nat) (ν : Nat → Int32), i ≤ j → j ≤ len → lst (fun q => ¬ isDg (ξ q)) (len - j) j = eD ξ len i → ν 3 = kp → ν 6 = nI len → ν 11 = w0 → ν 14 = nI mi → ν 15 = nI ta → ν 16 = nI wa → ν 7 = nI i → ν 9 = nI 2 → ν 10 = nmS ξ i (j - i) → ν 8 = nI j → len - j < fu131 → ∀ (H : Heap) (locs : List Loc) (ls : Array Slot), qWH E (qr S 15 ν) s H locs → lv_has ls 2 [(1, .int (ξ i)), (0, .ref (eA E 70))] → W p l e (qRm 2) s m ([.ref (eA E 70)] : List Value).toArray below meth c H locs 0 0 (MQ below (qQpv E (stP S ξ len n kp w0 mi ta wa) s.heap.size) ([.ref (eA E 70)] : List Value).toArray s 0 0 (qAA E s.heap.size)) (F0 m 131 ls []) := by
                  intro fu131
                  induction fu131 with
                  | zero =>
                    intro j ν hij hj hB kν_3 kν_6 kν_11 kν_14 kν_15 kν_16 kν_7 kν_9 kν_10 kν_8 hfu
                    exact absurd hfu (Nat.not_lt_zero _)
                  | succ fu131 ih131 =>
                    intro j ν hij hj hB kν_3 kν_6 kν_11 kν_14 kν_15 kν_16 kν_7 kν_9 kν_10 kν_8 hfu H locs ls hW hl
                    refine lv_aload_n X.x X.b d_R_token_131 rfl (lv_at hl 1 rfl) ?_
                    refine lv_aload_n X.x X.b d_R_token_132 rfl (lv_at hl 1 rfl) ?_
                    refine g_geti X hW qj4 rfl _ ds_R 8 (by decide) mw_694 rfl (r0 := 15) (p0 := 8) rfl (v := ν 8) (by rw [qr_at]) d_R_token_133 ?_
                    rw [kν_8]
                    by_cases hs136 : j < len
                    · refine q_cvi X (c_R_byteAt_t l E (qr S 15 ν) ν ξ (by rw [qr_at]) (by rw [qr_ne (by omega), hξ]) len kν_6 hlen j (by omega)) hW (q_recv X hW ds_R rfl) ok_R_byteAt mw_1082 ⟨by decide, by decide⟩ (As := [.int (nI j)]) rfl rfl (Nat.le_of_ble_eq_true rfl) (lv := [(1, .int (ξ i)), (0, .ref (eA E 70))]) hl ⟨Nat.le_refl 0, Nat.le_refl 0⟩ d_R_token_136 (fun H locs hW => ?_)
                      refine lv_bipush (v := nI 48) X.x X.b d_R_token_139 (by decide) ?_
                      refine lv_bipush (v := nI 57) X.x X.b d_R_token_141 (by decide) ?_
                      refine q_csi X (c_R_within l E (qr S 15 ν) (ξ j) (nI 48) (nI 57)) hW ok_R_within mw_757 ⟨by decide, by decide⟩ (As := [.int (ξ j), .int (nI 48), .int (nI 57)]) rfl rfl (Nat.le_of_ble_eq_true rfl) (lv := [(1, .int (ξ i)), (0, .ref (eA E 70))]) hl ⟨Nat.le_refl 0, Nat.le_refl 0⟩ d_R_token_143 (fun H locs hW => ?_)
                      refine lv_if_eq (tgt := 206) X.x X.b d_R_token_146 (by decide) (fun c146 => ?_) (fun c146 => ?_)
                      · have c146 := b2i_e c146
                        have eJ : eD ξ len i = j := by rw [← hB]; exact lst_f (fun z => c146)
                        have eN : tN ξ len n = j := by unfold tN; rw [← eS, if_neg (fun z => z hs13), if_neg c76, if_pos c123, eJ]
                        have eT : kR (tK ξ len n) = 2 := by unfold tK; rw [← eS, if_neg (fun z => z hs13), if_neg c76, if_pos c123]; rfl
                        have eV : tV ξ len n = nmS ξ i (j - i) := by unfold tV; rw [← eS, if_neg (fun z => z hs13), if_neg c76, if_pos c123, eJ]
                        exact q_pvret X hW ⟨ν, ⟨kν_3, kν_6, by rw [kν_7, eS], by rw [kν_8, eN], by rw [kν_9, eT], by rw [kν_10, eV], kν_11, kν_14, kν_15, kν_16⟩, rfl⟩ d_R_token_206
                      · have c146 := b2i_n c146
                        refine lv_aload_n X.x X.b d_R_token_149 rfl (lv_at hl 1 rfl) ?_
                        refine lv_sipush (v := nI 1000) X.x X.b d_R_token_150 (by decide) ?_
                        refine lv_bipush (v := nI 10) X.x X.b d_R_token_153 (by decide) ?_
                        refine lv_aload_n X.x X.b d_R_token_155 rfl (lv_at hl 1 rfl) ?_
                        refine g_geti X hW qj4 rfl _ ds_R 10 (by decide) mw_696 rfl (r0 := 15) (p0 := 10) rfl (v := ν 10) (by rw [qr_at]) d_R_token_156 ?_
                        rw [kν_10]
                        refine lv_imul X.x X.b d_R_token_159 ?_
                        refine lv_aload_n X.x X.b d_R_token_160 rfl (lv_at hl 1 rfl) ?_
                        refine lv_aload_n X.x X.b d_R_token_161 rfl (lv_at hl 1 rfl) ?_
                        refine g_geti X hW qj4 rfl _ ds_R 8 (by decide) mw_694 rfl (r0 := 15) (p0 := 8) rfl (v := ν 8) (by rw [qr_at]) d_R_token_162 ?_
                        rw [kν_8]
                        refine q_cvi X (c_R_byteAt_t l E (qr S 15 ν) ν ξ (by rw [qr_at]) (by rw [qr_ne (by omega), hξ]) len kν_6 hlen j (by omega)) hW (q_recv X hW ds_R rfl) ok_R_byteAt mw_1082 ⟨by decide, by decide⟩ (As := [.int (nI j)]) rfl rfl (Nat.le_of_ble_eq_true rfl) (lv := [(1, .int (ξ i)), (0, .ref (eA E 70))]) hl ⟨Nat.le_refl 0, Nat.le_refl 0⟩ d_R_token_165 (fun H locs hW => ?_)
                        refine lv_iadd X.x X.b d_R_token_168 ?_
                        refine lv_bipush (v := nI 48) X.x X.b d_R_token_169 (by decide) ?_
                        refine lv_isub X.x X.b d_R_token_171 ?_
                        refine va_mmin X.x X.b (X.ml.trans hl.1.symm) X.ow (X.ts _ mw_913) (X.ts _ (qTB_in (i := 324) (by decide +kernel) rfl)) (X.ts _ (qTB_in (i := 73) (by decide +kernel) rfl)) (X.ts _ (qTB_in (i := 325) (by decide +kernel) rfl)) (by decide) (Nat.le_of_ble_eq_true rfl) (Nat.le_refl 0) (Nat.le_refl 0) d_R_token_172 ?_
                        refine lv_topi (fun x172 ex172 => ?_)
                        refine g_puti X hW qj4 qp4 qn4 rfl _ ds_R 10 (by decide) mw_696 rfl rfl (r0 := 15) (p0 := 10) rfl rfl rfl (ρ := ν) (by rw [qr_at]) d_R_token_175 (fun H locs hW => ?_)
                        obtain ⟨r175, er175⟩ : ∃ z, z = upd ν 10 x172 := ⟨_, rfl⟩
                        rw [← er175] at hW
                        have kr175_10 : r175 10 = x172 := by rw [er175, upd_at]
                        have kr175_11 : r175 11 = w0 := by rw [er175, upN (by omega)]; exact kν_11
                        have kr175_14 : r175 14 = nI mi := by rw [er175, upN (by omega)]; exact kν_14
                        have kr175_15 : r175 15 = nI ta := by rw [er175, upN (by omega)]; exact kν_15
                        have kr175_16 : r175 16 = nI wa := by rw [er175, upN (by omega)]; exact kν_16
                        have kr175_3 : r175 3 = kp := by rw [er175, upN (by omega)]; exact kν_3
                        have kr175_6 : r175 6 = nI len := by rw [er175, upN (by omega)]; exact kν_6
                        have kr175_7 : r175 7 = nI i := by rw [er175, upN (by omega)]; exact kν_7
                        have kr175_8 : r175 8 = nI j := by rw [er175, upN (by omega)]; exact kν_8
                        have kr175_9 : r175 9 = nI 2 := by rw [er175, upN (by omega)]; exact kν_9
                        rw [qr_qr] at hW
                        refine lv_aload_n X.x X.b d_R_token_178 rfl (lv_at hl 1 rfl) ?_
                        refine lv_dup X.x X.b d_R_token_179 rfl ?_
                        refine g_geti X hW qj4 rfl _ ds_R 8 (by decide) mw_694 rfl (r0 := 15) (p0 := 8) rfl (v := r175 8) (by rw [qr_at]) d_R_token_180 ?_
                        rw [kr175_8]
                        refine lv_iconst (v := nI 1) X.x X.b d_R_token_183 (by decide) ?_
                        refine lv_iadd X.x X.b d_R_token_184 ?_
                        rw [nI_add]
                        refine g_puti X hW qj4 qp4 qn4 rfl _ ds_R 8 (by decide) mw_694 rfl rfl (r0 := 15) (p0 := 8) rfl rfl rfl (ρ := r175) (by rw [qr_at]) d_R_token_185 (fun H locs hW => ?_)
                        obtain ⟨r185, er185⟩ : ∃ z, z = upd r175 8 (nI (j + 1)) := ⟨_, rfl⟩
                        rw [← er185] at hW
                        have kr185_10 : r185 10 = x172 := by rw [er185, upN (by omega)]; exact kr175_10
                        have kr185_11 : r185 11 = w0 := by rw [er185, upN (by omega)]; exact kr175_11
                        have kr185_14 : r185 14 = nI mi := by rw [er185, upN (by omega)]; exact kr175_14
                        have kr185_15 : r185 15 = nI ta := by rw [er185, upN (by omega)]; exact kr175_15
                        have kr185_16 : r185 16 = nI wa := by rw [er185, upN (by omega)]; exact kr175_16
                        have kr185_3 : r185 3 = kp := by rw [er185, upN (by omega)]; exact kr175_3
                        have kr185_6 : r185 6 = nI len := by rw [er185, upN (by omega)]; exact kr175_6
                        have kr185_7 : r185 7 = nI i := by rw [er185, upN (by omega)]; exact kr175_7
                        have kr185_8 : r185 8 = nI (j + 1) := by rw [er185, upd_at]
                        have kr185_9 : r185 9 = nI 2 := by rw [er185, upN (by omega)]; exact kr175_9
                        rw [qr_qr] at hW
                        refine lv_goto (tgt := 131) X.x X.b d_R_token_188 (by decide) ?_
                        exact ih131 (j + 1) r185 (by omega) (by omega) (by rw [← hB]; exact (lst_t (by omega) (fun z => z c146)).symm) kr185_3 kr185_6 kr185_11 kr185_14 kr185_15 kr185_16 kr185_7 kr185_9 (by rw [kr185_10, ex172, show j + 1 - i = (j - i) + 1 by omega]; show imn (nI 1000) (nI 10 * nmS ξ i (j - i) + ξ j - nI 48) = imn (nI 10 * nmS ξ i (j - i) + ξ (i + (j - i)) - nI 48) (nI 1000); rw [show i + (j - i) = j by omega, imn_comm]) kr185_8 (by omega) _ _ _ hW (lv_sub hl [0, 1] rfl)
                    · refine q_cvi X (c_R_byteAt_f l E (qr S 15 ν) ν ξ (by rw [qr_at]) (by rw [qr_ne (by omega), hξ]) len kν_6 hlen j (by omega) (by omega)) hW (q_recv X hW ds_R rfl) ok_R_byteAt mw_1082 ⟨by decide, by decide⟩ (As := [.int (nI j)]) rfl rfl (Nat.le_of_ble_eq_true rfl) (lv := [(1, .int (ξ i)), (0, .ref (eA E 70))]) hl ⟨Nat.le_refl 0, Nat.le_refl 0⟩ d_R_token_136 (fun H locs hW => ?_)
                      refine lv_bipush (v := nI 48) X.x X.b d_R_token_139 (by decide) ?_
                      refine lv_bipush (v := nI 57) X.x X.b d_R_token_141 (by decide) ?_
                      refine q_csi X (c_R_within l E (qr S 15 ν) (-1) (nI 48) (nI 57)) hW ok_R_within mw_757 ⟨by decide, by decide⟩ (As := [.int (-1), .int (nI 48), .int (nI 57)]) rfl rfl (Nat.le_of_ble_eq_true rfl) (lv := [(1, .int (ξ i)), (0, .ref (eA E 70))]) hl ⟨Nat.le_refl 0, Nat.le_refl 0⟩ d_R_token_143 (fun H locs hW => ?_)
                      refine lv_if_eq (tgt := 206) X.x X.b d_R_token_146 (by decide) (fun c146 => ?_) (fun c146 => ?_)
                      · have c146 := b2i_e c146
                        have eJ : eD ξ len i = j := by rw [← hB]; exact lst_f (fun z => absurd z hs136)
                        have eN : tN ξ len n = j := by unfold tN; rw [← eS, if_neg (fun z => z hs13), if_neg c76, if_pos c123, eJ]
                        have eT : kR (tK ξ len n) = 2 := by unfold tK; rw [← eS, if_neg (fun z => z hs13), if_neg c76, if_pos c123]; rfl
                        have eV : tV ξ len n = nmS ξ i (j - i) := by unfold tV; rw [← eS, if_neg (fun z => z hs13), if_neg c76, if_pos c123, eJ]
                        exact q_pvret X hW ⟨ν, ⟨kν_3, kν_6, by rw [kν_7, eS], by rw [kν_8, eN], by rw [kν_9, eT], by rw [kν_10, eV], kν_11, kν_14, kν_15, kν_16⟩, rfl⟩ d_R_token_206
                      · have c146 := b2i_n c146
                        exact absurd c146 (by decide)
                exact loop131 (len - i + 1) i r128 (Nat.le_refl _) (by omega) rfl kr128_3 kr128_6 kr128_11 kr128_14 kr128_15 kr128_16 kr128_7 kr128_9 (by rw [kr128_10, Nat.sub_self]; rfl) kr128_8 (Nat.lt_succ_self _) _ _ _ hW (lv_sub hl [0, 1] rfl)
            · have c76 := b2i_n c76
              refine lv_aload_n X.x X.b d_R_token_79 rfl (lv_at hl 1 rfl) ?_
              refine lv_iconst (v := nI 1) X.x X.b d_R_token_80 (by decide) ?_
              refine g_puti X hW qj4 qp4 qn4 rfl _ ds_R 9 (by decide) mw_695 rfl rfl (r0 := 15) (p0 := 9) rfl rfl rfl (ρ := r53) (by rw [qr_at]) d_R_token_81 (fun H locs hW => ?_)
              obtain ⟨r81, er81⟩ : ∃ z, z = upd r53 9 (nI 1) := ⟨_, rfl⟩
              rw [← er81] at hW
              have kr81_10 : r81 10 = nI 0 := by rw [er81, upN (by omega)]; exact kr53_10
              have kr81_11 : r81 11 = w0 := by rw [er81, upN (by omega)]; exact kr53_11
              have kr81_14 : r81 14 = nI mi := by rw [er81, upN (by omega)]; exact kr53_14
              have kr81_15 : r81 15 = nI ta := by rw [er81, upN (by omega)]; exact kr53_15
              have kr81_16 : r81 16 = nI wa := by rw [er81, upN (by omega)]; exact kr53_16
              have kr81_3 : r81 3 = kp := by rw [er81, upN (by omega)]; exact kr53_3
              have kr81_6 : r81 6 = nI len := by rw [er81, upN (by omega)]; exact kr53_6
              have kr81_7 : r81 7 = nI i := by rw [er81, upN (by omega)]; exact kr53_7
              have kr81_8 : r81 8 = nI i := by rw [er81, upN (by omega)]; exact kr53_8
              have kr81_9 : r81 9 = nI 1 := by rw [er81, upd_at]
              rw [qr_qr] at hW
              have loop84 : ∀ (fu84 : Nat) (j : Nat) (κ : Nat → Int32), i ≤ j → j ≤ len → lst (fun q => ¬ isLt (ξ q)) (len - j) j = eL ξ len i → κ 3 = kp → κ 6 = nI len → κ 11 = w0 → κ 14 = nI mi → κ 15 = nI ta → κ 16 = nI wa → κ 7 = nI i → κ 9 = nI 1 → κ 10 = nI 0 → κ 8 = nI j → len - j < fu84 → ∀ (H : Heap) (locs : List Loc) (ls : Array Slot), qWH E (qr S 15 κ) s H locs → lv_has ls 2 [(1, .int (ξ i)), (0, .ref (eA E 70))] → W p l e (qRm 2) s m ([.ref (eA E 70)] : List Value).toArray below meth c H locs 0 0 (MQ below (qQpv E (stP S ξ len n kp w0 mi ta wa) s.heap.size) ([.ref (eA E 70)] : List Value).toArray s 0 0 (qAA E s.heap.size)) (F0 m 84 ls []) := by
                intro fu84
                induction fu84 with
                | zero =>
                  intro j κ hij hj hB kκ_3 kκ_6 kκ_11 kκ_14 kκ_15 kκ_16 kκ_7 kκ_9 kκ_10 kκ_8 hfu
                  exact absurd hfu (Nat.not_lt_zero _)
                | succ fu84 ih84 =>
                  intro j κ hij hj hB kκ_3 kκ_6 kκ_11 kκ_14 kκ_15 kκ_16 kκ_7 kκ_9 kκ_10 kκ_8 hfu H locs ls hW hl
                  refine lv_aload_n X.x X.b d_R_token_84 rfl (lv_at hl 1 rfl) ?_
                  refine lv_aload_n X.x X.b d_R_token_85 rfl (lv_at hl 1 rfl) ?_
                  refine g_geti X hW qj4 rfl _ ds_R 8 (by decide) mw_694 rfl (r0 := 15) (p0 := 8) rfl (v := κ 8) (by rw [qr_at]) d_R_token_86 ?_
                  rw [kκ_8]
                  by_cases hs89 : j < len
                  · refine q_cvi X (c_R_byteAt_t l E (qr S 15 κ) κ ξ (by rw [qr_at]) (by rw [qr_ne (by omega), hξ]) len kκ_6 hlen j (by omega)) hW (q_recv X hW ds_R rfl) ok_R_byteAt mw_1082 ⟨by decide, by decide⟩ (As := [.int (nI j)]) rfl rfl (Nat.le_of_ble_eq_true rfl) (lv := [(1, .int (ξ i)), (0, .ref (eA E 70))]) hl ⟨Nat.le_refl 0, Nat.le_refl 0⟩ d_R_token_89 (fun H locs hW => ?_)
                    refine lv_bipush (v := nI 97) X.x X.b d_R_token_92 (by decide) ?_
                    refine lv_bipush (v := nI 122) X.x X.b d_R_token_94 (by decide) ?_
                    refine q_csi X (c_R_within l E (qr S 15 κ) (ξ j) (nI 97) (nI 122)) hW ok_R_within mw_757 ⟨by decide, by decide⟩ (As := [.int (ξ j), .int (nI 97), .int (nI 122)]) rfl rfl (Nat.le_of_ble_eq_true rfl) (lv := [(1, .int (ξ i)), (0, .ref (eA E 70))]) hl ⟨Nat.le_refl 0, Nat.le_refl 0⟩ d_R_token_96 (fun H locs hW => ?_)
                    refine lv_if_eq (tgt := 206) X.x X.b d_R_token_99 (by decide) (fun c99 => ?_) (fun c99 => ?_)
                    · have c99 := b2i_e c99
                      have eJ : eL ξ len i = j := by rw [← hB]; exact lst_f (fun z => c99)
                      have eN : tN ξ len n = j := by unfold tN; rw [← eS, if_neg (fun z => z hs13), if_pos c76, eJ]
                      have eT : kR (tK ξ len n) = 1 := by unfold tK; rw [← eS, if_neg (fun z => z hs13), if_pos c76]; rfl
                      have eV : tV ξ len n = nI 0 := by unfold tV; rw [← eS, if_neg (fun z => z hs13), if_pos c76]
                      exact q_pvret X hW ⟨κ, ⟨kκ_3, kκ_6, by rw [kκ_7, eS], by rw [kκ_8, eN], by rw [kκ_9, eT], by rw [kκ_10, eV], kκ_11, kκ_14, kκ_15, kκ_16⟩, rfl⟩ d_R_token_206
                    · have c99 := b2i_n c99
                      refine lv_aload_n X.x X.b d_R_token_102 rfl (lv_at hl 1 rfl) ?_
                      refine lv_dup X.x X.b d_R_token_103 rfl ?_
                      refine g_geti X hW qj4 rfl _ ds_R 8 (by decide) mw_694 rfl (r0 := 15) (p0 := 8) rfl (v := κ 8) (by rw [qr_at]) d_R_token_104 ?_
                      rw [kκ_8]
                      refine lv_iconst (v := nI 1) X.x X.b d_R_token_107 (by decide) ?_
                      refine lv_iadd X.x X.b d_R_token_108 ?_
                      rw [nI_add]
                      refine g_puti X hW qj4 qp4 qn4 rfl _ ds_R 8 (by decide) mw_694 rfl rfl (r0 := 15) (p0 := 8) rfl rfl rfl (ρ := κ) (by rw [qr_at]) d_R_token_109 (fun H locs hW => ?_)
                      obtain ⟨r109, er109⟩ : ∃ z, z = upd κ 8 (nI (j + 1)) := ⟨_, rfl⟩
                      rw [← er109] at hW
                      have kr109_10 : r109 10 = nI 0 := by rw [er109, upN (by omega)]; exact kκ_10
                      have kr109_11 : r109 11 = w0 := by rw [er109, upN (by omega)]; exact kκ_11
                      have kr109_14 : r109 14 = nI mi := by rw [er109, upN (by omega)]; exact kκ_14
                      have kr109_15 : r109 15 = nI ta := by rw [er109, upN (by omega)]; exact kκ_15
                      have kr109_16 : r109 16 = nI wa := by rw [er109, upN (by omega)]; exact kκ_16
                      have kr109_3 : r109 3 = kp := by rw [er109, upN (by omega)]; exact kκ_3
                      have kr109_6 : r109 6 = nI len := by rw [er109, upN (by omega)]; exact kκ_6
                      have kr109_7 : r109 7 = nI i := by rw [er109, upN (by omega)]; exact kκ_7
                      have kr109_8 : r109 8 = nI (j + 1) := by rw [er109, upd_at]
                      have kr109_9 : r109 9 = nI 1 := by rw [er109, upN (by omega)]; exact kκ_9
                      rw [qr_qr] at hW
                      refine lv_goto (tgt := 84) X.x X.b d_R_token_112 (by decide) ?_
                      exact ih84 (j + 1) r109 (by omega) (by omega) (by rw [← hB]; exact (lst_t (by omega) (fun z => z c99)).symm) kr109_3 kr109_6 kr109_11 kr109_14 kr109_15 kr109_16 kr109_7 kr109_9 kr109_10 kr109_8 (by omega) _ _ _ hW (lv_sub hl [0, 1] rfl)
                  · refine q_cvi X (c_R_byteAt_f l E (qr S 15 κ) κ ξ (by rw [qr_at]) (by rw [qr_ne (by omega), hξ]) len kκ_6 hlen j (by omega) (by omega)) hW (q_recv X hW ds_R rfl) ok_R_byteAt mw_1082 ⟨by decide, by decide⟩ (As := [.int (nI j)]) rfl rfl (Nat.le_of_ble_eq_true rfl) (lv := [(1, .int (ξ i)), (0, .ref (eA E 70))]) hl ⟨Nat.le_refl 0, Nat.le_refl 0⟩ d_R_token_89 (fun H locs hW => ?_)
                    refine lv_bipush (v := nI 97) X.x X.b d_R_token_92 (by decide) ?_
                    refine lv_bipush (v := nI 122) X.x X.b d_R_token_94 (by decide) ?_
                    refine q_csi X (c_R_within l E (qr S 15 κ) (-1) (nI 97) (nI 122)) hW ok_R_within mw_757 ⟨by decide, by decide⟩ (As := [.int (-1), .int (nI 97), .int (nI 122)]) rfl rfl (Nat.le_of_ble_eq_true rfl) (lv := [(1, .int (ξ i)), (0, .ref (eA E 70))]) hl ⟨Nat.le_refl 0, Nat.le_refl 0⟩ d_R_token_96 (fun H locs hW => ?_)
                    refine lv_if_eq (tgt := 206) X.x X.b d_R_token_99 (by decide) (fun c99 => ?_) (fun c99 => ?_)
                    · have c99 := b2i_e c99
                      have eJ : eL ξ len i = j := by rw [← hB]; exact lst_f (fun z => absurd z hs89)
                      have eN : tN ξ len n = j := by unfold tN; rw [← eS, if_neg (fun z => z hs13), if_pos c76, eJ]
                      have eT : kR (tK ξ len n) = 1 := by unfold tK; rw [← eS, if_neg (fun z => z hs13), if_pos c76]; rfl
                      have eV : tV ξ len n = nI 0 := by unfold tV; rw [← eS, if_neg (fun z => z hs13), if_pos c76]
                      exact q_pvret X hW ⟨κ, ⟨kκ_3, kκ_6, by rw [kκ_7, eS], by rw [kκ_8, eN], by rw [kκ_9, eT], by rw [kκ_10, eV], kκ_11, kκ_14, kκ_15, kκ_16⟩, rfl⟩ d_R_token_206
                    · have c99 := b2i_n c99
                      exact absurd c99 (by decide)
              exact loop84 (len - i + 1) i r81 (Nat.le_refl _) (by omega) rfl kr81_3 kr81_6 kr81_11 kr81_14 kr81_15 kr81_16 kr81_7 kr81_9 kr81_10 kr81_8 (Nat.lt_succ_self _) _ _ _ hW (lv_sub hl [0, 1] rfl)
          · exact absurd (h0 i hs13) c57
        · refine lv_aload_n X.x X.b d_R_token_21 rfl (lv_at hl 0 rfl) ?_
          refine lv_dup X.x X.b d_R_token_22 rfl ?_
          refine g_geti X hW qj4 rfl _ ds_R 7 (by decide) mw_693 rfl (r0 := 15) (p0 := 7) rfl (v := μ 7) (by rw [qr_at]) d_R_token_23 ?_
          rw [kμ_7]
          refine lv_iconst (v := nI 1) X.x X.b d_R_token_26 (by decide) ?_
          refine lv_iadd X.x X.b d_R_token_27 ?_
          rw [nI_add]
          refine g_puti X hW qj4 qp4 qn4 rfl _ ds_R 7 (by decide) mw_693 rfl rfl (r0 := 15) (p0 := 7) rfl rfl rfl (ρ := μ) (by rw [qr_at]) d_R_token_28 (fun H locs hW => ?_)
          obtain ⟨r28, er28⟩ : ∃ z, z = upd μ 7 (nI (i + 1)) := ⟨_, rfl⟩
          rw [← er28] at hW
          have kr28_11 : r28 11 = w0 := by rw [er28, upN (by omega)]; exact kμ_11
          have kr28_14 : r28 14 = nI mi := by rw [er28, upN (by omega)]; exact kμ_14
          have kr28_15 : r28 15 = nI ta := by rw [er28, upN (by omega)]; exact kμ_15
          have kr28_16 : r28 16 = nI wa := by rw [er28, upN (by omega)]; exact kμ_16
          have kr28_3 : r28 3 = kp := by rw [er28, upN (by omega)]; exact kμ_3
          have kr28_6 : r28 6 = nI len := by rw [er28, upN (by omega)]; exact kμ_6
          have kr28_7 : r28 7 = nI (i + 1) := by rw [er28, upd_at]
          rw [qr_qr] at hW
          refine lv_goto (tgt := 8) X.x X.b d_R_token_31 (by decide) ?_
          exact ih8 (i + 1) r28 (by omega) (by omega) (by rw [← hL]; exact (lst_t (by omega) (fun z => z c18)).symm) kr28_3 kr28_6 kr28_11 kr28_14 kr28_15 kr28_16 kr28_7 (by omega) _ _ _ hW (lv_sub hl [0] rfl)
      · refine q_cvi X (c_R_byteAt_f l E (qr S 15 μ) μ ξ (by rw [qr_at]) (by rw [qr_ne (by omega), hξ]) len kμ_6 hlen i (by omega) (by omega)) hW (q_recv X hW ds_R rfl) ok_R_byteAt mw_1082 ⟨by decide, by decide⟩ (As := [.int (nI i)]) rfl rfl (Nat.le_of_ble_eq_true rfl) (lv := [(0, .ref (eA E 70))]) hl ⟨Nat.le_refl 0, Nat.le_refl 0⟩ d_R_token_13 (fun H locs hW => ?_)
        refine lv_bipush (v := nI 32) X.x X.b d_R_token_16 (by decide) ?_
        refine lv_icmp_ne (tgt := 34) X.x X.b d_R_token_18 (by decide) (fun c18 => ?_) (fun c18 => ?_)
        · have eS : i = tS ξ len n := by rw [← hL]; exact (lst_f (fun z => absurd z hs13)).symm
          refine lv_aload_n X.x X.b d_R_token_34 rfl (lv_at hl 0 rfl) ?_
          refine lv_aload_n X.x X.b d_R_token_35 rfl (lv_at hl 0 rfl) ?_
          refine g_geti X hW qj4 rfl _ ds_R 7 (by decide) mw_693 rfl (r0 := 15) (p0 := 7) rfl (v := μ 7) (by rw [qr_at]) d_R_token_36 ?_
          rw [kμ_7]
          refine q_cvi X (c_R_byteAt_f l E (qr S 15 μ) μ ξ (by rw [qr_at]) (by rw [qr_ne (by omega), hξ]) len kμ_6 hlen i (by omega) (by omega)) hW (q_recv X hW ds_R rfl) ok_R_byteAt mw_1082 ⟨by decide, by decide⟩ (As := [.int (nI i)]) rfl rfl (Nat.le_of_ble_eq_true rfl) (lv := [(0, .ref (eA E 70))]) hl ⟨Nat.le_refl 0, Nat.le_refl 0⟩ d_R_token_39 (fun H locs hW => ?_)
          refine lv_istore_n (lv' := [(1, .int (-1)), (0, .ref (eA E 70))]) X.x X.b d_R_token_42 rfl hl (by decide) rfl (fun ls hl => ?_)
          refine lv_aload_n X.x X.b d_R_token_43 rfl (lv_at hl 1 rfl) ?_
          refine lv_aload_n X.x X.b d_R_token_44 rfl (lv_at hl 1 rfl) ?_
          refine g_geti X hW qj4 rfl _ ds_R 7 (by decide) mw_693 rfl (r0 := 15) (p0 := 7) rfl (v := μ 7) (by rw [qr_at]) d_R_token_45 ?_
          rw [kμ_7]
          refine g_puti X hW qj4 qp4 qn4 rfl _ ds_R 8 (by decide) mw_694 rfl rfl (r0 := 15) (p0 := 8) rfl rfl rfl (ρ := μ) (by rw [qr_at]) d_R_token_48 (fun H locs hW => ?_)
          obtain ⟨r48, er48⟩ : ∃ z, z = upd μ 8 (nI i) := ⟨_, rfl⟩
          rw [← er48] at hW
          have kr48_11 : r48 11 = w0 := by rw [er48, upN (by omega)]; exact kμ_11
          have kr48_14 : r48 14 = nI mi := by rw [er48, upN (by omega)]; exact kμ_14
          have kr48_15 : r48 15 = nI ta := by rw [er48, upN (by omega)]; exact kμ_15
          have kr48_16 : r48 16 = nI wa := by rw [er48, upN (by omega)]; exact kμ_16
          have kr48_3 : r48 3 = kp := by rw [er48, upN (by omega)]; exact kμ_3
          have kr48_6 : r48 6 = nI len := by rw [er48, upN (by omega)]; exact kμ_6
          have kr48_7 : r48 7 = nI i := by rw [er48, upN (by omega)]; exact kμ_7
          have kr48_8 : r48 8 = nI i := by rw [er48, upd_at]
          rw [qr_qr] at hW
          refine lv_aload_n X.x X.b d_R_token_51 rfl (lv_at hl 1 rfl) ?_
          refine lv_iconst (v := nI 0) X.x X.b d_R_token_52 (by decide) ?_
          refine g_puti X hW qj4 qp4 qn4 rfl _ ds_R 10 (by decide) mw_696 rfl rfl (r0 := 15) (p0 := 10) rfl rfl rfl (ρ := r48) (by rw [qr_at]) d_R_token_53 (fun H locs hW => ?_)
          obtain ⟨r53, er53⟩ : ∃ z, z = upd r48 10 (nI 0) := ⟨_, rfl⟩
          rw [← er53] at hW
          have kr53_11 : r53 11 = w0 := by rw [er53, upN (by omega)]; exact kr48_11
          have kr53_14 : r53 14 = nI mi := by rw [er53, upN (by omega)]; exact kr48_14
          have kr53_15 : r53 15 = nI ta := by rw [er53, upN (by omega)]; exact kr48_15
          have kr53_16 : r53 16 = nI wa := by rw [er53, upN (by omega)]; exact kr48_16
          have kr53_3 : r53 3 = kp := by rw [er53, upN (by omega)]; exact kr48_3
          have kr53_6 : r53 6 = nI len := by rw [er53, upN (by omega)]; exact kr48_6
          have kr53_7 : r53 7 = nI i := by rw [er53, upN (by omega)]; exact kr48_7
          have kr53_8 : r53 8 = nI i := by rw [er53, upN (by omega)]; exact kr48_8
          have kr53_10 : r53 10 = nI 0 := by rw [er53, upd_at]
          rw [qr_qr] at hW
          refine lv_iload_n X.x X.b d_R_token_56 rfl (lv_at hl 0 rfl) ?_
          refine lv_if_ge (tgt := 68) X.x X.b d_R_token_57 (by decide) (fun c57 => ?_) (fun c57 => ?_)
          · exact absurd c57 (by decide)
          · refine lv_aload_n X.x X.b d_R_token_60 rfl (lv_at hl 1 rfl) ?_
            refine lv_iconst (v := nI 0) X.x X.b d_R_token_61 (by decide) ?_
            refine g_puti X hW qj4 qp4 qn4 rfl _ ds_R 9 (by decide) mw_695 rfl rfl (r0 := 15) (p0 := 9) rfl rfl rfl (ρ := r53) (by rw [qr_at]) d_R_token_62 (fun H locs hW => ?_)
            obtain ⟨r62, er62⟩ : ∃ z, z = upd r53 9 (nI 0) := ⟨_, rfl⟩
            rw [← er62] at hW
            have kr62_10 : r62 10 = nI 0 := by rw [er62, upN (by omega)]; exact kr53_10
            have kr62_11 : r62 11 = w0 := by rw [er62, upN (by omega)]; exact kr53_11
            have kr62_14 : r62 14 = nI mi := by rw [er62, upN (by omega)]; exact kr53_14
            have kr62_15 : r62 15 = nI ta := by rw [er62, upN (by omega)]; exact kr53_15
            have kr62_16 : r62 16 = nI wa := by rw [er62, upN (by omega)]; exact kr53_16
            have kr62_3 : r62 3 = kp := by rw [er62, upN (by omega)]; exact kr53_3
            have kr62_6 : r62 6 = nI len := by rw [er62, upN (by omega)]; exact kr53_6
            have kr62_7 : r62 7 = nI i := by rw [er62, upN (by omega)]; exact kr53_7
            have kr62_8 : r62 8 = nI i := by rw [er62, upN (by omega)]; exact kr53_8
            have kr62_9 : r62 9 = nI 0 := by rw [er62, upd_at]
            rw [qr_qr] at hW
            refine lv_goto (tgt := 206) X.x X.b d_R_token_65 (by decide) ?_
            have eN : tN ξ len n = i := by unfold tN; rw [← eS, if_pos hs13]
            have eT : kR (tK ξ len n) = 0 := by unfold tK; rw [← eS, if_pos hs13]; rfl
            have eV : tV ξ len n = nI 0 := by unfold tV; rw [← eS, if_pos hs13]
            exact q_pvret X hW ⟨r62, ⟨kr62_3, kr62_6, by rw [kr62_7, eS], by rw [kr62_8, eN], by rw [kr62_9, eT], by rw [kr62_10, eV], kr62_11, kr62_14, kr62_15, kr62_16⟩, rfl⟩ d_R_token_206
        · exact absurd c18 (by decide)
  exact loop8 (len - n + 1) n r5 hn (Nat.le_refl _) rfl kr5_3 kr5_6 kr5_11 kr5_14 kr5_15 kr5_16 kr5_7 (Nat.lt_succ_self _) _ _ _ hW (lv_sub hl [0] rfl)
set_option maxHeartbeats 1000000 in
set_option maxRecDepth 20000 in
theorem c_R_must_w (l : Launch) (E : QE) (S : QM) (υ ξ : Nat → Int32) (hυ : S 15 = υ) (hξ : S 20 = ξ) (len n : Nat) (kp : Int32) (mi ta wa : Nat) (hk : stK ξ len n kp (nI 1) mi ta wa υ) (hn : n ≤ len) (hlen : len ≤ 120) (h0 : ∀ i, i < len → 0 ≤ ξ i) (dd : Int32) : qCPv E l y_R_must prog_7_method_86_code 2 3 [.ref (eA E 70), .int dd] S (stP S ξ len (n) kp (nI 1) mi ta wa) := by
  refine qCPv_of (by decide) (Nat.le_of_ble_eq_true rfl) (fun p e s m below meth c ls X hW hl => ?_)
  have hl : lv_has ls 2 [(0, .ref (eA E 70)), (1, .int dd)] := hl
  obtain ⟨kυ_3, kυ_6, kυ_7, kυ_8, kυ_9, kυ_10, kυ_11, kυ_14, kυ_15, kυ_16⟩ := id hk
  have hb1 := tN_n (σ := ξ) (len := len) (n := n) (by omega)
  have hb2 := tN_le (σ := ξ) (len := len) (n := n) (by omega)
  have hb3 := kR_le (σ := ξ) (len := len) (n := n)
  refine lv_aload_n X.x X.b d_R_must_0 rfl (lv_at hl 0 rfl) ?_
  refine lv_aload_n X.x X.b d_R_must_1 rfl (lv_at hl 0 rfl) ?_
  refine g_geti X hW qj4 rfl _ ds_R 11 (by decide) mw_697 rfl (r0 := 15) (p0 := 11) rfl (v := υ 11) (by rw [hυ]) d_R_must_2 ?_
  rw [kυ_11]
  refine lv_if_ne (tgt := 12) X.x X.b d_R_must_5 (by decide) (fun c5 => ?_) (fun c5 => ?_)
  · have c5 : ¬ 1 = 0 := fun z => c5 ((nI_eq (a := 1) (b := 0) (by omega) (by omega)).mpr z)
    refine lv_iconst (v := nI 1) X.x X.b d_R_must_12 (by decide) ?_
    refine lv_goto (tgt := 17) X.x X.b d_R_must_13 (by decide) ?_
    refine g_puti X hW qj4 qp4 qn4 rfl _ ds_R 11 (by decide) mw_697 rfl rfl (r0 := 15) (p0 := 11) rfl (by decide) (by decide) (ρ := υ) (by rw [hυ]) d_R_must_17 (fun H locs hW => ?_)
    obtain ⟨r17, er17⟩ : ∃ z, z = upd υ 11 (nI 1) := ⟨_, rfl⟩
    rw [← er17] at hW
    have kr17_10 : r17 10 = tV ξ len n := by rw [er17, upN (by omega)]; exact kυ_10
    have kr17_11 : r17 11 = nI 1 := by rw [er17, upd_at]
    have kr17_14 : r17 14 = nI mi := by rw [er17, upN (by omega)]; exact kυ_14
    have kr17_15 : r17 15 = nI ta := by rw [er17, upN (by omega)]; exact kυ_15
    have kr17_16 : r17 16 = nI wa := by rw [er17, upN (by omega)]; exact kυ_16
    have kr17_3 : r17 3 = kp := by rw [er17, upN (by omega)]; exact kυ_3
    have kr17_6 : r17 6 = nI len := by rw [er17, upN (by omega)]; exact kυ_6
    have kr17_7 : r17 7 = nI (tS ξ len n) := by rw [er17, upN (by omega)]; exact kυ_7
    have kr17_8 : r17 8 = nI (tN ξ len n) := by rw [er17, upN (by omega)]; exact kυ_8
    have kr17_9 : r17 9 = nI (kR (tK ξ len n)) := by rw [er17, upN (by omega)]; exact kυ_9
    refine lv_aload_n X.x X.b d_R_must_20 rfl (lv_at hl 0 rfl) ?_
    refine g_geti X hW qj4 rfl _ ds_R 11 (by decide) mw_697 rfl (r0 := 15) (p0 := 11) rfl (v := r17 11) (by rw [qr_at]) d_R_must_21 ?_
    rw [kr17_11]
    refine lv_if_ne (tgt := 31) X.x X.b d_R_must_24 (by decide) (fun c24 => ?_) (fun c24 => ?_)
    · have c24 : ¬ 1 = 0 := fun z => c24 ((nI_eq (a := 1) (b := 0) (by omega) (by omega)).mpr z)
      exact q_pvret X hW ⟨r17, ⟨kr17_3, kr17_6, kr17_7, kr17_8, kr17_9, kr17_10, kr17_11, kr17_14, kr17_15, kr17_16⟩, rfl⟩ d_R_must_31
    · exact absurd c24 (by decide)
  · exact absurd c5 (by decide)
set_option maxHeartbeats 1000000 in
set_option maxRecDepth 20000 in
theorem c_R_must_t (l : Launch) (E : QE) (S : QM) (υ ξ : Nat → Int32) (hυ : S 15 = υ) (hξ : S 20 = ξ) (len n : Nat) (kp : Int32) (mi ta wa : Nat) (hk : stK ξ len n kp (nI 0) mi ta wa υ) (hn : n ≤ len) (hlen : len ≤ 120) (h0 : ∀ i, i < len → 0 ≤ ξ i) : qCPv E l y_R_must prog_7_method_86_code 2 3 [.ref (eA E 70), .int (nI 1)] S (stP S ξ len (tN ξ len n) kp (nI 0) mi ta wa) := by
  refine qCPv_of (by decide) (Nat.le_of_ble_eq_true rfl) (fun p e s m below meth c ls X hW hl => ?_)
  have hl : lv_has ls 2 [(0, .ref (eA E 70)), (1, .int (nI 1))] := hl
  obtain ⟨kυ_3, kυ_6, kυ_7, kυ_8, kυ_9, kυ_10, kυ_11, kυ_14, kυ_15, kυ_16⟩ := id hk
  have hb1 := tN_n (σ := ξ) (len := len) (n := n) (by omega)
  have hb2 := tN_le (σ := ξ) (len := len) (n := n) (by omega)
  have hb3 := kR_le (σ := ξ) (len := len) (n := n)
  refine lv_aload_n X.x X.b d_R_must_0 rfl (lv_at hl 0 rfl) ?_
  refine lv_aload_n X.x X.b d_R_must_1 rfl (lv_at hl 0 rfl) ?_
  refine g_geti X hW qj4 rfl _ ds_R 11 (by decide) mw_697 rfl (r0 := 15) (p0 := 11) rfl (v := υ 11) (by rw [hυ]) d_R_must_2 ?_
  rw [kυ_11]
  refine lv_if_ne (tgt := 12) X.x X.b d_R_must_5 (by decide) (fun c5 => ?_) (fun c5 => ?_)
  · exact absurd (by decide) c5
  · have c5 : 0 = 0 := (nI_eq (a := 0) (b := 0) (by omega) (by omega)).mp c5
    refine lv_iload_n X.x X.b d_R_must_8 rfl (lv_at hl 1 rfl) ?_
    refine lv_if_ne (tgt := 16) X.x X.b d_R_must_9 (by decide) (fun c9 => ?_) (fun c9 => ?_)
    · have c9 : ¬ 1 = 0 := fun z => c9 ((nI_eq (a := 1) (b := 0) (by omega) (by omega)).mpr z)
      refine lv_iconst (v := nI 0) X.x X.b d_R_must_16 (by decide) ?_
      refine g_puti X hW qj4 qp4 qn4 rfl _ ds_R 11 (by decide) mw_697 rfl rfl (r0 := 15) (p0 := 11) rfl (by decide) (by decide) (ρ := υ) (by rw [hυ]) d_R_must_17 (fun H locs hW => ?_)
      obtain ⟨r17, er17⟩ : ∃ z, z = upd υ 11 (nI 0) := ⟨_, rfl⟩
      rw [← er17] at hW
      have kr17_10 : r17 10 = tV ξ len n := by rw [er17, upN (by omega)]; exact kυ_10
      have kr17_11 : r17 11 = nI 0 := by rw [er17, upd_at]
      have kr17_14 : r17 14 = nI mi := by rw [er17, upN (by omega)]; exact kυ_14
      have kr17_15 : r17 15 = nI ta := by rw [er17, upN (by omega)]; exact kυ_15
      have kr17_16 : r17 16 = nI wa := by rw [er17, upN (by omega)]; exact kυ_16
      have kr17_3 : r17 3 = kp := by rw [er17, upN (by omega)]; exact kυ_3
      have kr17_6 : r17 6 = nI len := by rw [er17, upN (by omega)]; exact kυ_6
      have kr17_7 : r17 7 = nI (tS ξ len n) := by rw [er17, upN (by omega)]; exact kυ_7
      have kr17_8 : r17 8 = nI (tN ξ len n) := by rw [er17, upN (by omega)]; exact kυ_8
      have kr17_9 : r17 9 = nI (kR (tK ξ len n)) := by rw [er17, upN (by omega)]; exact kυ_9
      refine lv_aload_n X.x X.b d_R_must_20 rfl (lv_at hl 0 rfl) ?_
      refine g_geti X hW qj4 rfl _ ds_R 11 (by decide) mw_697 rfl (r0 := 15) (p0 := 11) rfl (v := r17 11) (by rw [qr_at]) d_R_must_21 ?_
      rw [kr17_11]
      refine lv_if_ne (tgt := 31) X.x X.b d_R_must_24 (by decide) (fun c24 => ?_) (fun c24 => ?_)
      · exact absurd (by decide) c24
      · have c24 : 0 = 0 := (nI_eq (a := 0) (b := 0) (by omega) (by omega)).mp c24
        refine lv_aload_n X.x X.b d_R_must_27 rfl (lv_at hl 0 rfl) ?_
        refine q_cvvp X (c_R_token l E (qr S 15 r17) r17 ξ (by rw [qr_at]) (by rw [qr_ne (by omega), hξ]) len (tN ξ len n) kp (nI 0) mi ta wa kr17_3 kr17_6 kr17_8 kr17_11 kr17_14 kr17_15 kr17_16 (by omega) hlen h0) hW (q_recv X hW ds_R rfl) ok_R_token mw_1078 ⟨by decide, by decide⟩ (As := []) rfl rfl (Nat.le_of_ble_eq_true rfl) (lv := [(0, .ref (eA E 70)), (1, .int (nI 1))]) hl ⟨Nat.le_refl 0, Nat.le_refl 0⟩ d_R_must_28 (fun H locs Sq28 hP28 hW => ?_)
        obtain ⟨τ28, hτ28, rfl⟩ := hP28
        have hW : qWH E (qr S 15 τ28) s H locs := (by have h := hW; rw [qr_qr] at h; exact h)
        obtain ⟨kτ28_3, kτ28_6, kτ28_7, kτ28_8, kτ28_9, kτ28_10, kτ28_11, kτ28_14, kτ28_15, kτ28_16⟩ := id hτ28
        have bτ28 := tN_n (σ := ξ) (len := len) (n := tN ξ len n) (by omega)
        have dτ28 := tN_le (σ := ξ) (len := len) (n := tN ξ len n) (by omega)
        have eτ28 := kR_le (σ := ξ) (len := len) (n := tN ξ len n)
        exact q_pvret X hW ⟨τ28, ⟨kτ28_3, kτ28_6, kτ28_7, kτ28_8, kτ28_9, kτ28_10, kτ28_11, kτ28_14, kτ28_15, kτ28_16⟩, rfl⟩ d_R_must_31
    · exact absurd c9 (by decide)
set_option maxHeartbeats 1000000 in
set_option maxRecDepth 20000 in
theorem c_R_must_f (l : Launch) (E : QE) (S : QM) (υ ξ : Nat → Int32) (hυ : S 15 = υ) (hξ : S 20 = ξ) (len n : Nat) (kp : Int32) (mi ta wa : Nat) (hk : stK ξ len n kp (nI 0) mi ta wa υ) (hn : n ≤ len) (hlen : len ≤ 120) (h0 : ∀ i, i < len → 0 ≤ ξ i) : qCPv E l y_R_must prog_7_method_86_code 2 3 [.ref (eA E 70), .int (nI 0)] S (stP S ξ len (n) kp (nI 1) mi ta wa) := by
  refine qCPv_of (by decide) (Nat.le_of_ble_eq_true rfl) (fun p e s m below meth c ls X hW hl => ?_)
  have hl : lv_has ls 2 [(0, .ref (eA E 70)), (1, .int (nI 0))] := hl
  obtain ⟨kυ_3, kυ_6, kυ_7, kυ_8, kυ_9, kυ_10, kυ_11, kυ_14, kυ_15, kυ_16⟩ := id hk
  have hb1 := tN_n (σ := ξ) (len := len) (n := n) (by omega)
  have hb2 := tN_le (σ := ξ) (len := len) (n := n) (by omega)
  have hb3 := kR_le (σ := ξ) (len := len) (n := n)
  refine lv_aload_n X.x X.b d_R_must_0 rfl (lv_at hl 0 rfl) ?_
  refine lv_aload_n X.x X.b d_R_must_1 rfl (lv_at hl 0 rfl) ?_
  refine g_geti X hW qj4 rfl _ ds_R 11 (by decide) mw_697 rfl (r0 := 15) (p0 := 11) rfl (v := υ 11) (by rw [hυ]) d_R_must_2 ?_
  rw [kυ_11]
  refine lv_if_ne (tgt := 12) X.x X.b d_R_must_5 (by decide) (fun c5 => ?_) (fun c5 => ?_)
  · exact absurd (by decide) c5
  · have c5 : 0 = 0 := (nI_eq (a := 0) (b := 0) (by omega) (by omega)).mp c5
    refine lv_iload_n X.x X.b d_R_must_8 rfl (lv_at hl 1 rfl) ?_
    refine lv_if_ne (tgt := 16) X.x X.b d_R_must_9 (by decide) (fun c9 => ?_) (fun c9 => ?_)
    · exact absurd (by decide) c9
    · have c9 : 0 = 0 := (nI_eq (a := 0) (b := 0) (by omega) (by omega)).mp c9
      refine lv_iconst (v := nI 1) X.x X.b d_R_must_12 (by decide) ?_
      refine lv_goto (tgt := 17) X.x X.b d_R_must_13 (by decide) ?_
      refine g_puti X hW qj4 qp4 qn4 rfl _ ds_R 11 (by decide) mw_697 rfl rfl (r0 := 15) (p0 := 11) rfl (by decide) (by decide) (ρ := υ) (by rw [hυ]) d_R_must_17 (fun H locs hW => ?_)
      obtain ⟨r17, er17⟩ : ∃ z, z = upd υ 11 (nI 1) := ⟨_, rfl⟩
      rw [← er17] at hW
      have kr17_10 : r17 10 = tV ξ len n := by rw [er17, upN (by omega)]; exact kυ_10
      have kr17_11 : r17 11 = nI 1 := by rw [er17, upd_at]
      have kr17_14 : r17 14 = nI mi := by rw [er17, upN (by omega)]; exact kυ_14
      have kr17_15 : r17 15 = nI ta := by rw [er17, upN (by omega)]; exact kυ_15
      have kr17_16 : r17 16 = nI wa := by rw [er17, upN (by omega)]; exact kυ_16
      have kr17_3 : r17 3 = kp := by rw [er17, upN (by omega)]; exact kυ_3
      have kr17_6 : r17 6 = nI len := by rw [er17, upN (by omega)]; exact kυ_6
      have kr17_7 : r17 7 = nI (tS ξ len n) := by rw [er17, upN (by omega)]; exact kυ_7
      have kr17_8 : r17 8 = nI (tN ξ len n) := by rw [er17, upN (by omega)]; exact kυ_8
      have kr17_9 : r17 9 = nI (kR (tK ξ len n)) := by rw [er17, upN (by omega)]; exact kυ_9
      refine lv_aload_n X.x X.b d_R_must_20 rfl (lv_at hl 0 rfl) ?_
      refine g_geti X hW qj4 rfl _ ds_R 11 (by decide) mw_697 rfl (r0 := 15) (p0 := 11) rfl (v := r17 11) (by rw [qr_at]) d_R_must_21 ?_
      rw [kr17_11]
      refine lv_if_ne (tgt := 31) X.x X.b d_R_must_24 (by decide) (fun c24 => ?_) (fun c24 => ?_)
      · have c24 : ¬ 1 = 0 := fun z => c24 ((nI_eq (a := 1) (b := 0) (by omega) (by omega)).mpr z)
        exact q_pvret X hW ⟨r17, ⟨kr17_3, kr17_6, kr17_7, kr17_8, kr17_9, kr17_10, kr17_11, kr17_14, kr17_15, kr17_16⟩, rfl⟩ d_R_must_31
      · exact absurd c24 (by decide)
set_option maxHeartbeats 1000000 in
set_option maxRecDepth 20000 in
theorem c_R_number_w (l : Launch) (E : QE) (S : QM) (υ ξ : Nat → Int32) (hυ : S 15 = υ) (hξ : S 20 = ξ) (len n : Nat) (kp : Int32) (mi ta wa : Nat) (hk : stK ξ len n kp (nI 1) mi ta wa υ) (hn : n ≤ len) (hlen : len ≤ 120) (h0 : ∀ i, i < len → 0 ≤ ξ i) (lo hi : Nat) : qCPi E l y_R_number prog_7_method_87_code 4 .int 4 [.ref (eA E 70), .int (nI lo), .int (nI hi)] S (tV ξ len n) (stP S ξ len (n) kp (nI 1) mi ta wa) := by
  refine qCPi_of (by decide) (Nat.le_of_ble_eq_true rfl) (fun p e s m below meth c ls X hW hl => ?_)
  have hl : lv_has ls 4 [(0, .ref (eA E 70)), (1, .int (nI lo)), (2, .int (nI hi))] := hl
  obtain ⟨kυ_3, kυ_6, kυ_7, kυ_8, kυ_9, kυ_10, kυ_11, kυ_14, kυ_15, kυ_16⟩ := id hk
  have hb1 := tN_n (σ := ξ) (len := len) (n := n) (by omega)
  have hb2 := tN_le (σ := ξ) (len := len) (n := n) (by omega)
  have hb3 := kR_le (σ := ξ) (len := len) (n := n)
  refine lv_aload_n X.x X.b d_R_number_0 rfl (lv_at hl 0 rfl) ?_
  refine g_geti X hW qj4 rfl _ ds_R 10 (by decide) mw_696 rfl (r0 := 15) (p0 := 10) rfl (v := υ 10) (by rw [hυ]) d_R_number_1 ?_
  rw [kυ_10]
  refine lv_istore_n (lv' := [(3, .int (tV ξ len n)), (0, .ref (eA E 70)), (1, .int (nI lo)), (2, .int (nI hi))]) X.x X.b d_R_number_4 rfl hl (by decide) rfl (fun ls hl => ?_)
  refine lv_aload_n X.x X.b d_R_number_5 rfl (lv_at hl 1 rfl) ?_
  refine lv_aload_n X.x X.b d_R_number_6 rfl (lv_at hl 1 rfl) ?_
  refine g_geti X hW qj4 rfl _ ds_R 9 (by decide) mw_695 rfl (r0 := 15) (p0 := 9) rfl (v := υ 9) (by rw [hυ]) d_R_number_7 ?_
  rw [kυ_9]
  refine lv_iconst (v := nI 2) X.x X.b d_R_number_10 (by decide) ?_
  refine lv_icmp_ne (tgt := 27) X.x X.b d_R_number_11 (by decide) (fun c11 => ?_) (fun c11 => ?_)
  · have c11 : ¬ (kR (tK ξ len n)) = 2 := fun z => c11 ((nI_eq (a := (kR (tK ξ len n))) (b := 2) (by omega) (by omega)).mpr z)
    refine lv_iconst (v := nI 0) X.x X.b d_R_number_27 (by decide) ?_
    refine q_cvvp X (c_R_must_w l E S υ ξ (by rw [hυ]) (by rw [hξ]) len n kp mi ta wa hk (by omega) hlen h0 (nI 0)) hW (q_recv X hW ds_R rfl) ok_R_must mw_1100 ⟨by decide, by decide⟩ (As := [.int (nI 0)]) rfl rfl (Nat.le_of_ble_eq_true rfl) (lv := [(3, .int (tV ξ len n)), (0, .ref (eA E 70)), (1, .int (nI lo)), (2, .int (nI hi))]) hl ⟨Nat.le_refl 0, Nat.le_refl 0⟩ d_R_number_28 (fun H locs Sq28 hP28 hW => ?_)
    obtain ⟨τ28, hτ28, rfl⟩ := hP28
    obtain ⟨kτ28_3, kτ28_6, kτ28_7, kτ28_8, kτ28_9, kτ28_10, kτ28_11, kτ28_14, kτ28_15, kτ28_16⟩ := id hτ28
    have bτ28 := tN_n (σ := ξ) (len := len) (n := n) (by omega)
    have dτ28 := tN_le (σ := ξ) (len := len) (n := n) (by omega)
    have eτ28 := kR_le (σ := ξ) (len := len) (n := n)
    refine lv_iload_n X.x X.b d_R_number_31 rfl (lv_at hl 0 rfl) ?_
    exact q_pzret X rfl hW ⟨rfl, ⟨τ28, ⟨kτ28_3, kτ28_6, kτ28_7, kτ28_8, kτ28_9, kτ28_10, kτ28_11, kτ28_14, kτ28_15, kτ28_16⟩, rfl⟩⟩ d_R_number_32
  · have c11 : (kR (tK ξ len n)) = 2 := (nI_eq (a := (kR (tK ξ len n))) (b := 2) (by omega) (by omega)).mp c11
    refine lv_iload_n X.x X.b d_R_number_14 rfl (lv_at hl 0 rfl) ?_
    refine lv_iload_n X.x X.b d_R_number_15 rfl (lv_at hl 2 rfl) ?_
    refine lv_iload_n X.x X.b d_R_number_16 rfl (lv_at hl 3 rfl) ?_
    refine q_csi X (c_R_within l E S (tV ξ len n) (nI lo) (nI hi)) hW ok_R_within mw_757 ⟨by decide, by decide⟩ (As := [.int (tV ξ len n), .int (nI lo), .int (nI hi)]) rfl rfl (Nat.le_of_ble_eq_true rfl) (lv := [(3, .int (tV ξ len n)), (0, .ref (eA E 70)), (1, .int (nI lo)), (2, .int (nI hi))]) hl ⟨Nat.le_refl 0, Nat.le_refl 0⟩ d_R_number_17 (fun H locs hW => ?_)
    refine lv_if_eq (tgt := 27) X.x X.b d_R_number_20 (by decide) (fun c20 => ?_) (fun c20 => ?_)
    · have c20 := b2i_e c20
      refine lv_iconst (v := nI 0) X.x X.b d_R_number_27 (by decide) ?_
      refine q_cvvp X (c_R_must_w l E S υ ξ (by rw [hυ]) (by rw [hξ]) len n kp mi ta wa hk (by omega) hlen h0 (nI 0)) hW (q_recv X hW ds_R rfl) ok_R_must mw_1100 ⟨by decide, by decide⟩ (As := [.int (nI 0)]) rfl rfl (Nat.le_of_ble_eq_true rfl) (lv := [(3, .int (tV ξ len n)), (0, .ref (eA E 70)), (1, .int (nI lo)), (2, .int (nI hi))]) hl ⟨Nat.le_refl 0, Nat.le_refl 0⟩ d_R_number_28 (fun H locs Sq28 hP28 hW => ?_)
      obtain ⟨τ28, hτ28, rfl⟩ := hP28
      obtain ⟨kτ28_3, kτ28_6, kτ28_7, kτ28_8, kτ28_9, kτ28_10, kτ28_11, kτ28_14, kτ28_15, kτ28_16⟩ := id hτ28
      have bτ28 := tN_n (σ := ξ) (len := len) (n := n) (by omega)
      have dτ28 := tN_le (σ := ξ) (len := len) (n := n) (by omega)
      have eτ28 := kR_le (σ := ξ) (len := len) (n := n)
      refine lv_iload_n X.x X.b d_R_number_31 rfl (lv_at hl 0 rfl) ?_
      exact q_pzret X rfl hW ⟨rfl, ⟨τ28, ⟨kτ28_3, kτ28_6, kτ28_7, kτ28_8, kτ28_9, kτ28_10, kτ28_11, kτ28_14, kτ28_15, kτ28_16⟩, rfl⟩⟩ d_R_number_32
    · have c20 := b2i_n c20
      refine lv_iconst (v := nI 1) X.x X.b d_R_number_23 (by decide) ?_
      refine lv_goto (tgt := 28) X.x X.b d_R_number_24 (by decide) ?_
      refine q_cvvp X (c_R_must_w l E S υ ξ (by rw [hυ]) (by rw [hξ]) len n kp mi ta wa hk (by omega) hlen h0 (nI 1)) hW (q_recv X hW ds_R rfl) ok_R_must mw_1100 ⟨by decide, by decide⟩ (As := [.int (nI 1)]) rfl rfl (Nat.le_of_ble_eq_true rfl) (lv := [(3, .int (tV ξ len n)), (0, .ref (eA E 70)), (1, .int (nI lo)), (2, .int (nI hi))]) hl ⟨Nat.le_refl 0, Nat.le_refl 0⟩ d_R_number_28 (fun H locs Sq28 hP28 hW => ?_)
      obtain ⟨τ28, hτ28, rfl⟩ := hP28
      obtain ⟨kτ28_3, kτ28_6, kτ28_7, kτ28_8, kτ28_9, kτ28_10, kτ28_11, kτ28_14, kτ28_15, kτ28_16⟩ := id hτ28
      have bτ28 := tN_n (σ := ξ) (len := len) (n := n) (by omega)
      have dτ28 := tN_le (σ := ξ) (len := len) (n := n) (by omega)
      have eτ28 := kR_le (σ := ξ) (len := len) (n := n)
      refine lv_iload_n X.x X.b d_R_number_31 rfl (lv_at hl 0 rfl) ?_
      exact q_pzret X rfl hW ⟨rfl, ⟨τ28, ⟨kτ28_3, kτ28_6, kτ28_7, kτ28_8, kτ28_9, kτ28_10, kτ28_11, kτ28_14, kτ28_15, kτ28_16⟩, rfl⟩⟩ d_R_number_32
set_option maxHeartbeats 1000000 in
set_option maxRecDepth 20000 in
theorem c_R_number_t (l : Launch) (E : QE) (S : QM) (υ ξ : Nat → Int32) (hυ : S 15 = υ) (hξ : S 20 = ξ) (len n : Nat) (kp : Int32) (mi ta wa : Nat) (hk : stK ξ len n kp (nI 0) mi ta wa υ) (hn : n ≤ len) (hlen : len ≤ 120) (h0 : ∀ i, i < len → 0 ≤ ξ i) (lo hi : Nat) (hq : num ξ len n lo hi) : qCPi E l y_R_number prog_7_method_87_code 4 .int 4 [.ref (eA E 70), .int (nI lo), .int (nI hi)] S (tV ξ len n) (stP S ξ len (tN ξ len n) kp (nI 0) mi ta wa) := by
  refine qCPi_of (by decide) (Nat.le_of_ble_eq_true rfl) (fun p e s m below meth c ls X hW hl => ?_)
  have hl : lv_has ls 4 [(0, .ref (eA E 70)), (1, .int (nI lo)), (2, .int (nI hi))] := hl
  obtain ⟨kυ_3, kυ_6, kυ_7, kυ_8, kυ_9, kυ_10, kυ_11, kυ_14, kυ_15, kυ_16⟩ := id hk
  have hb1 := tN_n (σ := ξ) (len := len) (n := n) (by omega)
  have hb2 := tN_le (σ := ξ) (len := len) (n := n) (by omega)
  have hb3 := kR_le (σ := ξ) (len := len) (n := n)
  refine lv_aload_n X.x X.b d_R_number_0 rfl (lv_at hl 0 rfl) ?_
  refine g_geti X hW qj4 rfl _ ds_R 10 (by decide) mw_696 rfl (r0 := 15) (p0 := 10) rfl (v := υ 10) (by rw [hυ]) d_R_number_1 ?_
  rw [kυ_10]
  refine lv_istore_n (lv' := [(3, .int (tV ξ len n)), (0, .ref (eA E 70)), (1, .int (nI lo)), (2, .int (nI hi))]) X.x X.b d_R_number_4 rfl hl (by decide) rfl (fun ls hl => ?_)
  refine lv_aload_n X.x X.b d_R_number_5 rfl (lv_at hl 1 rfl) ?_
  refine lv_aload_n X.x X.b d_R_number_6 rfl (lv_at hl 1 rfl) ?_
  refine g_geti X hW qj4 rfl _ ds_R 9 (by decide) mw_695 rfl (r0 := 15) (p0 := 9) rfl (v := υ 9) (by rw [hυ]) d_R_number_7 ?_
  rw [kυ_9]
  refine lv_iconst (v := nI 2) X.x X.b d_R_number_10 (by decide) ?_
  refine lv_icmp_ne (tgt := 27) X.x X.b d_R_number_11 (by decide) (fun c11 => ?_) (fun c11 => ?_)
  · have c11 : ¬ (kR (tK ξ len n)) = 2 := fun z => c11 ((nI_eq (a := (kR (tK ξ len n))) (b := 2) (by omega) (by omega)).mpr z)
    exact absurd (kR_2.mpr hq.1) c11
  · have c11 : (kR (tK ξ len n)) = 2 := (nI_eq (a := (kR (tK ξ len n))) (b := 2) (by omega) (by omega)).mp c11
    refine lv_iload_n X.x X.b d_R_number_14 rfl (lv_at hl 0 rfl) ?_
    refine lv_iload_n X.x X.b d_R_number_15 rfl (lv_at hl 2 rfl) ?_
    refine lv_iload_n X.x X.b d_R_number_16 rfl (lv_at hl 3 rfl) ?_
    refine q_csi X (c_R_within l E S (tV ξ len n) (nI lo) (nI hi)) hW ok_R_within mw_757 ⟨by decide, by decide⟩ (As := [.int (tV ξ len n), .int (nI lo), .int (nI hi)]) rfl rfl (Nat.le_of_ble_eq_true rfl) (lv := [(3, .int (tV ξ len n)), (0, .ref (eA E 70)), (1, .int (nI lo)), (2, .int (nI hi))]) hl ⟨Nat.le_refl 0, Nat.le_refl 0⟩ d_R_number_17 (fun H locs hW => ?_)
    refine lv_if_eq (tgt := 27) X.x X.b d_R_number_20 (by decide) (fun c20 => ?_) (fun c20 => ?_)
    · have c20 := b2i_e c20
      exact absurd hq.2 c20
    · have c20 := b2i_n c20
      refine lv_iconst (v := nI 1) X.x X.b d_R_number_23 (by decide) ?_
      refine lv_goto (tgt := 28) X.x X.b d_R_number_24 (by decide) ?_
      refine q_cvvp X (c_R_must_t l E S υ ξ (by rw [hυ]) (by rw [hξ]) len n kp mi ta wa hk (by omega) hlen h0) hW (q_recv X hW ds_R rfl) ok_R_must mw_1100 ⟨by decide, by decide⟩ (As := [.int (nI 1)]) rfl rfl (Nat.le_of_ble_eq_true rfl) (lv := [(3, .int (tV ξ len n)), (0, .ref (eA E 70)), (1, .int (nI lo)), (2, .int (nI hi))]) hl ⟨Nat.le_refl 0, Nat.le_refl 0⟩ d_R_number_28 (fun H locs Sq28 hP28 hW => ?_)
      obtain ⟨τ28, hτ28, rfl⟩ := hP28
      obtain ⟨kτ28_3, kτ28_6, kτ28_7, kτ28_8, kτ28_9, kτ28_10, kτ28_11, kτ28_14, kτ28_15, kτ28_16⟩ := id hτ28
      have bτ28 := tN_n (σ := ξ) (len := len) (n := tN ξ len n) (by omega)
      have dτ28 := tN_le (σ := ξ) (len := len) (n := tN ξ len n) (by omega)
      have eτ28 := kR_le (σ := ξ) (len := len) (n := tN ξ len n)
      refine lv_iload_n X.x X.b d_R_number_31 rfl (lv_at hl 0 rfl) ?_
      exact q_pzret X rfl hW ⟨rfl, ⟨τ28, ⟨kτ28_3, kτ28_6, kτ28_7, kτ28_8, kτ28_9, kτ28_10, kτ28_11, kτ28_14, kτ28_15, kτ28_16⟩, rfl⟩⟩ d_R_number_32
set_option maxHeartbeats 1000000 in
set_option maxRecDepth 20000 in
theorem c_R_number_f (l : Launch) (E : QE) (S : QM) (υ ξ : Nat → Int32) (hυ : S 15 = υ) (hξ : S 20 = ξ) (len n : Nat) (kp : Int32) (mi ta wa : Nat) (hk : stK ξ len n kp (nI 0) mi ta wa υ) (hn : n ≤ len) (hlen : len ≤ 120) (h0 : ∀ i, i < len → 0 ≤ ξ i) (lo hi : Nat) (hq : ¬ num ξ len n lo hi) : qCPi E l y_R_number prog_7_method_87_code 4 .int 4 [.ref (eA E 70), .int (nI lo), .int (nI hi)] S (tV ξ len n) (stP S ξ len (n) kp (nI 1) mi ta wa) := by
  refine qCPi_of (by decide) (Nat.le_of_ble_eq_true rfl) (fun p e s m below meth c ls X hW hl => ?_)
  have hl : lv_has ls 4 [(0, .ref (eA E 70)), (1, .int (nI lo)), (2, .int (nI hi))] := hl
  obtain ⟨kυ_3, kυ_6, kυ_7, kυ_8, kυ_9, kυ_10, kυ_11, kυ_14, kυ_15, kυ_16⟩ := id hk
  have hb1 := tN_n (σ := ξ) (len := len) (n := n) (by omega)
  have hb2 := tN_le (σ := ξ) (len := len) (n := n) (by omega)
  have hb3 := kR_le (σ := ξ) (len := len) (n := n)
  refine lv_aload_n X.x X.b d_R_number_0 rfl (lv_at hl 0 rfl) ?_
  refine g_geti X hW qj4 rfl _ ds_R 10 (by decide) mw_696 rfl (r0 := 15) (p0 := 10) rfl (v := υ 10) (by rw [hυ]) d_R_number_1 ?_
  rw [kυ_10]
  refine lv_istore_n (lv' := [(3, .int (tV ξ len n)), (0, .ref (eA E 70)), (1, .int (nI lo)), (2, .int (nI hi))]) X.x X.b d_R_number_4 rfl hl (by decide) rfl (fun ls hl => ?_)
  refine lv_aload_n X.x X.b d_R_number_5 rfl (lv_at hl 1 rfl) ?_
  refine lv_aload_n X.x X.b d_R_number_6 rfl (lv_at hl 1 rfl) ?_
  refine g_geti X hW qj4 rfl _ ds_R 9 (by decide) mw_695 rfl (r0 := 15) (p0 := 9) rfl (v := υ 9) (by rw [hυ]) d_R_number_7 ?_
  rw [kυ_9]
  refine lv_iconst (v := nI 2) X.x X.b d_R_number_10 (by decide) ?_
  refine lv_icmp_ne (tgt := 27) X.x X.b d_R_number_11 (by decide) (fun c11 => ?_) (fun c11 => ?_)
  · have c11 : ¬ (kR (tK ξ len n)) = 2 := fun z => c11 ((nI_eq (a := (kR (tK ξ len n))) (b := 2) (by omega) (by omega)).mpr z)
    refine lv_iconst (v := nI 0) X.x X.b d_R_number_27 (by decide) ?_
    refine q_cvvp X (c_R_must_f l E S υ ξ (by rw [hυ]) (by rw [hξ]) len n kp mi ta wa hk (by omega) hlen h0) hW (q_recv X hW ds_R rfl) ok_R_must mw_1100 ⟨by decide, by decide⟩ (As := [.int (nI 0)]) rfl rfl (Nat.le_of_ble_eq_true rfl) (lv := [(3, .int (tV ξ len n)), (0, .ref (eA E 70)), (1, .int (nI lo)), (2, .int (nI hi))]) hl ⟨Nat.le_refl 0, Nat.le_refl 0⟩ d_R_number_28 (fun H locs Sq28 hP28 hW => ?_)
    obtain ⟨τ28, hτ28, rfl⟩ := hP28
    obtain ⟨kτ28_3, kτ28_6, kτ28_7, kτ28_8, kτ28_9, kτ28_10, kτ28_11, kτ28_14, kτ28_15, kτ28_16⟩ := id hτ28
    have bτ28 := tN_n (σ := ξ) (len := len) (n := n) (by omega)
    have dτ28 := tN_le (σ := ξ) (len := len) (n := n) (by omega)
    have eτ28 := kR_le (σ := ξ) (len := len) (n := n)
    refine lv_iload_n X.x X.b d_R_number_31 rfl (lv_at hl 0 rfl) ?_
    exact q_pzret X rfl hW ⟨rfl, ⟨τ28, ⟨kτ28_3, kτ28_6, kτ28_7, kτ28_8, kτ28_9, kτ28_10, kτ28_11, kτ28_14, kτ28_15, kτ28_16⟩, rfl⟩⟩ d_R_number_32
  · have c11 : (kR (tK ξ len n)) = 2 := (nI_eq (a := (kR (tK ξ len n))) (b := 2) (by omega) (by omega)).mp c11
    refine lv_iload_n X.x X.b d_R_number_14 rfl (lv_at hl 0 rfl) ?_
    refine lv_iload_n X.x X.b d_R_number_15 rfl (lv_at hl 2 rfl) ?_
    refine lv_iload_n X.x X.b d_R_number_16 rfl (lv_at hl 3 rfl) ?_
    refine q_csi X (c_R_within l E S (tV ξ len n) (nI lo) (nI hi)) hW ok_R_within mw_757 ⟨by decide, by decide⟩ (As := [.int (tV ξ len n), .int (nI lo), .int (nI hi)]) rfl rfl (Nat.le_of_ble_eq_true rfl) (lv := [(3, .int (tV ξ len n)), (0, .ref (eA E 70)), (1, .int (nI lo)), (2, .int (nI hi))]) hl ⟨Nat.le_refl 0, Nat.le_refl 0⟩ d_R_number_17 (fun H locs hW => ?_)
    refine lv_if_eq (tgt := 27) X.x X.b d_R_number_20 (by decide) (fun c20 => ?_) (fun c20 => ?_)
    · have c20 := b2i_e c20
      refine lv_iconst (v := nI 0) X.x X.b d_R_number_27 (by decide) ?_
      refine q_cvvp X (c_R_must_f l E S υ ξ (by rw [hυ]) (by rw [hξ]) len n kp mi ta wa hk (by omega) hlen h0) hW (q_recv X hW ds_R rfl) ok_R_must mw_1100 ⟨by decide, by decide⟩ (As := [.int (nI 0)]) rfl rfl (Nat.le_of_ble_eq_true rfl) (lv := [(3, .int (tV ξ len n)), (0, .ref (eA E 70)), (1, .int (nI lo)), (2, .int (nI hi))]) hl ⟨Nat.le_refl 0, Nat.le_refl 0⟩ d_R_number_28 (fun H locs Sq28 hP28 hW => ?_)
      obtain ⟨τ28, hτ28, rfl⟩ := hP28
      obtain ⟨kτ28_3, kτ28_6, kτ28_7, kτ28_8, kτ28_9, kτ28_10, kτ28_11, kτ28_14, kτ28_15, kτ28_16⟩ := id hτ28
      have bτ28 := tN_n (σ := ξ) (len := len) (n := n) (by omega)
      have dτ28 := tN_le (σ := ξ) (len := len) (n := n) (by omega)
      have eτ28 := kR_le (σ := ξ) (len := len) (n := n)
      refine lv_iload_n X.x X.b d_R_number_31 rfl (lv_at hl 0 rfl) ?_
      exact q_pzret X rfl hW ⟨rfl, ⟨τ28, ⟨kτ28_3, kτ28_6, kτ28_7, kτ28_8, kτ28_9, kτ28_10, kτ28_11, kτ28_14, kτ28_15, kτ28_16⟩, rfl⟩⟩ d_R_number_32
    · have c20 := b2i_n c20
      exact absurd ⟨kR_2.mp c11, c20⟩ hq
set_option maxHeartbeats 1000000 in
set_option maxRecDepth 20000 in
theorem c_R_isWord (l : Launch) (E : QE) (S : QM) (υ ξ : Nat → Int32) (hυ : S 15 = υ) (hξ : S 20 = ξ) (len n : Nat) (kp w0 : Int32) (mi ta wa : Nat) (hk : stK ξ len n kp w0 mi ta wa υ) (hn : n ≤ len) (hlen : len ≤ 120) (h0 : ∀ i, i < len → 0 ≤ ξ i) (i : Nat) (hi : i < 11) : qCI E l y_R_isWord prog_7_method_85_code 4 .boolean 5 [.ref (eA E 70), .ref (eK E i)] S (b2i (wrd ξ len n i)) S := by
  refine qCI_of (by decide) (Nat.le_of_ble_eq_true rfl) (fun p e s m below meth c ls X hW hl => ?_)
  have hl : lv_has ls 4 [(0, .ref (eA E 70)), (1, .ref (eK E i))] := hl
  obtain ⟨kυ_3, kυ_6, kυ_7, kυ_8, kυ_9, kυ_10, kυ_11, kυ_14, kυ_15, kυ_16⟩ := id hk
  have hb1 := tN_n (σ := ξ) (len := len) (n := n) (by omega)
  have hb2 := tN_le (σ := ξ) (len := len) (n := n) (by omega)
  have hb3 := kR_le (σ := ξ) (len := len) (n := n)
  have hsl := strL_all i hi
  refine lv_aload_n X.x X.b d_R_isWord_0 rfl (lv_at hl 0 rfl) ?_
  refine g_geti X hW qj4 rfl _ ds_R 9 (by decide) mw_695 rfl (r0 := 15) (p0 := 9) rfl (v := υ 9) (by rw [hυ]) d_R_isWord_1 ?_
  rw [kυ_9]
  refine lv_iconst (v := nI 1) X.x X.b d_R_isWord_4 (by decide) ?_
  refine lv_icmp_ne (tgt := 28) X.x X.b d_R_isWord_5 (by decide) (fun c5 => ?_) (fun c5 => ?_)
  · have c5 : ¬ (kR (tK ξ len n)) = 1 := fun z => c5 ((nI_eq (a := (kR (tK ξ len n))) (b := 1) (by omega) (by omega)).mpr z)
    refine lv_iconst (v := nI 0) X.x X.b d_R_isWord_28 (by decide) ?_
    refine lv_istore_n (lv' := [(2, .int (nI 0)), (0, .ref (eA E 70)), (1, .ref (eK E i))]) X.x X.b d_R_isWord_29 rfl hl (by decide) rfl (fun ls hl => ?_)
    refine lv_iconst (v := nI 0) X.x X.b d_R_isWord_30 (by decide) ?_
    refine lv_istore_n (lv' := [(3, .int (nI 0)), (2, .int (nI 0)), (0, .ref (eA E 70)), (1, .ref (eK E i))]) X.x X.b d_R_isWord_31 rfl hl (by decide) rfl (fun ls hl => ?_)
    have loop32 : ∀ (fu32 : Nat) (k : Nat) (a : Int32), k ≤ strL.getD i 0 → a = b2i ((tK ξ len n = 1 ∧ tN ξ len n - tS ξ len n = strL.getD i 0) ∧ ∀ q, q < k → ξ (tS ξ len n + q) = (strB.getD i []).getD q 0) → strL.getD i 0 - k < fu32 → ∀ (H : Heap) (locs : List Loc) (ls : Array Slot), qWH E S s H locs → lv_has ls 4 [(3, .int (nI k)), (2, .int a), (0, .ref (eA E 70)), (1, .ref (eK E i))] → W p l e (qRm 5) s m ([.ref (eA E 70), .ref (eK E i)] : List Value).toArray below meth c H locs 0 0 (MQ below (qQi E (b2i (wrd ξ len n i)) S s.heap.size) ([.ref (eA E 70), .ref (eK E i)] : List Value).toArray s 0 0 (qAA E s.heap.size)) (F0 m 32 ls []) := by
      intro fu32
      induction fu32 with
      | zero =>
        intro k a hkl ha hfu
        exact absurd hfu (Nat.not_lt_zero _)
      | succ fu32 ih32 =>
        intro k a hkl ha hfu H locs ls hW hl
        refine lv_iload_n X.x X.b d_R_isWord_32 rfl (lv_at hl 0 rfl) ?_
        refine lv_aload_n X.x X.b d_R_isWord_33 rfl (lv_at hl 3 rfl) ?_
        refine q_cvi X (c_Js_length l E S i (by omega)) hW (q_recvS X hW (by omega)) ok_Js_length mw_1094 ⟨by decide, by decide⟩ (As := []) rfl rfl (Nat.le_of_ble_eq_true rfl) (lv := [(3, .int (nI k)), (2, .int a), (0, .ref (eA E 70)), (1, .ref (eK E i))]) hl ⟨Nat.le_refl 0, Nat.le_refl 0⟩ d_R_isWord_34 (fun H locs hW => ?_)
        refine lv_icmp_ge (tgt := 75) X.x X.b d_R_isWord_37 (by decide) (fun c37 => ?_) (fun c37 => ?_)
        · have c37 : (strL.getD i 0) ≤ k := (nI_leI (a := (strL.getD i 0)) (b := k) (by omega) (by omega)).mp c37
          refine lv_iload_n X.x X.b d_R_isWord_75 rfl (lv_at hl 1 rfl) ?_
          exact q_zret X (by rw [ha]; exact b2i_z) hW ⟨by rw [ha, show k = strL.getD i 0 by omega]; exact b2i_c ⟨fun z => ⟨z.1.1, z.1.2, z.2⟩, fun z => ⟨⟨z.1, z.2.1⟩, z.2.2⟩⟩, rfl⟩ d_R_isWord_76
        · have c37 : ¬ (strL.getD i 0) ≤ k := fun z => c37 ((nI_leI (a := (strL.getD i 0)) (b := k) (by omega) (by omega)).mpr z)
          refine lv_iload_n X.x X.b d_R_isWord_40 rfl (lv_at hl 1 rfl) ?_
          refine lv_if_eq (tgt := 75) X.x X.b d_R_isWord_41 (by decide) (fun c41 => ?_) (fun c41 => ?_)
          · refine lv_iload_n X.x X.b d_R_isWord_75 rfl (lv_at hl 1 rfl) ?_
            exact q_zret X (by rw [ha]; exact b2i_z) hW ⟨by rw [c41]; exact (b2i_f (fun z => (b2i_e (ha ▸ c41 : b2i ((tK ξ len n = 1 ∧ tN ξ len n - tS ξ len n = strL.getD i 0) ∧ ∀ q, q < k → ξ (tS ξ len n + q) = (strB.getD i []).getD q 0) = 0)) ⟨⟨z.1, z.2.1⟩, fun q hq => z.2.2 q (by omega)⟩)).symm, rfl⟩ d_R_isWord_76
          · have hX := b2i_n (ha ▸ c41)
            have hH := hX.1
            have hA := hX.2
            have hH2 := hH.2
            refine lv_aload_n X.x X.b d_R_isWord_44 rfl (lv_at hl 2 rfl) ?_
            refine q_getr X hW qj4 rfl _ ds_R 5 (by decide) mw_691 rfl (c1 := 75) rfl d_R_isWord_45 ?_
            refine lv_aload_n X.x X.b d_R_isWord_48 rfl (lv_at hl 2 rfl) ?_
            refine g_geti X hW qj4 rfl _ ds_R 7 (by decide) mw_693 rfl (r0 := 15) (p0 := 7) rfl (v := υ 7) (by rw [hυ]) d_R_isWord_49 ?_
            rw [kυ_7]
            refine lv_iload_n X.x X.b d_R_isWord_52 rfl (lv_at hl 0 rfl) ?_
            refine lv_iadd X.x X.b d_R_isWord_53 ?_
            rw [nI_add]
            refine g_ald X hW ds_75 (q_in (by omega) (by decide)) (p0 := (tS ξ len n) + k) (q_tn (by omega) (by omega)) (v := ξ ((tS ξ len n) + k)) (by rw [hξ]) d_R_isWord_54 ?_
            refine lv_aload_n X.x X.b d_R_isWord_55 rfl (lv_at hl 3 rfl) ?_
            refine lv_iload_n X.x X.b d_R_isWord_56 rfl (lv_at hl 0 rfl) ?_
            refine q_cvi X (c_Js_charAt l E S i (by omega) k (by omega)) hW (q_recvS X hW (by omega)) ok_Js_charAt mw_1095 ⟨by decide, by decide⟩ (As := [.int (nI k)]) rfl rfl (Nat.le_of_ble_eq_true rfl) (lv := [(3, .int (nI k)), (2, .int a), (0, .ref (eA E 70)), (1, .ref (eK E i))]) hl ⟨Nat.le_refl 0, Nat.le_refl 0⟩ d_R_isWord_57 (fun H locs hW => ?_)
            refine lv_icmp_ne (tgt := 67) X.x X.b d_R_isWord_60 (by decide) (fun c60 => ?_) (fun c60 => ?_)
            · refine lv_iconst (v := nI 0) X.x X.b d_R_isWord_67 (by decide) ?_
              refine lv_istore_n (lv' := [(2, .int (nI 0)), (3, .int (nI k)), (0, .ref (eA E 70)), (1, .ref (eK E i))]) X.x X.b d_R_isWord_68 rfl hl (by decide) rfl (fun ls hl => ?_)
              refine lv_iinc (v := nI (k + 1)) (lv' := [(3, .int (nI (k + 1))), (2, .int (nI 0)), (0, .ref (eA E 70)), (1, .ref (eK E i))]) X.x X.b d_R_isWord_69 hl (k := 1) rfl (by rw [show Int32.ofInt 1 = nI 1 from by decide, nI_add]) (by decide) rfl (fun ls hl => ?_)
              refine lv_goto (tgt := 32) X.x X.b d_R_isWord_72 (by decide) ?_
              exact ih32 (k + 1) (nI 0) (by omega) (b2i_f (fun z => c60 (z.2 k (by omega)))).symm (by omega) _ _ _ hW (lv_sub hl [0, 1, 2, 3] rfl)
            · refine lv_iconst (v := nI 1) X.x X.b d_R_isWord_63 (by decide) ?_
              refine lv_goto (tgt := 68) X.x X.b d_R_isWord_64 (by decide) ?_
              refine lv_istore_n (lv' := [(2, .int (nI 1)), (3, .int (nI k)), (0, .ref (eA E 70)), (1, .ref (eK E i))]) X.x X.b d_R_isWord_68 rfl hl (by decide) rfl (fun ls hl => ?_)
              refine lv_iinc (v := nI (k + 1)) (lv' := [(3, .int (nI (k + 1))), (2, .int (nI 1)), (0, .ref (eA E 70)), (1, .ref (eK E i))]) X.x X.b d_R_isWord_69 hl (k := 1) rfl (by rw [show Int32.ofInt 1 = nI 1 from by decide, nI_add]) (by decide) rfl (fun ls hl => ?_)
              refine lv_goto (tgt := 32) X.x X.b d_R_isWord_72 (by decide) ?_
              exact ih32 (k + 1) (nI 1) (by omega) (b2i_t ⟨hH, fun q hq => by rcases Nat.lt_succ_iff_lt_or_eq.mp hq with z | z; exact hA q z; subst z; exact c60⟩).symm (by omega) _ _ _ hW (lv_sub hl [0, 1, 2, 3] rfl)
    exact loop32 (strL.getD i 0 - 0 + 1) 0 (nI 0) (by omega) (b2i_f (fun z => c5 (kR_1.mpr z.1.1))).symm (Nat.lt_succ_self _) _ _ _ hW (lv_sub hl [0, 1, 2, 3] rfl)
  · have c5 : (kR (tK ξ len n)) = 1 := (nI_eq (a := (kR (tK ξ len n))) (b := 1) (by omega) (by omega)).mp c5
    refine lv_aload_n X.x X.b d_R_isWord_8 rfl (lv_at hl 0 rfl) ?_
    refine g_geti X hW qj4 rfl _ ds_R 8 (by decide) mw_694 rfl (r0 := 15) (p0 := 8) rfl (v := υ 8) (by rw [hυ]) d_R_isWord_9 ?_
    rw [kυ_8]
    refine lv_aload_n X.x X.b d_R_isWord_12 rfl (lv_at hl 0 rfl) ?_
    refine g_geti X hW qj4 rfl _ ds_R 7 (by decide) mw_693 rfl (r0 := 15) (p0 := 7) rfl (v := υ 7) (by rw [hυ]) d_R_isWord_13 ?_
    rw [kυ_7]
    refine lv_isub X.x X.b d_R_isWord_16 ?_
    rw [pk_sub (by omega)]
    refine lv_aload_n X.x X.b d_R_isWord_17 rfl (lv_at hl 1 rfl) ?_
    refine q_cvi X (c_Js_length l E S i (by omega)) hW (q_recvS X hW (by omega)) ok_Js_length mw_1094 ⟨by decide, by decide⟩ (As := []) rfl rfl (Nat.le_of_ble_eq_true rfl) (lv := [(0, .ref (eA E 70)), (1, .ref (eK E i))]) hl ⟨Nat.le_refl 0, Nat.le_refl 0⟩ d_R_isWord_18 (fun H locs hW => ?_)
    refine lv_icmp_ne (tgt := 28) X.x X.b d_R_isWord_21 (by decide) (fun c21 => ?_) (fun c21 => ?_)
    · have c21 : ¬ ((tN ξ len n) - (tS ξ len n)) = (strL.getD i 0) := fun z => c21 ((nI_eq (a := ((tN ξ len n) - (tS ξ len n))) (b := (strL.getD i 0)) (by omega) (by omega)).mpr z)
      refine lv_iconst (v := nI 0) X.x X.b d_R_isWord_28 (by decide) ?_
      refine lv_istore_n (lv' := [(2, .int (nI 0)), (0, .ref (eA E 70)), (1, .ref (eK E i))]) X.x X.b d_R_isWord_29 rfl hl (by decide) rfl (fun ls hl => ?_)
      refine lv_iconst (v := nI 0) X.x X.b d_R_isWord_30 (by decide) ?_
      refine lv_istore_n (lv' := [(3, .int (nI 0)), (2, .int (nI 0)), (0, .ref (eA E 70)), (1, .ref (eK E i))]) X.x X.b d_R_isWord_31 rfl hl (by decide) rfl (fun ls hl => ?_)
      have loop32 : ∀ (fu32 : Nat) (k : Nat) (a : Int32), k ≤ strL.getD i 0 → a = b2i ((tK ξ len n = 1 ∧ tN ξ len n - tS ξ len n = strL.getD i 0) ∧ ∀ q, q < k → ξ (tS ξ len n + q) = (strB.getD i []).getD q 0) → strL.getD i 0 - k < fu32 → ∀ (H : Heap) (locs : List Loc) (ls : Array Slot), qWH E S s H locs → lv_has ls 4 [(3, .int (nI k)), (2, .int a), (0, .ref (eA E 70)), (1, .ref (eK E i))] → W p l e (qRm 5) s m ([.ref (eA E 70), .ref (eK E i)] : List Value).toArray below meth c H locs 0 0 (MQ below (qQi E (b2i (wrd ξ len n i)) S s.heap.size) ([.ref (eA E 70), .ref (eK E i)] : List Value).toArray s 0 0 (qAA E s.heap.size)) (F0 m 32 ls []) := by
        intro fu32
        induction fu32 with
        | zero =>
          intro k a hkl ha hfu
          exact absurd hfu (Nat.not_lt_zero _)
        | succ fu32 ih32 =>
          intro k a hkl ha hfu H locs ls hW hl
          refine lv_iload_n X.x X.b d_R_isWord_32 rfl (lv_at hl 0 rfl) ?_
          refine lv_aload_n X.x X.b d_R_isWord_33 rfl (lv_at hl 3 rfl) ?_
          refine q_cvi X (c_Js_length l E S i (by omega)) hW (q_recvS X hW (by omega)) ok_Js_length mw_1094 ⟨by decide, by decide⟩ (As := []) rfl rfl (Nat.le_of_ble_eq_true rfl) (lv := [(3, .int (nI k)), (2, .int a), (0, .ref (eA E 70)), (1, .ref (eK E i))]) hl ⟨Nat.le_refl 0, Nat.le_refl 0⟩ d_R_isWord_34 (fun H locs hW => ?_)
          refine lv_icmp_ge (tgt := 75) X.x X.b d_R_isWord_37 (by decide) (fun c37 => ?_) (fun c37 => ?_)
          · have c37 : (strL.getD i 0) ≤ k := (nI_leI (a := (strL.getD i 0)) (b := k) (by omega) (by omega)).mp c37
            refine lv_iload_n X.x X.b d_R_isWord_75 rfl (lv_at hl 1 rfl) ?_
            exact q_zret X (by rw [ha]; exact b2i_z) hW ⟨by rw [ha, show k = strL.getD i 0 by omega]; exact b2i_c ⟨fun z => ⟨z.1.1, z.1.2, z.2⟩, fun z => ⟨⟨z.1, z.2.1⟩, z.2.2⟩⟩, rfl⟩ d_R_isWord_76
          · have c37 : ¬ (strL.getD i 0) ≤ k := fun z => c37 ((nI_leI (a := (strL.getD i 0)) (b := k) (by omega) (by omega)).mpr z)
            refine lv_iload_n X.x X.b d_R_isWord_40 rfl (lv_at hl 1 rfl) ?_
            refine lv_if_eq (tgt := 75) X.x X.b d_R_isWord_41 (by decide) (fun c41 => ?_) (fun c41 => ?_)
            · refine lv_iload_n X.x X.b d_R_isWord_75 rfl (lv_at hl 1 rfl) ?_
              exact q_zret X (by rw [ha]; exact b2i_z) hW ⟨by rw [c41]; exact (b2i_f (fun z => (b2i_e (ha ▸ c41 : b2i ((tK ξ len n = 1 ∧ tN ξ len n - tS ξ len n = strL.getD i 0) ∧ ∀ q, q < k → ξ (tS ξ len n + q) = (strB.getD i []).getD q 0) = 0)) ⟨⟨z.1, z.2.1⟩, fun q hq => z.2.2 q (by omega)⟩)).symm, rfl⟩ d_R_isWord_76
            · have hX := b2i_n (ha ▸ c41)
              have hH := hX.1
              have hA := hX.2
              have hH2 := hH.2
              refine lv_aload_n X.x X.b d_R_isWord_44 rfl (lv_at hl 2 rfl) ?_
              refine q_getr X hW qj4 rfl _ ds_R 5 (by decide) mw_691 rfl (c1 := 75) rfl d_R_isWord_45 ?_
              refine lv_aload_n X.x X.b d_R_isWord_48 rfl (lv_at hl 2 rfl) ?_
              refine g_geti X hW qj4 rfl _ ds_R 7 (by decide) mw_693 rfl (r0 := 15) (p0 := 7) rfl (v := υ 7) (by rw [hυ]) d_R_isWord_49 ?_
              rw [kυ_7]
              refine lv_iload_n X.x X.b d_R_isWord_52 rfl (lv_at hl 0 rfl) ?_
              refine lv_iadd X.x X.b d_R_isWord_53 ?_
              rw [nI_add]
              refine g_ald X hW ds_75 (q_in (by omega) (by decide)) (p0 := (tS ξ len n) + k) (q_tn (by omega) (by omega)) (v := ξ ((tS ξ len n) + k)) (by rw [hξ]) d_R_isWord_54 ?_
              refine lv_aload_n X.x X.b d_R_isWord_55 rfl (lv_at hl 3 rfl) ?_
              refine lv_iload_n X.x X.b d_R_isWord_56 rfl (lv_at hl 0 rfl) ?_
              refine q_cvi X (c_Js_charAt l E S i (by omega) k (by omega)) hW (q_recvS X hW (by omega)) ok_Js_charAt mw_1095 ⟨by decide, by decide⟩ (As := [.int (nI k)]) rfl rfl (Nat.le_of_ble_eq_true rfl) (lv := [(3, .int (nI k)), (2, .int a), (0, .ref (eA E 70)), (1, .ref (eK E i))]) hl ⟨Nat.le_refl 0, Nat.le_refl 0⟩ d_R_isWord_57 (fun H locs hW => ?_)
              refine lv_icmp_ne (tgt := 67) X.x X.b d_R_isWord_60 (by decide) (fun c60 => ?_) (fun c60 => ?_)
              · refine lv_iconst (v := nI 0) X.x X.b d_R_isWord_67 (by decide) ?_
                refine lv_istore_n (lv' := [(2, .int (nI 0)), (3, .int (nI k)), (0, .ref (eA E 70)), (1, .ref (eK E i))]) X.x X.b d_R_isWord_68 rfl hl (by decide) rfl (fun ls hl => ?_)
                refine lv_iinc (v := nI (k + 1)) (lv' := [(3, .int (nI (k + 1))), (2, .int (nI 0)), (0, .ref (eA E 70)), (1, .ref (eK E i))]) X.x X.b d_R_isWord_69 hl (k := 1) rfl (by rw [show Int32.ofInt 1 = nI 1 from by decide, nI_add]) (by decide) rfl (fun ls hl => ?_)
                refine lv_goto (tgt := 32) X.x X.b d_R_isWord_72 (by decide) ?_
                exact ih32 (k + 1) (nI 0) (by omega) (b2i_f (fun z => c60 (z.2 k (by omega)))).symm (by omega) _ _ _ hW (lv_sub hl [0, 1, 2, 3] rfl)
              · refine lv_iconst (v := nI 1) X.x X.b d_R_isWord_63 (by decide) ?_
                refine lv_goto (tgt := 68) X.x X.b d_R_isWord_64 (by decide) ?_
                refine lv_istore_n (lv' := [(2, .int (nI 1)), (3, .int (nI k)), (0, .ref (eA E 70)), (1, .ref (eK E i))]) X.x X.b d_R_isWord_68 rfl hl (by decide) rfl (fun ls hl => ?_)
                refine lv_iinc (v := nI (k + 1)) (lv' := [(3, .int (nI (k + 1))), (2, .int (nI 1)), (0, .ref (eA E 70)), (1, .ref (eK E i))]) X.x X.b d_R_isWord_69 hl (k := 1) rfl (by rw [show Int32.ofInt 1 = nI 1 from by decide, nI_add]) (by decide) rfl (fun ls hl => ?_)
                refine lv_goto (tgt := 32) X.x X.b d_R_isWord_72 (by decide) ?_
                exact ih32 (k + 1) (nI 1) (by omega) (b2i_t ⟨hH, fun q hq => by rcases Nat.lt_succ_iff_lt_or_eq.mp hq with z | z; exact hA q z; subst z; exact c60⟩).symm (by omega) _ _ _ hW (lv_sub hl [0, 1, 2, 3] rfl)
      exact loop32 (strL.getD i 0 - 0 + 1) 0 (nI 0) (by omega) (b2i_f (fun z => c21 z.1.2)).symm (Nat.lt_succ_self _) _ _ _ hW (lv_sub hl [0, 1, 2, 3] rfl)
    · have c21 : ((tN ξ len n) - (tS ξ len n)) = (strL.getD i 0) := (nI_eq (a := ((tN ξ len n) - (tS ξ len n))) (b := (strL.getD i 0)) (by omega) (by omega)).mp c21
      refine lv_iconst (v := nI 1) X.x X.b d_R_isWord_24 (by decide) ?_
      refine lv_goto (tgt := 29) X.x X.b d_R_isWord_25 (by decide) ?_
      refine lv_istore_n (lv' := [(2, .int (nI 1)), (0, .ref (eA E 70)), (1, .ref (eK E i))]) X.x X.b d_R_isWord_29 rfl hl (by decide) rfl (fun ls hl => ?_)
      refine lv_iconst (v := nI 0) X.x X.b d_R_isWord_30 (by decide) ?_
      refine lv_istore_n (lv' := [(3, .int (nI 0)), (2, .int (nI 1)), (0, .ref (eA E 70)), (1, .ref (eK E i))]) X.x X.b d_R_isWord_31 rfl hl (by decide) rfl (fun ls hl => ?_)
      have loop32 : ∀ (fu32 : Nat) (k : Nat) (a : Int32), k ≤ strL.getD i 0 → a = b2i ((tK ξ len n = 1 ∧ tN ξ len n - tS ξ len n = strL.getD i 0) ∧ ∀ q, q < k → ξ (tS ξ len n + q) = (strB.getD i []).getD q 0) → strL.getD i 0 - k < fu32 → ∀ (H : Heap) (locs : List Loc) (ls : Array Slot), qWH E S s H locs → lv_has ls 4 [(3, .int (nI k)), (2, .int a), (0, .ref (eA E 70)), (1, .ref (eK E i))] → W p l e (qRm 5) s m ([.ref (eA E 70), .ref (eK E i)] : List Value).toArray below meth c H locs 0 0 (MQ below (qQi E (b2i (wrd ξ len n i)) S s.heap.size) ([.ref (eA E 70), .ref (eK E i)] : List Value).toArray s 0 0 (qAA E s.heap.size)) (F0 m 32 ls []) := by
        intro fu32
        induction fu32 with
        | zero =>
          intro k a hkl ha hfu
          exact absurd hfu (Nat.not_lt_zero _)
        | succ fu32 ih32 =>
          intro k a hkl ha hfu H locs ls hW hl
          refine lv_iload_n X.x X.b d_R_isWord_32 rfl (lv_at hl 0 rfl) ?_
          refine lv_aload_n X.x X.b d_R_isWord_33 rfl (lv_at hl 3 rfl) ?_
          refine q_cvi X (c_Js_length l E S i (by omega)) hW (q_recvS X hW (by omega)) ok_Js_length mw_1094 ⟨by decide, by decide⟩ (As := []) rfl rfl (Nat.le_of_ble_eq_true rfl) (lv := [(3, .int (nI k)), (2, .int a), (0, .ref (eA E 70)), (1, .ref (eK E i))]) hl ⟨Nat.le_refl 0, Nat.le_refl 0⟩ d_R_isWord_34 (fun H locs hW => ?_)
          refine lv_icmp_ge (tgt := 75) X.x X.b d_R_isWord_37 (by decide) (fun c37 => ?_) (fun c37 => ?_)
          · have c37 : (strL.getD i 0) ≤ k := (nI_leI (a := (strL.getD i 0)) (b := k) (by omega) (by omega)).mp c37
            refine lv_iload_n X.x X.b d_R_isWord_75 rfl (lv_at hl 1 rfl) ?_
            exact q_zret X (by rw [ha]; exact b2i_z) hW ⟨by rw [ha, show k = strL.getD i 0 by omega]; exact b2i_c ⟨fun z => ⟨z.1.1, z.1.2, z.2⟩, fun z => ⟨⟨z.1, z.2.1⟩, z.2.2⟩⟩, rfl⟩ d_R_isWord_76
          · have c37 : ¬ (strL.getD i 0) ≤ k := fun z => c37 ((nI_leI (a := (strL.getD i 0)) (b := k) (by omega) (by omega)).mpr z)
            refine lv_iload_n X.x X.b d_R_isWord_40 rfl (lv_at hl 1 rfl) ?_
            refine lv_if_eq (tgt := 75) X.x X.b d_R_isWord_41 (by decide) (fun c41 => ?_) (fun c41 => ?_)
            · refine lv_iload_n X.x X.b d_R_isWord_75 rfl (lv_at hl 1 rfl) ?_
              exact q_zret X (by rw [ha]; exact b2i_z) hW ⟨by rw [c41]; exact (b2i_f (fun z => (b2i_e (ha ▸ c41 : b2i ((tK ξ len n = 1 ∧ tN ξ len n - tS ξ len n = strL.getD i 0) ∧ ∀ q, q < k → ξ (tS ξ len n + q) = (strB.getD i []).getD q 0) = 0)) ⟨⟨z.1, z.2.1⟩, fun q hq => z.2.2 q (by omega)⟩)).symm, rfl⟩ d_R_isWord_76
            · have hX := b2i_n (ha ▸ c41)
              have hH := hX.1
              have hA := hX.2
              have hH2 := hH.2
              refine lv_aload_n X.x X.b d_R_isWord_44 rfl (lv_at hl 2 rfl) ?_
              refine q_getr X hW qj4 rfl _ ds_R 5 (by decide) mw_691 rfl (c1 := 75) rfl d_R_isWord_45 ?_
              refine lv_aload_n X.x X.b d_R_isWord_48 rfl (lv_at hl 2 rfl) ?_
              refine g_geti X hW qj4 rfl _ ds_R 7 (by decide) mw_693 rfl (r0 := 15) (p0 := 7) rfl (v := υ 7) (by rw [hυ]) d_R_isWord_49 ?_
              rw [kυ_7]
              refine lv_iload_n X.x X.b d_R_isWord_52 rfl (lv_at hl 0 rfl) ?_
              refine lv_iadd X.x X.b d_R_isWord_53 ?_
              rw [nI_add]
              refine g_ald X hW ds_75 (q_in (by omega) (by decide)) (p0 := (tS ξ len n) + k) (q_tn (by omega) (by omega)) (v := ξ ((tS ξ len n) + k)) (by rw [hξ]) d_R_isWord_54 ?_
              refine lv_aload_n X.x X.b d_R_isWord_55 rfl (lv_at hl 3 rfl) ?_
              refine lv_iload_n X.x X.b d_R_isWord_56 rfl (lv_at hl 0 rfl) ?_
              refine q_cvi X (c_Js_charAt l E S i (by omega) k (by omega)) hW (q_recvS X hW (by omega)) ok_Js_charAt mw_1095 ⟨by decide, by decide⟩ (As := [.int (nI k)]) rfl rfl (Nat.le_of_ble_eq_true rfl) (lv := [(3, .int (nI k)), (2, .int a), (0, .ref (eA E 70)), (1, .ref (eK E i))]) hl ⟨Nat.le_refl 0, Nat.le_refl 0⟩ d_R_isWord_57 (fun H locs hW => ?_)
              refine lv_icmp_ne (tgt := 67) X.x X.b d_R_isWord_60 (by decide) (fun c60 => ?_) (fun c60 => ?_)
              · refine lv_iconst (v := nI 0) X.x X.b d_R_isWord_67 (by decide) ?_
                refine lv_istore_n (lv' := [(2, .int (nI 0)), (3, .int (nI k)), (0, .ref (eA E 70)), (1, .ref (eK E i))]) X.x X.b d_R_isWord_68 rfl hl (by decide) rfl (fun ls hl => ?_)
                refine lv_iinc (v := nI (k + 1)) (lv' := [(3, .int (nI (k + 1))), (2, .int (nI 0)), (0, .ref (eA E 70)), (1, .ref (eK E i))]) X.x X.b d_R_isWord_69 hl (k := 1) rfl (by rw [show Int32.ofInt 1 = nI 1 from by decide, nI_add]) (by decide) rfl (fun ls hl => ?_)
                refine lv_goto (tgt := 32) X.x X.b d_R_isWord_72 (by decide) ?_
                exact ih32 (k + 1) (nI 0) (by omega) (b2i_f (fun z => c60 (z.2 k (by omega)))).symm (by omega) _ _ _ hW (lv_sub hl [0, 1, 2, 3] rfl)
              · refine lv_iconst (v := nI 1) X.x X.b d_R_isWord_63 (by decide) ?_
                refine lv_goto (tgt := 68) X.x X.b d_R_isWord_64 (by decide) ?_
                refine lv_istore_n (lv' := [(2, .int (nI 1)), (3, .int (nI k)), (0, .ref (eA E 70)), (1, .ref (eK E i))]) X.x X.b d_R_isWord_68 rfl hl (by decide) rfl (fun ls hl => ?_)
                refine lv_iinc (v := nI (k + 1)) (lv' := [(3, .int (nI (k + 1))), (2, .int (nI 1)), (0, .ref (eA E 70)), (1, .ref (eK E i))]) X.x X.b d_R_isWord_69 hl (k := 1) rfl (by rw [show Int32.ofInt 1 = nI 1 from by decide, nI_add]) (by decide) rfl (fun ls hl => ?_)
                refine lv_goto (tgt := 32) X.x X.b d_R_isWord_72 (by decide) ?_
                exact ih32 (k + 1) (nI 1) (by omega) (b2i_t ⟨hH, fun q hq => by rcases Nat.lt_succ_iff_lt_or_eq.mp hq with z | z; exact hA q z; subst z; exact c60⟩).symm (by omega) _ _ _ hW (lv_sub hl [0, 1, 2, 3] rfl)
      exact loop32 (strL.getD i 0 - 0 + 1) 0 (nI 1) (by omega) (b2i_t ⟨⟨kR_1.mp c5, c21⟩, fun q hq => absurd hq (Nat.not_lt_zero q)⟩).symm (Nat.lt_succ_self _) _ _ _ hW (lv_sub hl [0, 1, 2, 3] rfl)
set_option maxHeartbeats 1000000 in
set_option maxRecDepth 20000 in
theorem c_R_takesWord_w (l : Launch) (E : QE) (S : QM) (υ ξ : Nat → Int32) (hυ : S 15 = υ) (hξ : S 20 = ξ) (len n : Nat) (kp : Int32) (mi ta wa : Nat) (hk : stK ξ len n kp (nI 1) mi ta wa υ) (hn : n ≤ len) (hlen : len ≤ 120) (h0 : ∀ i, i < len → 0 ≤ ξ i)  (i : Nat) (hi : i < 11) : qCPi E l y_R_takesWord prog_7_method_89_code 3 .boolean 6 [.ref (eA E 70), .ref (eK E i)] S (nI 0) (stP S ξ len (n) kp (nI 1) mi ta wa) := by
  refine qCPi_of (by decide) (Nat.le_of_ble_eq_true rfl) (fun p e s m below meth c ls X hW hl => ?_)
  have hl : lv_has ls 3 [(0, .ref (eA E 70)), (1, .ref (eK E i))] := hl
  obtain ⟨kυ_3, kυ_6, kυ_7, kυ_8, kυ_9, kυ_10, kυ_11, kυ_14, kυ_15, kυ_16⟩ := id hk
  have hb1 := tN_n (σ := ξ) (len := len) (n := n) (by omega)
  have hb2 := tN_le (σ := ξ) (len := len) (n := n) (by omega)
  have hb3 := kR_le (σ := ξ) (len := len) (n := n)
  refine lv_aload_n X.x X.b d_R_takesWord_0 rfl (lv_at hl 0 rfl) ?_
  refine g_geti X hW qj4 rfl _ ds_R 11 (by decide) mw_697 rfl (r0 := 15) (p0 := 11) rfl (v := υ 11) (by rw [hυ]) d_R_takesWord_1 ?_
  rw [kυ_11]
  refine lv_if_ne (tgt := 19) X.x X.b d_R_takesWord_4 (by decide) (fun c4 => ?_) (fun c4 => ?_)
  · have c4 : ¬ 1 = 0 := fun z => c4 ((nI_eq (a := 1) (b := 0) (by omega) (by omega)).mpr z)
    refine lv_iconst (v := nI 0) X.x X.b d_R_takesWord_19 (by decide) ?_
    refine lv_istore_n (lv' := [(2, .int (nI 0)), (0, .ref (eA E 70)), (1, .ref (eK E i))]) X.x X.b d_R_takesWord_20 rfl hl (by decide) rfl (fun ls hl => ?_)
    refine lv_iload_n X.x X.b d_R_takesWord_21 rfl (lv_at hl 0 rfl) ?_
    refine lv_if_eq (tgt := 30) X.x X.b d_R_takesWord_22 (by decide) (fun c22 => ?_) (fun c22 => ?_)
    · have c22 : 0 = 0 := (nI_eq (a := 0) (b := 0) (by omega) (by omega)).mp c22
      refine lv_iload_n X.x X.b d_R_takesWord_30 rfl (lv_at hl 0 rfl) ?_
      exact q_pzret X (by decide) hW ⟨rfl, ⟨υ, hk, by rw [qr_selfE hυ]⟩⟩ d_R_takesWord_31
    · exact absurd (by decide) c22
  · exact absurd c4 (by decide)
set_option maxHeartbeats 1000000 in
set_option maxRecDepth 20000 in
theorem c_R_takesWord_t (l : Launch) (E : QE) (S : QM) (υ ξ : Nat → Int32) (hυ : S 15 = υ) (hξ : S 20 = ξ) (len n : Nat) (kp : Int32) (mi ta wa : Nat) (hk : stK ξ len n kp (nI 0) mi ta wa υ) (hn : n ≤ len) (hlen : len ≤ 120) (h0 : ∀ i, i < len → 0 ≤ ξ i)  (i : Nat) (hi : i < 11) (hq : wrd ξ len n i) : qCPi E l y_R_takesWord prog_7_method_89_code 3 .boolean 6 [.ref (eA E 70), .ref (eK E i)] S (nI 1) (stP S ξ len (tN ξ len n) kp (nI 0) mi ta wa) := by
  refine qCPi_of (by decide) (Nat.le_of_ble_eq_true rfl) (fun p e s m below meth c ls X hW hl => ?_)
  have hl : lv_has ls 3 [(0, .ref (eA E 70)), (1, .ref (eK E i))] := hl
  obtain ⟨kυ_3, kυ_6, kυ_7, kυ_8, kυ_9, kυ_10, kυ_11, kυ_14, kυ_15, kυ_16⟩ := id hk
  have hb1 := tN_n (σ := ξ) (len := len) (n := n) (by omega)
  have hb2 := tN_le (σ := ξ) (len := len) (n := n) (by omega)
  have hb3 := kR_le (σ := ξ) (len := len) (n := n)
  refine lv_aload_n X.x X.b d_R_takesWord_0 rfl (lv_at hl 0 rfl) ?_
  refine g_geti X hW qj4 rfl _ ds_R 11 (by decide) mw_697 rfl (r0 := 15) (p0 := 11) rfl (v := υ 11) (by rw [hυ]) d_R_takesWord_1 ?_
  rw [kυ_11]
  refine lv_if_ne (tgt := 19) X.x X.b d_R_takesWord_4 (by decide) (fun c4 => ?_) (fun c4 => ?_)
  · exact absurd (by decide) c4
  · have c4 : 0 = 0 := (nI_eq (a := 0) (b := 0) (by omega) (by omega)).mp c4
    refine lv_aload_n X.x X.b d_R_takesWord_7 rfl (lv_at hl 0 rfl) ?_
    refine lv_aload_n X.x X.b d_R_takesWord_8 rfl (lv_at hl 1 rfl) ?_
    refine q_cvi X (c_R_isWord l E S υ ξ (by rw [hυ]) (by rw [hξ]) len n kp (nI 0) mi ta wa hk (by omega) hlen h0 i (by omega)) hW (q_recv X hW ds_R rfl) ok_R_isWord mw_1090 ⟨by decide, by decide⟩ (As := [.ref (eK E i)]) rfl rfl (Nat.le_of_ble_eq_true rfl) (lv := [(0, .ref (eA E 70)), (1, .ref (eK E i))]) hl ⟨Nat.le_refl 0, Nat.le_refl 0⟩ d_R_takesWord_9 (fun H locs hW => ?_)
    refine lv_if_eq (tgt := 19) X.x X.b d_R_takesWord_12 (by decide) (fun c12 => ?_) (fun c12 => ?_)
    · have c12 := b2i_e c12
      exact absurd hq c12
    · have c12 := b2i_n c12
      refine lv_iconst (v := nI 1) X.x X.b d_R_takesWord_15 (by decide) ?_
      refine lv_goto (tgt := 20) X.x X.b d_R_takesWord_16 (by decide) ?_
      refine lv_istore_n (lv' := [(2, .int (nI 1)), (0, .ref (eA E 70)), (1, .ref (eK E i))]) X.x X.b d_R_takesWord_20 rfl hl (by decide) rfl (fun ls hl => ?_)
      refine lv_iload_n X.x X.b d_R_takesWord_21 rfl (lv_at hl 0 rfl) ?_
      refine lv_if_eq (tgt := 30) X.x X.b d_R_takesWord_22 (by decide) (fun c22 => ?_) (fun c22 => ?_)
      · exact absurd c22 (by decide)
      · have c22 : ¬ 1 = 0 := fun z => c22 ((nI_eq (a := 1) (b := 0) (by omega) (by omega)).mpr z)
        refine lv_aload_n X.x X.b d_R_takesWord_25 rfl (lv_at hl 1 rfl) ?_
        refine lv_iconst (v := nI 1) X.x X.b d_R_takesWord_26 (by decide) ?_
        refine q_cvvp X (c_R_must_t l E S υ ξ (by rw [hυ]) (by rw [hξ]) len n kp mi ta wa hk (by omega) hlen h0) hW (q_recv X hW ds_R rfl) ok_R_must mw_1100 ⟨by decide, by decide⟩ (As := [.int (nI 1)]) rfl rfl (Nat.le_of_ble_eq_true rfl) (lv := [(2, .int (nI 1)), (0, .ref (eA E 70)), (1, .ref (eK E i))]) hl ⟨Nat.le_refl 0, Nat.le_refl 0⟩ d_R_takesWord_27 (fun H locs Sq27 hP27 hW => ?_)
        obtain ⟨τ27, hτ27, rfl⟩ := hP27
        obtain ⟨kτ27_3, kτ27_6, kτ27_7, kτ27_8, kτ27_9, kτ27_10, kτ27_11, kτ27_14, kτ27_15, kτ27_16⟩ := id hτ27
        have bτ27 := tN_n (σ := ξ) (len := len) (n := tN ξ len n) (by omega)
        have dτ27 := tN_le (σ := ξ) (len := len) (n := tN ξ len n) (by omega)
        have eτ27 := kR_le (σ := ξ) (len := len) (n := tN ξ len n)
        refine lv_iload_n X.x X.b d_R_takesWord_30 rfl (lv_at hl 0 rfl) ?_
        exact q_pzret X (by decide) hW ⟨rfl, ⟨τ27, ⟨kτ27_3, kτ27_6, kτ27_7, kτ27_8, kτ27_9, kτ27_10, kτ27_11, kτ27_14, kτ27_15, kτ27_16⟩, rfl⟩⟩ d_R_takesWord_31
set_option maxHeartbeats 1000000 in
set_option maxRecDepth 20000 in
theorem c_R_takesWord_f (l : Launch) (E : QE) (S : QM) (υ ξ : Nat → Int32) (hυ : S 15 = υ) (hξ : S 20 = ξ) (len n : Nat) (kp : Int32) (mi ta wa : Nat) (hk : stK ξ len n kp (nI 0) mi ta wa υ) (hn : n ≤ len) (hlen : len ≤ 120) (h0 : ∀ i, i < len → 0 ≤ ξ i)  (i : Nat) (hi : i < 11) (hq : ¬ wrd ξ len n i) : qCPi E l y_R_takesWord prog_7_method_89_code 3 .boolean 6 [.ref (eA E 70), .ref (eK E i)] S (nI 0) (stP S ξ len (n) kp (nI 0) mi ta wa) := by
  refine qCPi_of (by decide) (Nat.le_of_ble_eq_true rfl) (fun p e s m below meth c ls X hW hl => ?_)
  have hl : lv_has ls 3 [(0, .ref (eA E 70)), (1, .ref (eK E i))] := hl
  obtain ⟨kυ_3, kυ_6, kυ_7, kυ_8, kυ_9, kυ_10, kυ_11, kυ_14, kυ_15, kυ_16⟩ := id hk
  have hb1 := tN_n (σ := ξ) (len := len) (n := n) (by omega)
  have hb2 := tN_le (σ := ξ) (len := len) (n := n) (by omega)
  have hb3 := kR_le (σ := ξ) (len := len) (n := n)
  refine lv_aload_n X.x X.b d_R_takesWord_0 rfl (lv_at hl 0 rfl) ?_
  refine g_geti X hW qj4 rfl _ ds_R 11 (by decide) mw_697 rfl (r0 := 15) (p0 := 11) rfl (v := υ 11) (by rw [hυ]) d_R_takesWord_1 ?_
  rw [kυ_11]
  refine lv_if_ne (tgt := 19) X.x X.b d_R_takesWord_4 (by decide) (fun c4 => ?_) (fun c4 => ?_)
  · exact absurd (by decide) c4
  · have c4 : 0 = 0 := (nI_eq (a := 0) (b := 0) (by omega) (by omega)).mp c4
    refine lv_aload_n X.x X.b d_R_takesWord_7 rfl (lv_at hl 0 rfl) ?_
    refine lv_aload_n X.x X.b d_R_takesWord_8 rfl (lv_at hl 1 rfl) ?_
    refine q_cvi X (c_R_isWord l E S υ ξ (by rw [hυ]) (by rw [hξ]) len n kp (nI 0) mi ta wa hk (by omega) hlen h0 i (by omega)) hW (q_recv X hW ds_R rfl) ok_R_isWord mw_1090 ⟨by decide, by decide⟩ (As := [.ref (eK E i)]) rfl rfl (Nat.le_of_ble_eq_true rfl) (lv := [(0, .ref (eA E 70)), (1, .ref (eK E i))]) hl ⟨Nat.le_refl 0, Nat.le_refl 0⟩ d_R_takesWord_9 (fun H locs hW => ?_)
    refine lv_if_eq (tgt := 19) X.x X.b d_R_takesWord_12 (by decide) (fun c12 => ?_) (fun c12 => ?_)
    · have c12 := b2i_e c12
      refine lv_iconst (v := nI 0) X.x X.b d_R_takesWord_19 (by decide) ?_
      refine lv_istore_n (lv' := [(2, .int (nI 0)), (0, .ref (eA E 70)), (1, .ref (eK E i))]) X.x X.b d_R_takesWord_20 rfl hl (by decide) rfl (fun ls hl => ?_)
      refine lv_iload_n X.x X.b d_R_takesWord_21 rfl (lv_at hl 0 rfl) ?_
      refine lv_if_eq (tgt := 30) X.x X.b d_R_takesWord_22 (by decide) (fun c22 => ?_) (fun c22 => ?_)
      · have c22 : 0 = 0 := (nI_eq (a := 0) (b := 0) (by omega) (by omega)).mp c22
        refine lv_iload_n X.x X.b d_R_takesWord_30 rfl (lv_at hl 0 rfl) ?_
        exact q_pzret X (by decide) hW ⟨rfl, ⟨υ, hk, by rw [qr_selfE hυ]⟩⟩ d_R_takesWord_31
      · exact absurd (by decide) c22
    · have c12 := b2i_n c12
      exact absurd c12 hq
