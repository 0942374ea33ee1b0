theorem d_Js_coder_0 : decode prog_10_method_152_code 0 = .ok (.getstatic 38, 3) := by decide +kernel
theorem d_Js_coder_3 : decode prog_10_method_152_code 3 = .ok (.ifCond .eq 10, 3) := by decide +kernel
theorem d_Js_coder_6 : decode prog_10_method_152_code 6 = .ok (.aload_n 0, 1) := by decide +kernel
theorem d_Js_coder_7 : decode prog_10_method_152_code 7 = .ok (.getfield 15, 3) := by decide +kernel
theorem d_Js_coder_10 : decode prog_10_method_152_code 10 = .ok (.goto 4, 3) := by decide +kernel
theorem d_Js_coder_14 : decode prog_10_method_152_code 14 = .ok (.ireturn, 1) := by decide +kernel
theorem d_Js_isLatin1_0 : decode prog_10_method_154_code 0 = .ok (.getstatic 38, 3) := by decide +kernel
theorem d_Js_isLatin1_3 : decode prog_10_method_154_code 3 = .ok (.ifCond .eq 14, 3) := by decide +kernel
theorem d_Js_isLatin1_6 : decode prog_10_method_154_code 6 = .ok (.aload_n 0, 1) := by decide +kernel
theorem d_Js_isLatin1_7 : decode prog_10_method_154_code 7 = .ok (.getfield 15, 3) := by decide +kernel
theorem d_Js_isLatin1_10 : decode prog_10_method_154_code 10 = .ok (.ifCond .ne 7, 3) := by decide +kernel
theorem d_Js_isLatin1_13 : decode prog_10_method_154_code 13 = .ok (.iconst 1, 1) := by decide +kernel
theorem d_Js_isLatin1_14 : decode prog_10_method_154_code 14 = .ok (.goto 4, 3) := by decide +kernel
theorem d_Js_isLatin1_18 : decode prog_10_method_154_code 18 = .ok (.ireturn, 1) := by decide +kernel
theorem d_Js_length_0 : decode prog_10_method_54_code 0 = .ok (.aload_n 0, 1) := by decide +kernel
theorem d_Js_length_1 : decode prog_10_method_54_code 1 = .ok (.getfield 9, 3) := by decide +kernel
theorem d_Js_length_4 : decode prog_10_method_54_code 4 = .ok (.arraylength, 1) := by decide +kernel
theorem d_Js_length_5 : decode prog_10_method_54_code 5 = .ok (.aload_n 0, 1) := by decide +kernel
theorem d_Js_length_6 : decode prog_10_method_54_code 6 = .ok (.invokevirtual 335, 3) := by decide +kernel
theorem d_Js_length_9 : decode prog_10_method_54_code 9 = .ok (.ishr, 1) := by decide +kernel
theorem d_Js_length_10 : decode prog_10_method_54_code 10 = .ok (.ireturn, 1) := by decide +kernel
theorem d_Jp_checkIndex_0 : decode prog_15_method_11_code 0 = .ok (.iload_n 0, 1) := by decide +kernel
theorem d_Jp_checkIndex_1 : decode prog_15_method_11_code 1 = .ok (.ifCond .lt 8, 3) := by decide +kernel
theorem d_Jp_checkIndex_4 : decode prog_15_method_11_code 4 = .ok (.iload_n 0, 1) := by decide +kernel
theorem d_Jp_checkIndex_5 : decode prog_15_method_11_code 5 = .ok (.iload_n 1, 1) := by decide +kernel
theorem d_Jp_checkIndex_6 : decode prog_15_method_11_code 6 = .ok (.if_icmp .lt 10, 3) := by decide +kernel
theorem d_Jp_checkIndex_16 : decode prog_15_method_11_code 16 = .ok (.iload_n 0, 1) := by decide +kernel
theorem d_Jp_checkIndex_17 : decode prog_15_method_11_code 17 = .ok (.ireturn, 1) := by decide +kernel
theorem d_Js_checkIndex_0 : decode prog_10_method_155_code 0 = .ok (.iload_n 0, 1) := by decide +kernel
theorem d_Js_checkIndex_1 : decode prog_10_method_155_code 1 = .ok (.iload_n 1, 1) := by decide +kernel
theorem d_Js_checkIndex_2 : decode prog_10_method_155_code 2 = .ok (.getstatic 1053, 3) := by decide +kernel
theorem d_Js_checkIndex_5 : decode prog_10_method_155_code 5 = .ok (.invokestatic 1059, 3) := by decide +kernel
theorem d_Js_checkIndex_8 : decode prog_10_method_155_code 8 = .ok (.pop, 1) := by decide +kernel
theorem d_Js_checkIndex_9 : decode prog_10_method_155_code 9 = .ok (.return_, 1) := by decide +kernel
theorem d_Jl_charAt_0 : decode prog_11_method_2_code 0 = .ok (.iload_n 1, 1) := by decide +kernel
theorem d_Jl_charAt_1 : decode prog_11_method_2_code 1 = .ok (.aload_n 0, 1) := by decide +kernel
theorem d_Jl_charAt_2 : decode prog_11_method_2_code 2 = .ok (.arraylength, 1) := by decide +kernel
theorem d_Jl_charAt_3 : decode prog_11_method_2_code 3 = .ok (.invokestatic 9, 3) := by decide +kernel
theorem d_Jl_charAt_6 : decode prog_11_method_2_code 6 = .ok (.aload_n 0, 1) := by decide +kernel
theorem d_Jl_charAt_7 : decode prog_11_method_2_code 7 = .ok (.iload_n 1, 1) := by decide +kernel
theorem d_Jl_charAt_8 : decode prog_11_method_2_code 8 = .ok (.baload, 1) := by decide +kernel
theorem d_Jl_charAt_9 : decode prog_11_method_2_code 9 = .ok (.sipush 255, 3) := by decide +kernel
theorem d_Jl_charAt_12 : decode prog_11_method_2_code 12 = .ok (.iand, 1) := by decide +kernel
theorem d_Jl_charAt_13 : decode prog_11_method_2_code 13 = .ok (.i2c, 1) := by decide +kernel
theorem d_Jl_charAt_14 : decode prog_11_method_2_code 14 = .ok (.ireturn, 1) := by decide +kernel
theorem d_Js_charAt_0 : decode prog_10_method_56_code 0 = .ok (.aload_n 0, 1) := by decide +kernel
theorem d_Js_charAt_1 : decode prog_10_method_56_code 1 = .ok (.invokevirtual 492, 3) := by decide +kernel
theorem d_Js_charAt_4 : decode prog_10_method_56_code 4 = .ok (.ifCond .eq 12, 3) := by decide +kernel
theorem d_Js_charAt_7 : decode prog_10_method_56_code 7 = .ok (.aload_n 0, 1) := by decide +kernel
theorem d_Js_charAt_8 : decode prog_10_method_56_code 8 = .ok (.getfield 9, 3) := by decide +kernel
theorem d_Js_charAt_11 : decode prog_10_method_56_code 11 = .ok (.iload_n 1, 1) := by decide +kernel
theorem d_Js_charAt_12 : decode prog_10_method_56_code 12 = .ok (.invokestatic 495, 3) := by decide +kernel
theorem d_Js_charAt_15 : decode prog_10_method_56_code 15 = .ok (.ireturn, 1) := by decide +kernel
theorem d_Tp_isLetter_0 : decode prog_5_method_13_code 0 = .ok (.bipush 97, 2) := by decide +kernel
theorem d_Tp_isLetter_2 : decode prog_5_method_13_code 2 = .ok (.iload_n 0, 1) := by decide +kernel
theorem d_Tp_isLetter_3 : decode prog_5_method_13_code 3 = .ok (.if_icmp .gt 13, 3) := by decide +kernel
theorem d_Tp_isLetter_6 : decode prog_5_method_13_code 6 = .ok (.iload_n 0, 1) := by decide +kernel
theorem d_Tp_isLetter_7 : decode prog_5_method_13_code 7 = .ok (.bipush 122, 2) := by decide +kernel
theorem d_Tp_isLetter_9 : decode prog_5_method_13_code 9 = .ok (.if_icmp .gt 7, 3) := by decide +kernel
theorem d_Tp_isLetter_12 : decode prog_5_method_13_code 12 = .ok (.iconst 1, 1) := by decide +kernel
theorem d_Tp_isLetter_13 : decode prog_5_method_13_code 13 = .ok (.goto 4, 3) := by decide +kernel
theorem d_Tp_isLetter_16 : decode prog_5_method_13_code 16 = .ok (.iconst 0, 1) := by decide +kernel
theorem d_Tp_isLetter_17 : decode prog_5_method_13_code 17 = .ok (.ireturn, 1) := by decide +kernel
theorem d_Tp_isDigit_0 : decode prog_5_method_14_code 0 = .ok (.bipush 48, 2) := by decide +kernel
theorem d_Tp_isDigit_2 : decode prog_5_method_14_code 2 = .ok (.iload_n 0, 1) := by decide +kernel
theorem d_Tp_isDigit_3 : decode prog_5_method_14_code 3 = .ok (.if_icmp .gt 13, 3) := by decide +kernel
theorem d_Tp_isDigit_6 : decode prog_5_method_14_code 6 = .ok (.iload_n 0, 1) := by decide +kernel
theorem d_Tp_isDigit_7 : decode prog_5_method_14_code 7 = .ok (.bipush 57, 2) := by decide +kernel
theorem d_Tp_isDigit_9 : decode prog_5_method_14_code 9 = .ok (.if_icmp .gt 7, 3) := by decide +kernel
theorem d_Tp_isDigit_12 : decode prog_5_method_14_code 12 = .ok (.iconst 1, 1) := by decide +kernel
theorem d_Tp_isDigit_13 : decode prog_5_method_14_code 13 = .ok (.goto 4, 3) := by decide +kernel
theorem d_Tp_isDigit_16 : decode prog_5_method_14_code 16 = .ok (.iconst 0, 1) := by decide +kernel
theorem d_Tp_isDigit_17 : decode prog_5_method_14_code 17 = .ok (.ireturn, 1) := by decide +kernel
theorem d_Tp_step_0 : decode prog_5_method_12_code 0 = .ok (.aload_n 0, 1) := by decide +kernel
theorem d_Tp_step_1 : decode prog_5_method_12_code 1 = .ok (.getfield 19, 3) := by decide +kernel
theorem d_Tp_step_4 : decode prog_5_method_12_code 4 = .ok (.aload_n 0, 1) := by decide +kernel
theorem d_Tp_step_5 : decode prog_5_method_12_code 5 = .ok (.getfield 15, 3) := by decide +kernel
theorem d_Tp_step_8 : decode prog_5_method_12_code 8 = .ok (.if_icmp .ge 30, 3) := by decide +kernel
theorem d_Tp_step_11 : decode prog_5_method_12_code 11 = .ok (.aload_n 0, 1) := by decide +kernel
theorem d_Tp_step_12 : decode prog_5_method_12_code 12 = .ok (.getfield 9, 3) := by decide +kernel
theorem d_Tp_step_15 : decode prog_5_method_12_code 15 = .ok (.aload_n 0, 1) := by decide +kernel
theorem d_Tp_step_16 : decode prog_5_method_12_code 16 = .ok (.getfield 19, 3) := by decide +kernel
theorem d_Tp_step_19 : decode prog_5_method_12_code 19 = .ok (.iaload, 1) := by decide +kernel
theorem d_Tp_step_20 : decode prog_5_method_12_code 20 = .ok (.bipush 32, 2) := by decide +kernel
theorem d_Tp_step_22 : decode prog_5_method_12_code 22 = .ok (.if_icmp .ne 16, 3) := by decide +kernel
theorem d_Tp_step_25 : decode prog_5_method_12_code 25 = .ok (.aload_n 0, 1) := by decide +kernel
theorem d_Tp_step_26 : decode prog_5_method_12_code 26 = .ok (.dup, 1) := by decide +kernel
theorem d_Tp_step_27 : decode prog_5_method_12_code 27 = .ok (.getfield 19, 3) := by decide +kernel
theorem d_Tp_step_30 : decode prog_5_method_12_code 30 = .ok (.iconst 1, 1) := by decide +kernel
theorem d_Tp_step_31 : decode prog_5_method_12_code 31 = .ok (.iadd, 1) := by decide +kernel
theorem d_Tp_step_32 : decode prog_5_method_12_code 32 = .ok (.putfield 19, 3) := by decide +kernel
theorem d_Tp_step_35 : decode prog_5_method_12_code 35 = .ok (.goto (-35), 3) := by decide +kernel
theorem d_Tp_step_38 : decode prog_5_method_12_code 38 = .ok (.aload_n 0, 1) := by decide +kernel
theorem d_Tp_step_39 : decode prog_5_method_12_code 39 = .ok (.aload_n 0, 1) := by decide +kernel
theorem d_Tp_step_40 : decode prog_5_method_12_code 40 = .ok (.getfield 19, 3) := by decide +kernel
theorem d_Tp_step_43 : decode prog_5_method_12_code 43 = .ok (.putfield 25, 3) := by decide +kernel
theorem d_Tp_step_46 : decode prog_5_method_12_code 46 = .ok (.aload_n 0, 1) := by decide +kernel
theorem d_Tp_step_47 : decode prog_5_method_12_code 47 = .ok (.iconst 0, 1) := by decide +kernel
theorem d_Tp_step_48 : decode prog_5_method_12_code 48 = .ok (.putfield 28, 3) := by decide +kernel
theorem d_Tp_step_51 : decode prog_5_method_12_code 51 = .ok (.aload_n 0, 1) := by decide +kernel
theorem d_Tp_step_52 : decode prog_5_method_12_code 52 = .ok (.getfield 19, 3) := by decide +kernel
theorem d_Tp_step_55 : decode prog_5_method_12_code 55 = .ok (.aload_n 0, 1) := by decide +kernel
theorem d_Tp_step_56 : decode prog_5_method_12_code 56 = .ok (.getfield 15, 3) := by decide +kernel
theorem d_Tp_step_59 : decode prog_5_method_12_code 59 = .ok (.if_icmp .lt 11, 3) := by decide +kernel
theorem d_Tp_step_62 : decode prog_5_method_12_code 62 = .ok (.aload_n 0, 1) := by decide +kernel
theorem d_Tp_step_63 : decode prog_5_method_12_code 63 = .ok (.iconst 0, 1) := by decide +kernel
theorem d_Tp_step_64 : decode prog_5_method_12_code 64 = .ok (.putfield 22, 3) := by decide +kernel
theorem d_Tp_step_67 : decode prog_5_method_12_code 67 = .ok (.goto 184, 3) := by decide +kernel
theorem d_Tp_step_70 : decode prog_5_method_12_code 70 = .ok (.aload_n 0, 1) := by decide +kernel
theorem d_Tp_step_71 : decode prog_5_method_12_code 71 = .ok (.getfield 9, 3) := by decide +kernel
theorem d_Tp_step_74 : decode prog_5_method_12_code 74 = .ok (.aload_n 0, 1) := by decide +kernel
theorem d_Tp_step_75 : decode prog_5_method_12_code 75 = .ok (.getfield 19, 3) := by decide +kernel
theorem d_Tp_step_78 : decode prog_5_method_12_code 78 = .ok (.iaload, 1) := by decide +kernel
theorem d_Tp_step_79 : decode prog_5_method_12_code 79 = .ok (.invokestatic 128, 3) := by decide +kernel
theorem d_Tp_step_82 : decode prog_5_method_12_code 82 = .ok (.ifCond .eq 47, 3) := by decide +kernel
theorem d_Tp_step_85 : decode prog_5_method_12_code 85 = .ok (.aload_n 0, 1) := by decide +kernel
theorem d_Tp_step_86 : decode prog_5_method_12_code 86 = .ok (.iconst 1, 1) := by decide +kernel
theorem d_Tp_step_87 : decode prog_5_method_12_code 87 = .ok (.putfield 22, 3) := by decide +kernel
theorem d_Tp_step_90 : decode prog_5_method_12_code 90 = .ok (.aload_n 0, 1) := by decide +kernel
theorem d_Tp_step_91 : decode prog_5_method_12_code 91 = .ok (.getfield 19, 3) := by decide +kernel
theorem d_Tp_step_94 : decode prog_5_method_12_code 94 = .ok (.aload_n 0, 1) := by decide +kernel
theorem d_Tp_step_95 : decode prog_5_method_12_code 95 = .ok (.getfield 15, 3) := by decide +kernel
theorem d_Tp_step_98 : decode prog_5_method_12_code 98 = .ok (.if_icmp .ge 153, 3) := by decide +kernel
theorem d_Tp_step_101 : decode prog_5_method_12_code 101 = .ok (.aload_n 0, 1) := by decide +kernel
theorem d_Tp_step_102 : decode prog_5_method_12_code 102 = .ok (.getfield 9, 3) := by decide +kernel
theorem d_Tp_step_105 : decode prog_5_method_12_code 105 = .ok (.aload_n 0, 1) := by decide +kernel
theorem d_Tp_step_106 : decode prog_5_method_12_code 106 = .ok (.getfield 19, 3) := by decide +kernel
theorem d_Tp_step_109 : decode prog_5_method_12_code 109 = .ok (.iaload, 1) := by decide +kernel
theorem d_Tp_step_110 : decode prog_5_method_12_code 110 = .ok (.invokestatic 128, 3) := by decide +kernel
theorem d_Tp_step_113 : decode prog_5_method_12_code 113 = .ok (.ifCond .eq 138, 3) := by decide +kernel
theorem d_Tp_step_116 : decode prog_5_method_12_code 116 = .ok (.aload_n 0, 1) := by decide +kernel
theorem d_Tp_step_117 : decode prog_5_method_12_code 117 = .ok (.dup, 1) := by decide +kernel
theorem d_Tp_step_118 : decode prog_5_method_12_code 118 = .ok (.getfield 19, 3) := by decide +kernel
theorem d_Tp_step_121 : decode prog_5_method_12_code 121 = .ok (.iconst 1, 1) := by decide +kernel
theorem d_Tp_step_122 : decode prog_5_method_12_code 122 = .ok (.iadd, 1) := by decide +kernel
theorem d_Tp_step_123 : decode prog_5_method_12_code 123 = .ok (.putfield 19, 3) := by decide +kernel
theorem d_Tp_step_126 : decode prog_5_method_12_code 126 = .ok (.goto (-36), 3) := by decide +kernel
theorem d_Tp_step_129 : decode prog_5_method_12_code 129 = .ok (.aload_n 0, 1) := by decide +kernel
theorem d_Tp_step_130 : decode prog_5_method_12_code 130 = .ok (.getfield 9, 3) := by decide +kernel
theorem d_Tp_step_133 : decode prog_5_method_12_code 133 = .ok (.aload_n 0, 1) := by decide +kernel
theorem d_Tp_step_134 : decode prog_5_method_12_code 134 = .ok (.getfield 19, 3) := by decide +kernel
theorem d_Tp_step_137 : decode prog_5_method_12_code 137 = .ok (.iaload, 1) := by decide +kernel
theorem d_Tp_step_138 : decode prog_5_method_12_code 138 = .ok (.invokestatic 132, 3) := by decide +kernel
theorem d_Tp_step_141 : decode prog_5_method_12_code 141 = .ok (.ifCond .eq 77, 3) := by decide +kernel
theorem d_Tp_step_144 : decode prog_5_method_12_code 144 = .ok (.aload_n 0, 1) := by decide +kernel
theorem d_Tp_step_145 : decode prog_5_method_12_code 145 = .ok (.iconst 2, 1) := by decide +kernel
theorem d_Tp_step_146 : decode prog_5_method_12_code 146 = .ok (.putfield 22, 3) := by decide +kernel
theorem d_Tp_step_149 : decode prog_5_method_12_code 149 = .ok (.aload_n 0, 1) := by decide +kernel
theorem d_Tp_step_150 : decode prog_5_method_12_code 150 = .ok (.getfield 19, 3) := by decide +kernel
theorem d_Tp_step_153 : decode prog_5_method_12_code 153 = .ok (.aload_n 0, 1) := by decide +kernel
theorem d_Tp_step_154 : decode prog_5_method_12_code 154 = .ok (.getfield 15, 3) := by decide +kernel
theorem d_Tp_step_157 : decode prog_5_method_12_code 157 = .ok (.if_icmp .ge 94, 3) := by decide +kernel
theorem d_Tp_step_160 : decode prog_5_method_12_code 160 = .ok (.aload_n 0, 1) := by decide +kernel
theorem d_Tp_step_161 : decode prog_5_method_12_code 161 = .ok (.getfield 9, 3) := by decide +kernel
theorem d_Tp_step_164 : decode prog_5_method_12_code 164 = .ok (.aload_n 0, 1) := by decide +kernel
theorem d_Tp_step_165 : decode prog_5_method_12_code 165 = .ok (.getfield 19, 3) := by decide +kernel
theorem d_Tp_step_168 : decode prog_5_method_12_code 168 = .ok (.iaload, 1) := by decide +kernel
theorem d_Tp_step_169 : decode prog_5_method_12_code 169 = .ok (.invokestatic 132, 3) := by decide +kernel
theorem d_Tp_step_172 : decode prog_5_method_12_code 172 = .ok (.ifCond .eq 79, 3) := by decide +kernel
theorem d_Tp_step_175 : decode prog_5_method_12_code 175 = .ok (.aload_n 0, 1) := by decide +kernel
theorem d_Tp_step_176 : decode prog_5_method_12_code 176 = .ok (.bipush 10, 2) := by decide +kernel
theorem d_Tp_step_178 : decode prog_5_method_12_code 178 = .ok (.aload_n 0, 1) := by decide +kernel
theorem d_Tp_step_179 : decode prog_5_method_12_code 179 = .ok (.getfield 28, 3) := by decide +kernel
theorem d_Tp_step_182 : decode prog_5_method_12_code 182 = .ok (.imul, 1) := by decide +kernel
theorem d_Tp_step_183 : decode prog_5_method_12_code 183 = .ok (.aload_n 0, 1) := by decide +kernel
theorem d_Tp_step_184 : decode prog_5_method_12_code 184 = .ok (.getfield 9, 3) := by decide +kernel
theorem d_Tp_step_187 : decode prog_5_method_12_code 187 = .ok (.aload_n 0, 1) := by decide +kernel
theorem d_Tp_step_188 : decode prog_5_method_12_code 188 = .ok (.getfield 19, 3) := by decide +kernel
theorem d_Tp_step_191 : decode prog_5_method_12_code 191 = .ok (.iaload, 1) := by decide +kernel
theorem d_Tp_step_192 : decode prog_5_method_12_code 192 = .ok (.iadd, 1) := by decide +kernel
theorem d_Tp_step_193 : decode prog_5_method_12_code 193 = .ok (.bipush 48, 2) := by decide +kernel
theorem d_Tp_step_195 : decode prog_5_method_12_code 195 = .ok (.isub, 1) := by decide +kernel
theorem d_Tp_step_196 : decode prog_5_method_12_code 196 = .ok (.sipush 1000, 3) := by decide +kernel
theorem d_Tp_step_199 : decode prog_5_method_12_code 199 = .ok (.invokestatic 135, 3) := by decide +kernel
theorem d_Tp_step_202 : decode prog_5_method_12_code 202 = .ok (.putfield 28, 3) := by decide +kernel
theorem d_Tp_step_205 : decode prog_5_method_12_code 205 = .ok (.aload_n 0, 1) := by decide +kernel
theorem d_Tp_step_206 : decode prog_5_method_12_code 206 = .ok (.dup, 1) := by decide +kernel
theorem d_Tp_step_207 : decode prog_5_method_12_code 207 = .ok (.getfield 19, 3) := by decide +kernel
theorem d_Tp_step_210 : decode prog_5_method_12_code 210 = .ok (.iconst 1, 1) := by decide +kernel
theorem d_Tp_step_211 : decode prog_5_method_12_code 211 = .ok (.iadd, 1) := by decide +kernel
theorem d_Tp_step_212 : decode prog_5_method_12_code 212 = .ok (.putfield 19, 3) := by decide +kernel
theorem d_Tp_step_215 : decode prog_5_method_12_code 215 = .ok (.goto (-66), 3) := by decide +kernel
theorem d_Tp_step_218 : decode prog_5_method_12_code 218 = .ok (.aload_n 0, 1) := by decide +kernel
theorem d_Tp_step_219 : decode prog_5_method_12_code 219 = .ok (.aload_n 0, 1) := by decide +kernel
theorem d_Tp_step_220 : decode prog_5_method_12_code 220 = .ok (.getfield 9, 3) := by decide +kernel
theorem d_Tp_step_223 : decode prog_5_method_12_code 223 = .ok (.aload_n 0, 1) := by decide +kernel
theorem d_Tp_step_224 : decode prog_5_method_12_code 224 = .ok (.getfield 19, 3) := by decide +kernel
theorem d_Tp_step_227 : decode prog_5_method_12_code 227 = .ok (.iaload, 1) := by decide +kernel
theorem d_Tp_step_228 : decode prog_5_method_12_code 228 = .ok (.bipush 59, 2) := by decide +kernel
theorem d_Tp_step_230 : decode prog_5_method_12_code 230 = .ok (.if_icmp .ne 7, 3) := by decide +kernel
theorem d_Tp_step_233 : decode prog_5_method_12_code 233 = .ok (.iconst 3, 1) := by decide +kernel
theorem d_Tp_step_234 : decode prog_5_method_12_code 234 = .ok (.goto 4, 3) := by decide +kernel
theorem d_Tp_step_237 : decode prog_5_method_12_code 237 = .ok (.iconst 4, 1) := by decide +kernel
theorem d_Tp_step_238 : decode prog_5_method_12_code 238 = .ok (.putfield 22, 3) := by decide +kernel
theorem d_Tp_step_241 : decode prog_5_method_12_code 241 = .ok (.aload_n 0, 1) := by decide +kernel
theorem d_Tp_step_242 : decode prog_5_method_12_code 242 = .ok (.dup, 1) := by decide +kernel
theorem d_Tp_step_243 : decode prog_5_method_12_code 243 = .ok (.getfield 19, 3) := by decide +kernel
theorem d_Tp_step_246 : decode prog_5_method_12_code 246 = .ok (.iconst 1, 1) := by decide +kernel
theorem d_Tp_step_247 : decode prog_5_method_12_code 247 = .ok (.iadd, 1) := by decide +kernel
theorem d_Tp_step_248 : decode prog_5_method_12_code 248 = .ok (.putfield 19, 3) := by decide +kernel
theorem d_Tp_step_251 : decode prog_5_method_12_code 251 = .ok (.return_, 1) := by decide +kernel
theorem d_Tp_isWord_0 : decode prog_5_method_10_code 0 = .ok (.aload_n 0, 1) := by decide +kernel
theorem d_Tp_isWord_1 : decode prog_5_method_10_code 1 = .ok (.getfield 22, 3) := by decide +kernel
theorem d_Tp_isWord_4 : decode prog_5_method_10_code 4 = .ok (.iconst 1, 1) := by decide +kernel
theorem d_Tp_isWord_5 : decode prog_5_method_10_code 5 = .ok (.if_icmp .ne 19, 3) := by decide +kernel
theorem d_Tp_isWord_8 : decode prog_5_method_10_code 8 = .ok (.aload_n 0, 1) := by decide +kernel
theorem d_Tp_isWord_9 : decode prog_5_method_10_code 9 = .ok (.getfield 19, 3) := by decide +kernel
theorem d_Tp_isWord_12 : decode prog_5_method_10_code 12 = .ok (.aload_n 0, 1) := by decide +kernel
theorem d_Tp_isWord_13 : decode prog_5_method_10_code 13 = .ok (.getfield 25, 3) := by decide +kernel
theorem d_Tp_isWord_16 : decode prog_5_method_10_code 16 = .ok (.isub, 1) := by decide +kernel
theorem d_Tp_isWord_17 : decode prog_5_method_10_code 17 = .ok (.aload_n 1, 1) := by decide +kernel
theorem d_Tp_isWord_18 : decode prog_5_method_10_code 18 = .ok (.invokevirtual 116, 3) := by decide +kernel
theorem d_Tp_isWord_21 : decode prog_5_method_10_code 21 = .ok (.if_icmp .eq 5, 3) := by decide +kernel
theorem d_Tp_isWord_24 : decode prog_5_method_10_code 24 = .ok (.iconst 0, 1) := by decide +kernel
theorem d_Tp_isWord_25 : decode prog_5_method_10_code 25 = .ok (.ireturn, 1) := by decide +kernel
theorem d_Tp_isWord_26 : decode prog_5_method_10_code 26 = .ok (.iconst 0, 1) := by decide +kernel
theorem d_Tp_isWord_27 : decode prog_5_method_10_code 27 = .ok (.istore_n 2, 1) := by decide +kernel
theorem d_Tp_isWord_28 : decode prog_5_method_10_code 28 = .ok (.iload_n 2, 1) := by decide +kernel
theorem d_Tp_isWord_29 : decode prog_5_method_10_code 29 = .ok (.aload_n 1, 1) := by decide +kernel
theorem d_Tp_isWord_30 : decode prog_5_method_10_code 30 = .ok (.invokevirtual 116, 3) := by decide +kernel
theorem d_Tp_isWord_33 : decode prog_5_method_10_code 33 = .ok (.if_icmp .ge 30, 3) := by decide +kernel
theorem d_Tp_isWord_36 : decode prog_5_method_10_code 36 = .ok (.aload_n 0, 1) := by decide +kernel
theorem d_Tp_isWord_37 : decode prog_5_method_10_code 37 = .ok (.getfield 9, 3) := by decide +kernel
theorem d_Tp_isWord_40 : decode prog_5_method_10_code 40 = .ok (.aload_n 0, 1) := by decide +kernel
theorem d_Tp_isWord_41 : decode prog_5_method_10_code 41 = .ok (.getfield 25, 3) := by decide +kernel
theorem d_Tp_isWord_44 : decode prog_5_method_10_code 44 = .ok (.iload_n 2, 1) := by decide +kernel
theorem d_Tp_isWord_45 : decode prog_5_method_10_code 45 = .ok (.iadd, 1) := by decide +kernel
theorem d_Tp_isWord_46 : decode prog_5_method_10_code 46 = .ok (.iaload, 1) := by decide +kernel
theorem d_Tp_isWord_47 : decode prog_5_method_10_code 47 = .ok (.aload_n 1, 1) := by decide +kernel
theorem d_Tp_isWord_48 : decode prog_5_method_10_code 48 = .ok (.iload_n 2, 1) := by decide +kernel
theorem d_Tp_isWord_49 : decode prog_5_method_10_code 49 = .ok (.invokevirtual 120, 3) := by decide +kernel
theorem d_Tp_isWord_52 : decode prog_5_method_10_code 52 = .ok (.if_icmp .eq 5, 3) := by decide +kernel
theorem d_Tp_isWord_55 : decode prog_5_method_10_code 55 = .ok (.iconst 0, 1) := by decide +kernel
theorem d_Tp_isWord_56 : decode prog_5_method_10_code 56 = .ok (.ireturn, 1) := by decide +kernel
theorem d_Tp_isWord_57 : decode prog_5_method_10_code 57 = .ok (.iinc 2 1, 3) := by decide +kernel
theorem d_Tp_isWord_60 : decode prog_5_method_10_code 60 = .ok (.goto (-32), 3) := by decide +kernel
theorem d_Tp_isWord_63 : decode prog_5_method_10_code 63 = .ok (.iconst 1, 1) := by decide +kernel
theorem d_Tp_isWord_64 : decode prog_5_method_10_code 64 = .ok (.ireturn, 1) := by decide +kernel
theorem d_Tp_isNumber_0 : decode prog_5_method_11_code 0 = .ok (.aload_n 0, 1) := by decide +kernel
theorem d_Tp_isNumber_1 : decode prog_5_method_11_code 1 = .ok (.getfield 22, 3) := by decide +kernel
theorem d_Tp_isNumber_4 : decode prog_5_method_11_code 4 = .ok (.iconst 2, 1) := by decide +kernel
theorem d_Tp_isNumber_5 : decode prog_5_method_11_code 5 = .ok (.if_icmp .ne 19, 3) := by decide +kernel
theorem d_Tp_isNumber_8 : decode prog_5_method_11_code 8 = .ok (.aload_n 0, 1) := by decide +kernel
theorem d_Tp_isNumber_9 : decode prog_5_method_11_code 9 = .ok (.getfield 28, 3) := by decide +kernel
theorem d_Tp_isNumber_12 : decode prog_5_method_11_code 12 = .ok (.iload_n 1, 1) := by decide +kernel
theorem d_Tp_isNumber_13 : decode prog_5_method_11_code 13 = .ok (.iload_n 2, 1) := by decide +kernel
theorem d_Tp_isNumber_14 : decode prog_5_method_11_code 14 = .ok (.invokestatic 124, 3) := by decide +kernel
theorem d_Tp_isNumber_17 : decode prog_5_method_11_code 17 = .ok (.ifCond .eq 7, 3) := by decide +kernel
theorem d_Tp_isNumber_20 : decode prog_5_method_11_code 20 = .ok (.iconst 1, 1) := by decide +kernel
theorem d_Tp_isNumber_21 : decode prog_5_method_11_code 21 = .ok (.goto 4, 3) := by decide +kernel
theorem d_Tp_isNumber_24 : decode prog_5_method_11_code 24 = .ok (.iconst 0, 1) := by decide +kernel
theorem d_Tp_isNumber_25 : decode prog_5_method_11_code 25 = .ok (.ireturn, 1) := by decide +kernel
theorem d_Tp_kindOfWord_0 : decode prog_5_method_9_code 0 = .ok (.aload_n 0, 1) := by decide +kernel
theorem d_Tp_kindOfWord_1 : decode prog_5_method_9_code 1 = .ok (.ldc 100, 2) := by decide +kernel
theorem d_Tp_kindOfWord_3 : decode prog_5_method_9_code 3 = .ok (.invokevirtual 40, 3) := by decide +kernel
theorem d_Tp_kindOfWord_6 : decode prog_5_method_9_code 6 = .ok (.ifCond .eq 5, 3) := by decide +kernel
theorem d_Tp_kindOfWord_9 : decode prog_5_method_9_code 9 = .ok (.iconst 0, 1) := by decide +kernel
theorem d_Tp_kindOfWord_10 : decode prog_5_method_9_code 10 = .ok (.ireturn, 1) := by decide +kernel
theorem d_Tp_kindOfWord_11 : decode prog_5_method_9_code 11 = .ok (.aload_n 0, 1) := by decide +kernel
theorem d_Tp_kindOfWord_12 : decode prog_5_method_9_code 12 = .ok (.ldc 102, 2) := by decide +kernel
theorem d_Tp_kindOfWord_14 : decode prog_5_method_9_code 14 = .ok (.invokevirtual 40, 3) := by decide +kernel
theorem d_Tp_kindOfWord_17 : decode prog_5_method_9_code 17 = .ok (.ifCond .eq 5, 3) := by decide +kernel
theorem d_Tp_kindOfWord_20 : decode prog_5_method_9_code 20 = .ok (.iconst 1, 1) := by decide +kernel
theorem d_Tp_kindOfWord_21 : decode prog_5_method_9_code 21 = .ok (.ireturn, 1) := by decide +kernel
theorem d_Tp_kindOfWord_22 : decode prog_5_method_9_code 22 = .ok (.aload_n 0, 1) := by decide +kernel
theorem d_Tp_kindOfWord_23 : decode prog_5_method_9_code 23 = .ok (.ldc 106, 2) := by decide +kernel
theorem d_Tp_kindOfWord_25 : decode prog_5_method_9_code 25 = .ok (.invokevirtual 40, 3) := by decide +kernel
theorem d_Tp_kindOfWord_28 : decode prog_5_method_9_code 28 = .ok (.ifCond .eq 5, 3) := by decide +kernel
theorem d_Tp_kindOfWord_31 : decode prog_5_method_9_code 31 = .ok (.iconst 2, 1) := by decide +kernel
theorem d_Tp_kindOfWord_32 : decode prog_5_method_9_code 32 = .ok (.ireturn, 1) := by decide +kernel
theorem d_Tp_kindOfWord_33 : decode prog_5_method_9_code 33 = .ok (.aload_n 0, 1) := by decide +kernel
theorem d_Tp_kindOfWord_34 : decode prog_5_method_9_code 34 = .ok (.ldc 108, 2) := by decide +kernel
theorem d_Tp_kindOfWord_36 : decode prog_5_method_9_code 36 = .ok (.invokevirtual 40, 3) := by decide +kernel
theorem d_Tp_kindOfWord_39 : decode prog_5_method_9_code 39 = .ok (.ifCond .eq 5, 3) := by decide +kernel
theorem d_Tp_kindOfWord_42 : decode prog_5_method_9_code 42 = .ok (.iconst 3, 1) := by decide +kernel
theorem d_Tp_kindOfWord_43 : decode prog_5_method_9_code 43 = .ok (.ireturn, 1) := by decide +kernel
theorem d_Tp_kindOfWord_44 : decode prog_5_method_9_code 44 = .ok (.aload_n 0, 1) := by decide +kernel
theorem d_Tp_kindOfWord_45 : decode prog_5_method_9_code 45 = .ok (.ldc 110, 2) := by decide +kernel
theorem d_Tp_kindOfWord_47 : decode prog_5_method_9_code 47 = .ok (.invokevirtual 40, 3) := by decide +kernel
theorem d_Tp_kindOfWord_50 : decode prog_5_method_9_code 50 = .ok (.ifCond .eq 5, 3) := by decide +kernel
theorem d_Tp_kindOfWord_53 : decode prog_5_method_9_code 53 = .ok (.iconst 4, 1) := by decide +kernel
theorem d_Tp_kindOfWord_54 : decode prog_5_method_9_code 54 = .ok (.ireturn, 1) := by decide +kernel
theorem d_Tp_kindOfWord_55 : decode prog_5_method_9_code 55 = .ok (.aload_n 0, 1) := by decide +kernel
theorem d_Tp_kindOfWord_56 : decode prog_5_method_9_code 56 = .ok (.ldc 112, 2) := by decide +kernel
theorem d_Tp_kindOfWord_58 : decode prog_5_method_9_code 58 = .ok (.invokevirtual 40, 3) := by decide +kernel
theorem d_Tp_kindOfWord_61 : decode prog_5_method_9_code 61 = .ok (.ifCond .eq 5, 3) := by decide +kernel
theorem d_Tp_kindOfWord_64 : decode prog_5_method_9_code 64 = .ok (.iconst 5, 1) := by decide +kernel
theorem d_Tp_kindOfWord_65 : decode prog_5_method_9_code 65 = .ok (.ireturn, 1) := by decide +kernel
theorem d_Tp_kindOfWord_66 : decode prog_5_method_9_code 66 = .ok (.aload_n 0, 1) := by decide +kernel
theorem d_Tp_kindOfWord_67 : decode prog_5_method_9_code 67 = .ok (.ldc 114, 2) := by decide +kernel
theorem d_Tp_kindOfWord_69 : decode prog_5_method_9_code 69 = .ok (.invokevirtual 40, 3) := by decide +kernel
theorem d_Tp_kindOfWord_72 : decode prog_5_method_9_code 72 = .ok (.ifCond .eq 8, 3) := by decide +kernel
theorem d_Tp_kindOfWord_75 : decode prog_5_method_9_code 75 = .ok (.bipush 6, 2) := by decide +kernel
theorem d_Tp_kindOfWord_77 : decode prog_5_method_9_code 77 = .ok (.goto 4, 3) := by decide +kernel
theorem d_Tp_kindOfWord_80 : decode prog_5_method_9_code 80 = .ok (.iconst (-1), 1) := by decide +kernel
theorem d_Tp_kindOfWord_81 : decode prog_5_method_9_code 81 = .ok (.ireturn, 1) := by decide +kernel
set_option maxHeartbeats 1000000 in
set_option maxRecDepth 20000 in
theorem c_Js_coder (l : Launch) (E : QE) (S : QM) (i : Nat) (hi : i < 11) : qCI E l y_Js_coder prog_10_method_152_code 1 .byte 1 [.ref (eK E i)] S (nI 0) S := by
  refine qCI_of (by decide) (Nat.le_of_ble_eq_true rfl) (fun p e s m below meth c ls X hW hl => ?_)
  have hl : lv_has ls 1 [(0, .ref (eK E i))] := hl
  refine va_gets X.x X.b (v := .int (nI 1)) X.Z.2.2.2.2.1.1 hW.2.2 X.ow (X.ts _ mw_518) (fun _ h => h) d_Js_coder_0 ?_
  refine lv_if_eq (tgt := 13) X.x X.b d_Js_coder_3 (by decide) (fun c3 => ?_) (fun c3 => ?_)
  · exact absurd c3 (by decide)
  · have c3 : ¬ 1 = 0 := fun z => c3 ((nI_eq (a := 1) (b := 0) (by omega) (by omega)).mpr z)
    refine lv_aload_n X.x X.b d_Js_coder_6 rfl (lv_at hl 0 rfl) ?_
    refine vk_getf X.x X.b (v := .int (nI 0)) (X.Z.2.2.2.2.2.1.1 i (by omega)).2.1 hW.2.2 X.ow (X.ts _ mw_1191) (fun _ h => h) d_Js_coder_7 ?_
    refine lv_goto (tgt := 14) X.x X.b d_Js_coder_10 (by decide) ?_
    exact q_zret X (by decide) hW ⟨rfl, rfl⟩ d_Js_coder_14
set_option maxHeartbeats 1000000 in
set_option maxRecDepth 20000 in
theorem c_Js_isLatin1 (l : Launch) (E : QE) (S : QM) (i : Nat) (hi : i < 11) : qCI E l y_Js_isLatin1 prog_10_method_154_code 1 .boolean 1 [.ref (eK E i)] S (nI 1) S := by
  refine qCI_of (by decide) (Nat.le_of_ble_eq_true rfl) (fun p e s m below meth c ls X hW hl => ?_)
  have hl : lv_has ls 1 [(0, .ref (eK E i))] := hl
  refine va_gets X.x X.b (v := .int (nI 1)) X.Z.2.2.2.2.1.1 hW.2.2 X.ow (X.ts _ mw_518) (fun _ h => h) d_Js_isLatin1_0 ?_
  refine lv_if_eq (tgt := 17) X.x X.b d_Js_isLatin1_3 (by decide) (fun c3 => ?_) (fun c3 => ?_)
  · exact absurd c3 (by decide)
  · have c3 : ¬ 1 = 0 := fun z => c3 ((nI_eq (a := 1) (b := 0) (by omega) (by omega)).mpr z)
    refine lv_aload_n X.x X.b d_Js_isLatin1_6 rfl (lv_at hl 0 rfl) ?_
    refine vk_getf X.x X.b (v := .int (nI 0)) (X.Z.2.2.2.2.2.1.1 i (by omega)).2.1 hW.2.2 X.ow (X.ts _ mw_1191) (fun _ h => h) d_Js_isLatin1_7 ?_
    refine lv_if_ne (tgt := 17) X.x X.b d_Js_isLatin1_10 (by decide) (fun c10 => ?_) (fun c10 => ?_)
    · exact absurd (by decide) c10
    · have c10 : 0 = 0 := (nI_eq (a := 0) (b := 0) (by omega) (by omega)).mp c10
      refine lv_iconst (v := nI 1) X.x X.b d_Js_isLatin1_13 (by decide) ?_
      refine lv_goto (tgt := 18) X.x X.b d_Js_isLatin1_14 (by decide) ?_
      exact q_zret X (by decide) hW ⟨rfl, rfl⟩ d_Js_isLatin1_18
set_option maxHeartbeats 1000000 in
set_option maxRecDepth 20000 in
theorem c_Js_length (l : Launch) (E : QE) (S : QM) (i : Nat) (hi : i < 11) : qCI E l y_Js_length prog_10_method_54_code 1 .int 2 [.ref (eK E i)] S (nI (strL.getD i 0)) S := by
  refine qCI_of (by decide) (Nat.le_of_ble_eq_true rfl) (fun p e s m below meth c ls X hW hl => ?_)
  have hl : lv_has ls 1 [(0, .ref (eK E i))] := hl
  refine lv_aload_n X.x X.b d_Js_length_0 rfl (lv_at hl 0 rfl) ?_
  refine vk_getf X.x X.b (X.Z.2.2.2.2.2.1.1 i (by omega)).2.2.1 hW.2.2 X.ow (X.ts _ mw_1190) (fun _ h => h) d_Js_length_1 ?_
  refine va_tlen X.x X.b (X.Z.2.2.2.2.2.1.1 i (by omega)).2.2.2 hW.2.2 (v := nI (strL.getD i 0)) rfl d_Js_length_4 ?_
  refine lv_aload_n X.x X.b d_Js_length_5 rfl (lv_at hl 0 rfl) ?_
  refine q_cvi X (c_Js_coder l E S i (by omega)) hW (q_recvS X hW (by omega)) ok_Js_coder mw_514 ⟨by decide, by decide⟩ (As := []) rfl rfl (Nat.le_of_ble_eq_true rfl) (lv := [(0, .ref (eK E i))]) hl ⟨Nat.le_refl 0, Nat.le_refl 0⟩ d_Js_length_6 (fun H locs hW => ?_)
  refine lv_ishr X.x X.b d_Js_length_9 ?_
  rw [show (nI (strL.getD i 0)) >>> ((nI 0) &&& 31) = nI (strL.getD i 0) from (strL_all i hi).2.2]
  exact q_zret X rfl hW ⟨rfl, rfl⟩ d_Js_length_10
set_option maxHeartbeats 1000000 in
set_option maxRecDepth 20000 in
theorem c_Jp_checkIndex_0 (l : Launch) (E : QE) (S : QM) (j n : Nat) (hj : j < n) (hn : n ≤ 1000) : qCI E l y_Jp_checkIndex prog_15_method_11_code 3 .int 1 [.int (nI j), .int (nI n), .null] S (nI j) S := by
  refine qCI_of (by decide) (Nat.le_of_ble_eq_true rfl) (fun p e s m below meth c ls X hW hl => ?_)
  have hl : lv_has ls 3 [(0, .int (nI j)), (1, .int (nI n)), (2, .null)] := hl
  refine lv_iload_n X.x X.b d_Jp_checkIndex_0 rfl (lv_at hl 0 rfl) ?_
  refine lv_if_lt (tgt := 9) X.x X.b d_Jp_checkIndex_1 (by decide) (fun c1 => ?_) (fun c1 => ?_)
  · have c1 : j < 0 := (nI_ltI (a := j) (b := 0) (by omega) (by omega)).mp c1
    exact absurd c1 (by omega)
  · have c1 : ¬ j < 0 := fun z => c1 ((nI_ltI (a := j) (b := 0) (by omega) (by omega)).mpr z)
    refine lv_iload_n X.x X.b d_Jp_checkIndex_4 rfl (lv_at hl 0 rfl) ?_
    refine lv_iload_n X.x X.b d_Jp_checkIndex_5 rfl (lv_at hl 1 rfl) ?_
    refine lv_icmp_lt (tgt := 16) X.x X.b d_Jp_checkIndex_6 (by decide) (fun c6 => ?_) (fun c6 => ?_)
    · have c6 : j < n := (nI_ltI (a := j) (b := n) (by omega) (by omega)).mp c6
      refine lv_iload_n X.x X.b d_Jp_checkIndex_16 rfl (lv_at hl 0 rfl) ?_
      exact q_zret X rfl hW ⟨rfl, rfl⟩ d_Jp_checkIndex_17
    · have c6 : ¬ j < n := fun z => c6 ((nI_ltI (a := j) (b := n) (by omega) (by omega)).mpr z)
      exact absurd hj (by omega)
set_option maxHeartbeats 1000000 in
set_option maxRecDepth 20000 in
theorem c_Jp_checkIndex_1 (l : Launch) (E : QE) (S : QM) (t : Nat) (j n : Nat) (hj : j < n) (hn : n ≤ 1000) : qCI E l y_Jp_checkIndex prog_15_method_11_code 3 .int 1 [.int (nI j), .int (nI n), .ref t] S (nI j) S := by
  refine qCI_of (by decide) (Nat.le_of_ble_eq_true rfl) (fun p e s m below meth c ls X hW hl => ?_)
  have hl : lv_has ls 3 [(0, .int (nI j)), (1, .int (nI n)), (2, .ref t)] := hl
  refine lv_iload_n X.x X.b d_Jp_checkIndex_0 rfl (lv_at hl 0 rfl) ?_
  refine lv_if_lt (tgt := 9) X.x X.b d_Jp_checkIndex_1 (by decide) (fun c1 => ?_) (fun c1 => ?_)
  · have c1 : j < 0 := (nI_ltI (a := j) (b := 0) (by omega) (by omega)).mp c1
    exact absurd c1 (by omega)
  · have c1 : ¬ j < 0 := fun z => c1 ((nI_ltI (a := j) (b := 0) (by omega) (by omega)).mpr z)
    refine lv_iload_n X.x X.b d_Jp_checkIndex_4 rfl (lv_at hl 0 rfl) ?_
    refine lv_iload_n X.x X.b d_Jp_checkIndex_5 rfl (lv_at hl 1 rfl) ?_
    refine lv_icmp_lt (tgt := 16) X.x X.b d_Jp_checkIndex_6 (by decide) (fun c6 => ?_) (fun c6 => ?_)
    · have c6 : j < n := (nI_ltI (a := j) (b := n) (by omega) (by omega)).mp c6
      refine lv_iload_n X.x X.b d_Jp_checkIndex_16 rfl (lv_at hl 0 rfl) ?_
      exact q_zret X rfl hW ⟨rfl, rfl⟩ d_Jp_checkIndex_17
    · have c6 : ¬ j < n := fun z => c6 ((nI_ltI (a := j) (b := n) (by omega) (by omega)).mpr z)
      exact absurd hj (by omega)
set_option maxHeartbeats 1000000 in
set_option maxRecDepth 20000 in
theorem c_Js_checkIndex (l : Launch) (E : QE) (S : QM) (j n : Nat) (hj : j < n) (hn : n ≤ 1000) : qCV E l y_Js_checkIndex prog_10_method_155_code 2 2 [.int (nI j), .int (nI n)] S S := by
  refine qCV_of (by decide) (Nat.le_of_ble_eq_true rfl) (fun p e s m below meth c ls X hW hl => ?_)
  have hl : lv_has ls 2 [(0, .int (nI j)), (1, .int (nI n))] := hl
  refine lv_iload_n X.x X.b d_Js_checkIndex_0 rfl (lv_at hl 0 rfl) ?_
  refine lv_iload_n X.x X.b d_Js_checkIndex_1 rfl (lv_at hl 1 rfl) ?_
  rcases X.Z.2.2.2.2.1.2 with hq | ⟨tq, hq⟩
  · refine va_gets X.x X.b (v := .null) hq hW.2.2 X.ow (X.ts _ mw_534) (fun _ h => h) d_Js_checkIndex_2 ?_
    refine q_csi X (c_Jp_checkIndex_0 l E S j n (by omega) (by omega)) hW ok_Jp_checkIndex mw_536 ⟨by decide, by decide⟩ (As := [.int (nI j), .int (nI n), .null]) rfl rfl (Nat.le_of_ble_eq_true rfl) (lv := [(0, .int (nI j)), (1, .int (nI n))]) hl ⟨Nat.le_refl 0, Nat.le_refl 0⟩ d_Js_checkIndex_5 (fun H locs hW => ?_)
    refine lv_pop X.x X.b d_Js_checkIndex_8 rfl ?_
    exact q_vret X hW rfl d_Js_checkIndex_9
  · refine va_gets X.x X.b (v := .ref tq) hq hW.2.2 X.ow (X.ts _ mw_534) (fun _ h => h) d_Js_checkIndex_2 ?_
    refine q_csi X (c_Jp_checkIndex_1 l E S tq j n (by omega) (by omega)) hW ok_Jp_checkIndex mw_536 ⟨by decide, by decide⟩ (As := [.int (nI j), .int (nI n), .ref tq]) rfl rfl (Nat.le_of_ble_eq_true rfl) (lv := [(0, .int (nI j)), (1, .int (nI n))]) hl ⟨Nat.le_refl 0, Nat.le_refl 0⟩ d_Js_checkIndex_5 (fun H locs hW => ?_)
    refine lv_pop X.x X.b d_Js_checkIndex_8 rfl ?_
    exact q_vret X hW rfl d_Js_checkIndex_9
set_option maxHeartbeats 1000000 in
set_option maxRecDepth 20000 in
theorem c_Jl_charAt (l : Launch) (E : QE) (S : QM) (i : Nat) (hi : i < 11) (j : Nat) (hj : j < strL.getD i 0) : qCI E l y_Jl_charAt prog_11_method_2_code 2 .char 3 [.ref (eV E i), .int (nI j)] S ((strB.getD i []).getD j 0) S := by
  refine qCI_of (by decide) (Nat.le_of_ble_eq_true rfl) (fun p e s m below meth c ls X hW hl => ?_)
  have hl : lv_has ls 2 [(0, .ref (eV E i)), (1, .int (nI j))] := hl
  have hsl := strL_all i hi
  refine lv_iload_n X.x X.b d_Jl_charAt_0 rfl (lv_at hl 1 rfl) ?_
  refine lv_aload_n X.x X.b d_Jl_charAt_1 rfl (lv_at hl 0 rfl) ?_
  refine va_tlen X.x X.b (X.Z.2.2.2.2.2.1.1 i (by omega)).2.2.2 hW.2.2 (v := nI (strL.getD i 0)) rfl d_Jl_charAt_2 ?_
  refine q_csv X (c_Js_checkIndex l E S j (strL.getD i 0) (by omega) (by omega)) hW ok_Js_checkIndex mw_531 ⟨by decide, by decide⟩ (As := [.int (nI j), .int (nI (strL.getD i 0))]) rfl rfl (Nat.le_of_ble_eq_true rfl) (lv := [(0, .ref (eV E i)), (1, .int (nI j))]) hl ⟨Nat.le_refl 0, Nat.le_refl 0⟩ d_Jl_charAt_3 (fun H locs hW => ?_)
  refine lv_aload_n X.x X.b d_Jl_charAt_6 rfl (lv_at hl 0 rfl) ?_
  refine lv_iload_n X.x X.b d_Jl_charAt_7 rfl (lv_at hl 1 rfl) ?_
  refine va_tb X.x X.b (X.Z.2.2.2.2.2.1.1 i (by omega)).2.2.2 hW.2.2 (q_in (by omega) (by omega)) (v := .int ((strB.getD i []).getD j 0)) (by rw [nI_clamp (by omega)]) d_Jl_charAt_8 ?_
  refine lv_sipush (v := nI 255) X.x X.b d_Jl_charAt_9 (by decide) ?_
  refine lv_iand X.x X.b d_Jl_charAt_12 ?_
  refine lv_i2c (v := ((((strB.getD i []).getD j 0) &&& (nI 255)).toUInt32 % 65536).toInt32) X.x X.b d_Jl_charAt_13 rfl ?_
  rw [(strC_all i hi j hj).1]
  exact q_zret X (strC_all i hi j hj).2 hW ⟨rfl, rfl⟩ d_Jl_charAt_14
set_option maxHeartbeats 1000000 in
set_option maxRecDepth 20000 in
theorem c_Js_charAt (l : Launch) (E : QE) (S : QM) (i : Nat) (hi : i < 11) (j : Nat) (hj : j < strL.getD i 0) : qCI E l y_Js_charAt prog_10_method_56_code 2 .char 4 [.ref (eK E i), .int (nI j)] S ((strB.getD i []).getD j 0) S := by
  refine qCI_of (by decide) (Nat.le_of_ble_eq_true rfl) (fun p e s m below meth c ls X hW hl => ?_)
  have hl : lv_has ls 2 [(0, .ref (eK E i)), (1, .int (nI j))] := hl
  have hsl := strL_all i hi
  refine lv_aload_n X.x X.b d_Js_charAt_0 rfl (lv_at hl 0 rfl) ?_
  refine q_cvi X (c_Js_isLatin1 l E S i (by omega)) hW (q_recvS X hW (by omega)) ok_Js_isLatin1 mw_524 ⟨by decide, by decide⟩ (As := []) rfl rfl (Nat.le_of_ble_eq_true rfl) (lv := [(0, .ref (eK E i)), (1, .int (nI j))]) hl ⟨Nat.le_refl 0, Nat.le_refl 0⟩ d_Js_charAt_1 (fun H locs hW => ?_)
  refine lv_if_eq (tgt := 16) X.x X.b d_Js_charAt_4 (by decide) (fun c4 => ?_) (fun c4 => ?_)
  · exact absurd c4 (by decide)
  · have c4 : ¬ 1 = 0 := fun z => c4 ((nI_eq (a := 1) (b := 0) (by omega) (by omega)).mpr z)
    refine lv_aload_n X.x X.b d_Js_charAt_7 rfl (lv_at hl 0 rfl) ?_
    refine vk_getf X.x X.b (X.Z.2.2.2.2.2.1.1 i (by omega)).2.2.1 hW.2.2 X.ow (X.ts _ mw_1190) (fun _ h => h) d_Js_charAt_8 ?_
    refine lv_iload_n X.x X.b d_Js_charAt_11 rfl (lv_at hl 1 rfl) ?_
    refine q_csi X (c_Jl_charAt l E S i (by omega) j (by omega)) hW ok_Jl_charAt mw_528 ⟨by decide, by decide⟩ (As := [.ref (eV E i), .int (nI j)]) rfl rfl (Nat.le_of_ble_eq_true rfl) (lv := [(0, .ref (eK E i)), (1, .int (nI j))]) hl ⟨Nat.le_refl 0, Nat.le_refl 0⟩ d_Js_charAt_12 (fun H locs hW => ?_)
    exact q_zret X (strC_all i hi j hj).2 hW ⟨rfl, rfl⟩ d_Js_charAt_15
set_option maxHeartbeats 1000000 in
set_option maxRecDepth 20000 in
theorem c_Tp_isLetter (l : Launch) (E : QE) (S : QM) (x : Int32) : qCI E l y_Tp_isLetter prog_5_method_13_code 1 .boolean 1 [.int x] S (b2i (isLt x)) S := by
  refine qCI_of (by decide) (Nat.le_of_ble_eq_true rfl) (fun p e s m below meth c ls X hW hl => ?_)
  have hl : lv_has ls 1 [(0, .int x)] := hl
  refine lv_bipush (v := nI 97) X.x X.b d_Tp_isLetter_0 (by decide) ?_
  refine lv_iload_n X.x X.b d_Tp_isLetter_2 rfl (lv_at hl 0 rfl) ?_
  refine lv_icmp_gt (tgt := 16) X.x X.b d_Tp_isLetter_3 (by decide) (fun c3 => ?_) (fun c3 => ?_)
  · refine lv_iconst (v := nI 0) X.x X.b d_Tp_isLetter_16 (by decide) ?_
    exact q_zret X (by decide) hW ⟨(b2i_f (fun z => Int32.not_lt.mpr z.1 c3)).symm, rfl⟩ d_Tp_isLetter_17
  · refine lv_iload_n X.x X.b d_Tp_isLetter_6 rfl (lv_at hl 0 rfl) ?_
    refine lv_bipush (v := nI 122) X.x X.b d_Tp_isLetter_7 (by decide) ?_
    refine lv_icmp_gt (tgt := 16) X.x X.b d_Tp_isLetter_9 (by decide) (fun c9 => ?_) (fun c9 => ?_)
    · refine lv_iconst (v := nI 0) X.x X.b d_Tp_isLetter_16 (by decide) ?_
      exact q_zret X (by decide) hW ⟨(b2i_f (fun z => Int32.not_lt.mpr z.2 c9)).symm, rfl⟩ d_Tp_isLetter_17
    · refine lv_iconst (v := nI 1) X.x X.b d_Tp_isLetter_12 (by decide) ?_
      refine lv_goto (tgt := 17) X.x X.b d_Tp_isLetter_13 (by decide) ?_
      exact q_zret X (by decide) hW ⟨(b2i_t ⟨Int32.not_lt.mp c3, Int32.not_lt.mp c9⟩).symm, rfl⟩ d_Tp_isLetter_17
set_option maxHeartbeats 1000000 in
set_option maxRecDepth 20000 in
theorem c_Tp_isDigit (l : Launch) (E : QE) (S : QM) (x : Int32) : qCI E l y_Tp_isDigit prog_5_method_14_code 1 .boolean 1 [.int x] S (b2i (isDg x)) S := by
  refine qCI_of (by decide) (Nat.le_of_ble_eq_true rfl) (fun p e s m below meth c ls X hW hl => ?_)
  have hl : lv_has ls 1 [(0, .int x)] := hl
  refine lv_bipush (v := nI 48) X.x X.b d_Tp_isDigit_0 (by decide) ?_
  refine lv_iload_n X.x X.b d_Tp_isDigit_2 rfl (lv_at hl 0 rfl) ?_
  refine lv_icmp_gt (tgt := 16) X.x X.b d_Tp_isDigit_3 (by decide) (fun c3 => ?_) (fun c3 => ?_)
  · refine lv_iconst (v := nI 0) X.x X.b d_Tp_isDigit_16 (by decide) ?_
    exact q_zret X (by decide) hW ⟨(b2i_f (fun z => Int32.not_lt.mpr z.1 c3)).symm, rfl⟩ d_Tp_isDigit_17
  · refine lv_iload_n X.x X.b d_Tp_isDigit_6 rfl (lv_at hl 0 rfl) ?_
    refine lv_bipush (v := nI 57) X.x X.b d_Tp_isDigit_7 (by decide) ?_
    refine lv_icmp_gt (tgt := 16) X.x X.b d_Tp_isDigit_9 (by decide) (fun c9 => ?_) (fun c9 => ?_)
    · refine lv_iconst (v := nI 0) X.x X.b d_Tp_isDigit_16 (by decide) ?_
      exact q_zret X (by decide) hW ⟨(b2i_f (fun z => Int32.not_lt.mpr z.2 c9)).symm, rfl⟩ d_Tp_isDigit_17
    · refine lv_iconst (v := nI 1) X.x X.b d_Tp_isDigit_12 (by decide) ?_
      refine lv_goto (tgt := 17) X.x X.b d_Tp_isDigit_13 (by decide) ?_
      exact q_zret X (by decide) hW ⟨(b2i_t ⟨Int32.not_lt.mp c3, Int32.not_lt.mp c9⟩).symm, rfl⟩ d_Tp_isDigit_17
set_option maxHeartbeats 1000000 in
set_option maxRecDepth 20000 in
theorem c_Tp_step (l : Launch) (E : QE) (S : QM) (θ σ : Nat → Int32) (hθ : S 4 = θ) (hσ : S 5 = σ) (len n : Nat) (kθ_1 : θ 1 = nI len) (kθ_2 : θ 2 = nI n) (hn : n ≤ len) (hlen : len ≤ 120) : qCPv E l y_Tp_step prog_5_method_12_code 1 3 [.ref (eA E 58)] S (any S 4 (tkOK σ len n)) := by
  refine qCPv_of (by decide) (Nat.le_of_ble_eq_true rfl) (fun p e s m below meth c ls X hW hl => ?_)
  have hl : lv_has ls 1 [(0, .ref (eA E 58))] := hl
  have hW : qWH E (qr S 4 θ) s s.heap [] := by rw [← hθ, qr_self]; exact hW
  have loop0 : ∀ (fu0 : Nat) (i : Nat) (μ : Nat → Int32), i ≤ len → n ≤ i → lst (fun i => ¬ σ i = nI 32) (len - i) i = tS σ len n → μ 1 = nI len → μ 2 = nI i → len - i < fu0 → ∀ (H : Heap) (locs : List Loc) (ls : Array Slot), qWH E (qr S 4 μ) s H locs → lv_has ls 1 [(0, .ref (eA E 58))] → W p l e (qRm 3) s m ([.ref (eA E 58)] : List Value).toArray below meth c H locs 0 0 (MQ below (qQpv E (any S 4 (tkOK σ len n)) s.heap.size) ([.ref (eA E 58)] : List Value).toArray s 0 0 (qAA E s.heap.size)) (F0 m 0 ls []) := by
    intro fu0
    induction fu0 with
    | zero =>
      intro i μ hi hni hL kμ_1 kμ_2 hfu
      exact absurd hfu (Nat.not_lt_zero _)
    | succ fu0 ih0 =>
      intro i μ hi hni hL kμ_1 kμ_2 hfu H locs ls hW hl
      refine lv_aload_n X.x X.b d_Tp_step_0 rfl (lv_at hl 0 rfl) ?_
      refine g_geti X hW qj2 rfl _ ds_T 2 (by decide) mw_146 rfl (r0 := 4) (p0 := 2) rfl (v := μ 2) (by rw [qr_at]) d_Tp_step_1 ?_
      rw [kμ_2]
      refine lv_aload_n X.x X.b d_Tp_step_4 rfl (lv_at hl 0 rfl) ?_
      refine g_geti X hW qj2 rfl _ ds_T 1 (by decide) mw_144 rfl (r0 := 4) (p0 := 1) rfl (v := μ 1) (by rw [qr_at]) d_Tp_step_5 ?_
      rw [kμ_1]
      refine lv_icmp_ge (tgt := 38) X.x X.b d_Tp_step_8 (by decide) (fun c8 => ?_) (fun c8 => ?_)
      · have c8 : len ≤ i := (nI_leI (a := len) (b := i) (by omega) (by omega)).mp c8
        have eS : i = tS σ len n := by rw [← hL]; first | exact (lst_f (fun z => absurd z (by omega))).symm | exact (lst_f (fun _ => c8)).symm
        refine lv_aload_n X.x X.b d_Tp_step_38 rfl (lv_at hl 0 rfl) ?_
        refine lv_aload_n X.x X.b d_Tp_step_39 rfl (lv_at hl 0 rfl) ?_
        refine g_geti X hW qj2 rfl _ ds_T 2 (by decide) mw_146 rfl (r0 := 4) (p0 := 2) rfl (v := μ 2) (by rw [qr_at]) d_Tp_step_40 ?_
        rw [kμ_2]
        refine g_puti X hW qj2 qp2 qn2 rfl _ ds_T 4 (by decide) mw_148 rfl rfl (r0 := 4) (p0 := 4) rfl rfl rfl (ρ := μ) (by rw [qr_at]) d_Tp_step_43 (fun H locs hW => ?_)
        obtain ⟨r43, er43⟩ : ∃ z, z = upd μ 4 (nI i) := ⟨_, rfl⟩
        rw [← er43] at hW
        have kr43_1 : r43 1 = nI len := by rw [er43, upN (by decide)]; exact kμ_1
        have kr43_2 : r43 2 = nI i := by rw [er43, upN (by decide)]; exact kμ_2
        have kr43_4 : r43 4 = nI i := by rw [er43, upd_at]
        rw [qr_qr] at hW
        refine lv_aload_n X.x X.b d_Tp_step_46 rfl (lv_at hl 0 rfl) ?_
        refine lv_iconst (v := nI 0) X.x X.b d_Tp_step_47 (by decide) ?_
        refine g_puti X hW qj2 qp2 qn2 rfl _ ds_T 5 (by decide) mw_149 rfl rfl (r0 := 4) (p0 := 5) rfl rfl rfl (ρ := r43) (by rw [qr_at]) d_Tp_step_48 (fun H locs hW => ?_)
        obtain ⟨r48, er48⟩ : ∃ z, z = upd r43 5 (nI 0) := ⟨_, rfl⟩
        rw [← er48] at hW
        have kr48_1 : r48 1 = nI len := by rw [er48, upN (by decide)]; exact kr43_1
        have kr48_2 : r48 2 = nI i := by rw [er48, upN (by decide)]; exact kr43_2
        have kr48_4 : r48 4 = nI i := by rw [er48, upN (by decide)]; exact kr43_4
        have kr48_5 : r48 5 = nI 0 := by rw [er48, upd_at]
        rw [qr_qr] at hW
        refine lv_aload_n X.x X.b d_Tp_step_51 rfl (lv_at hl 0 rfl) ?_
        refine g_geti X hW qj2 rfl _ ds_T 2 (by decide) mw_146 rfl (r0 := 4) (p0 := 2) rfl (v := r48 2) (by rw [qr_at]) d_Tp_step_52 ?_
        rw [kr48_2]
        refine lv_aload_n X.x X.b d_Tp_step_55 rfl (lv_at hl 0 rfl) ?_
        refine g_geti X hW qj2 rfl _ ds_T 1 (by decide) mw_144 rfl (r0 := 4) (p0 := 1) rfl (v := r48 1) (by rw [qr_at]) d_Tp_step_56 ?_
        rw [kr48_1]
        refine lv_icmp_lt (tgt := 70) X.x X.b d_Tp_step_59 (by decide) (fun c59 => ?_) (fun c59 => ?_)
        · have c59 : i < len := (nI_ltI (a := i) (b := len) (by omega) (by omega)).mp c59
          refine lv_aload_n X.x X.b d_Tp_step_70 rfl (lv_at hl 0 rfl) ?_
          refine q_getr X hW qj2 rfl _ ds_T 0 (by decide) mw_143 rfl (c1 := 59) rfl d_Tp_step_71 ?_
          refine lv_aload_n X.x X.b d_Tp_step_74 rfl (lv_at hl 0 rfl) ?_
          refine g_geti X hW qj2 rfl _ ds_T 2 (by decide) mw_146 rfl (r0 := 4) (p0 := 2) rfl (v := r48 2) (by rw [qr_at]) d_Tp_step_75 ?_
          rw [kr48_2]
          refine g_ald X hW ds_tb (q_in (by omega) (by decide)) (p0 := i) (q_tn (by omega) (by omega)) (v := σ i) (by rw [qr_ne (by omega), hσ]) d_Tp_step_78 ?_
          refine q_csi X (c_Tp_isLetter l E (qr S 4 r48) (σ i)) hW ok_Tp_isLetter mw_494 ⟨by decide, by decide⟩ (As := [.int (σ i)]) rfl rfl (Nat.le_of_ble_eq_true rfl) (lv := [(0, .ref (eA E 58))]) hl ⟨Nat.le_refl 0, Nat.le_refl 0⟩ d_Tp_step_79 (fun H locs hW => ?_)
          refine lv_if_eq (tgt := 129) X.x X.b d_Tp_step_82 (by decide) (fun c82 => ?_) (fun c82 => ?_)
          · have c82 := b2i_e c82
            refine lv_aload_n X.x X.b d_Tp_step_129 rfl (lv_at hl 0 rfl) ?_
            refine q_getr X hW qj2 rfl _ ds_T 0 (by decide) mw_143 rfl (c1 := 59) rfl d_Tp_step_130 ?_
            refine lv_aload_n X.x X.b d_Tp_step_133 rfl (lv_at hl 0 rfl) ?_
            refine g_geti X hW qj2 rfl _ ds_T 2 (by decide) mw_146 rfl (r0 := 4) (p0 := 2) rfl (v := r48 2) (by rw [qr_at]) d_Tp_step_134 ?_
            rw [kr48_2]
            refine g_ald X hW ds_tb (q_in (by omega) (by decide)) (p0 := i) (q_tn (by omega) (by omega)) (v := σ i) (by rw [qr_ne (by omega), hσ]) d_Tp_step_137 ?_
            refine q_csi X (c_Tp_isDigit l E (qr S 4 r48) (σ i)) hW ok_Tp_isDigit mw_497 ⟨by decide, by decide⟩ (As := [.int (σ i)]) rfl rfl (Nat.le_of_ble_eq_true rfl) (lv := [(0, .ref (eA E 58))]) hl ⟨Nat.le_refl 0, Nat.le_refl 0⟩ d_Tp_step_138 (fun H locs hW => ?_)
            refine lv_if_eq (tgt := 218) X.x X.b d_Tp_step_141 (by decide) (fun c141 => ?_) (fun c141 => ?_)
            · have c141 := b2i_e c141
              refine lv_aload_n X.x X.b d_Tp_step_218 rfl (lv_at hl 0 rfl) ?_
              refine lv_aload_n X.x X.b d_Tp_step_219 rfl (lv_at hl 0 rfl) ?_
              refine q_getr X hW qj2 rfl _ ds_T 0 (by decide) mw_143 rfl (c1 := 59) rfl d_Tp_step_220 ?_
              refine lv_aload_n X.x X.b d_Tp_step_223 rfl (lv_at hl 0 rfl) ?_
              refine g_geti X hW qj2 rfl _ ds_T 2 (by decide) mw_146 rfl (r0 := 4) (p0 := 2) rfl (v := r48 2) (by rw [qr_at]) d_Tp_step_224 ?_
              rw [kr48_2]
              refine g_ald X hW ds_tb (q_in (by omega) (by decide)) (p0 := i) (q_tn (by omega) (by omega)) (v := σ i) (by rw [qr_ne (by omega), hσ]) d_Tp_step_227 ?_
              refine lv_bipush (v := nI 59) X.x X.b d_Tp_step_228 (by decide) ?_
              refine lv_icmp_ne (tgt := 237) X.x X.b d_Tp_step_230 (by decide) (fun c230 => ?_) (fun c230 => ?_)
              · refine lv_iconst (v := nI 4) X.x X.b d_Tp_step_237 (by decide) ?_
                refine g_puti X hW qj2 qp2 qn2 rfl _ ds_T 3 (by decide) mw_147 rfl rfl (r0 := 4) (p0 := 3) rfl rfl rfl (ρ := r48) (by rw [qr_at]) d_Tp_step_238 (fun H locs hW => ?_)
                obtain ⟨r238, er238⟩ : ∃ z, z = upd r48 3 (nI 4) := ⟨_, rfl⟩
                rw [← er238] at hW
                have kr238_1 : r238 1 = nI len := by rw [er238, upN (by decide)]; exact kr48_1
                have kr238_2 : r238 2 = nI i := by rw [er238, upN (by decide)]; exact kr48_2
                have kr238_4 : r238 4 = nI i := by rw [er238, upN (by decide)]; exact kr48_4
                have kr238_5 : r238 5 = nI 0 := by rw [er238, upN (by decide)]; exact kr48_5
                have kr238_3 : r238 3 = nI 4 := by rw [er238, upd_at]
                rw [qr_qr] at hW
                refine lv_aload_n X.x X.b d_Tp_step_241 rfl (lv_at hl 0 rfl) ?_
                refine lv_dup X.x X.b d_Tp_step_242 rfl ?_
                refine g_geti X hW qj2 rfl _ ds_T 2 (by decide) mw_146 rfl (r0 := 4) (p0 := 2) rfl (v := r238 2) (by rw [qr_at]) d_Tp_step_243 ?_
                rw [kr238_2]
                refine lv_iconst (v := nI 1) X.x X.b d_Tp_step_246 (by decide) ?_
                refine lv_iadd X.x X.b d_Tp_step_247 ?_
                rw [nI_add]
                refine g_puti X hW qj2 qp2 qn2 rfl _ ds_T 2 (by decide) mw_146 rfl rfl (r0 := 4) (p0 := 2) rfl rfl rfl (ρ := r238) (by rw [qr_at]) d_Tp_step_248 (fun H locs hW => ?_)
                obtain ⟨r248, er248⟩ : ∃ z, z = upd r238 2 (nI (i + 1)) := ⟨_, rfl⟩
                rw [← er248] at hW
                have kr248_1 : r248 1 = nI len := by rw [er248, upN (by decide)]; exact kr238_1
                have kr248_2 : r248 2 = nI (i + 1) := by rw [er248, upd_at]
                have kr248_3 : r248 3 = nI 4 := by rw [er248, upN (by decide)]; exact kr238_3
                have kr248_4 : r248 4 = nI i := by rw [er248, upN (by decide)]; exact kr238_4
                have kr248_5 : r248 5 = nI 0 := by rw [er248, upN (by decide)]; exact kr238_5
                rw [qr_qr] at hW
                have eN : tN σ len n = i + 1 := by unfold tN; rw [← eS, if_neg (show ¬ ¬ i < len by omega), if_neg c82, if_neg c141]
                have eT : tK σ len n = 4 := by unfold tK; rw [← eS, if_neg (show ¬ ¬ i < len by omega), if_neg c82, if_neg c141, if_neg c230]
                have eV : tV σ len n = nI 0 := by unfold tV; rw [← eS, if_neg (show ¬ ¬ i < len by omega), if_neg c82, if_neg c141]
                exact q_pvret X hW ⟨r248, ⟨kr248_1, by rw [kr248_2, eN], by rw [kr248_3, eT], by rw [kr248_4, eS], by rw [kr248_5, eV]⟩, rfl⟩ d_Tp_step_251
              · refine lv_iconst (v := nI 3) X.x X.b d_Tp_step_233 (by decide) ?_
                refine lv_goto (tgt := 238) X.x X.b d_Tp_step_234 (by decide) ?_
                refine g_puti X hW qj2 qp2 qn2 rfl _ ds_T 3 (by decide) mw_147 rfl rfl (r0 := 4) (p0 := 3) rfl rfl rfl (ρ := r48) (by rw [qr_at]) d_Tp_step_238 (fun H locs hW => ?_)
                obtain ⟨r238, er238⟩ : ∃ z, z = upd r48 3 (nI 3) := ⟨_, rfl⟩
                rw [← er238] at hW
                have kr238_1 : r238 1 = nI len := by rw [er238, upN (by decide)]; exact kr48_1
                have kr238_2 : r238 2 = nI i := by rw [er238, upN (by decide)]; exact kr48_2
                have kr238_4 : r238 4 = nI i := by rw [er238, upN (by decide)]; exact kr48_4
                have kr238_5 : r238 5 = nI 0 := by rw [er238, upN (by decide)]; exact kr48_5
                have kr238_3 : r238 3 = nI 3 := by rw [er238, upd_at]
                rw [qr_qr] at hW
                refine lv_aload_n X.x X.b d_Tp_step_241 rfl (lv_at hl 0 rfl) ?_
                refine lv_dup X.x X.b d_Tp_step_242 rfl ?_
                refine g_geti X hW qj2 rfl _ ds_T 2 (by decide) mw_146 rfl (r0 := 4) (p0 := 2) rfl (v := r238 2) (by rw [qr_at]) d_Tp_step_243 ?_
                rw [kr238_2]
                refine lv_iconst (v := nI 1) X.x X.b d_Tp_step_246 (by decide) ?_
                refine lv_iadd X.x X.b d_Tp_step_247 ?_
                rw [nI_add]
                refine g_puti X hW qj2 qp2 qn2 rfl _ ds_T 2 (by decide) mw_146 rfl rfl (r0 := 4) (p0 := 2) rfl rfl rfl (ρ := r238) (by rw [qr_at]) d_Tp_step_248 (fun H locs hW => ?_)
                obtain ⟨r248, er248⟩ : ∃ z, z = upd r238 2 (nI (i + 1)) := ⟨_, rfl⟩
                rw [← er248] at hW
                have kr248_1 : r248 1 = nI len := by rw [er248, upN (by decide)]; exact kr238_1
                have kr248_2 : r248 2 = nI (i + 1) := by rw [er248, upd_at]
                have kr248_3 : r248 3 = nI 3 := by rw [er248, upN (by decide)]; exact kr238_3
                have kr248_4 : r248 4 = nI i := by rw [er248, upN (by decide)]; exact kr238_4
                have kr248_5 : r248 5 = nI 0 := by rw [er248, upN (by decide)]; exact kr238_5
                rw [qr_qr] at hW
                have eN : tN σ len n = i + 1 := by unfold tN; rw [← eS, if_neg (show ¬ ¬ i < len by omega), if_neg c82, if_neg c141]
                have eT : tK σ len n = 3 := by unfold tK; rw [← eS, if_neg (show ¬ ¬ i < len by omega), if_neg c82, if_neg c141, if_pos c230]
                have eV : tV σ len n = nI 0 := by unfold tV; rw [← eS, if_neg (show ¬ ¬ i < len by omega), if_neg c82, if_neg c141]
                exact q_pvret X hW ⟨r248, ⟨kr248_1, by rw [kr248_2, eN], by rw [kr248_3, eT], by rw [kr248_4, eS], by rw [kr248_5, eV]⟩, rfl⟩ d_Tp_step_251
            · have c141 := b2i_n c141
              refine lv_aload_n X.x X.b d_Tp_step_144 rfl (lv_at hl 0 rfl) ?_
              refine lv_iconst (v := nI 2) X.x X.b d_Tp_step_145 (by decide) ?_
              refine g_puti X hW qj2 qp2 qn2 rfl _ ds_T 3 (by decide) mw_147 rfl rfl (r0 := 4) (p0 := 3) rfl rfl rfl (ρ := r48) (by rw [qr_at]) d_Tp_step_146 (fun H locs hW => ?_)
              obtain ⟨r146, er146⟩ : ∃ z, z = upd r48 3 (nI 2) := ⟨_, rfl⟩
              rw [← er146] at hW
              have kr146_1 : r146 1 = nI len := by rw [er146, upN (by decide)]; exact kr48_1
              have kr146_2 : r146 2 = nI i := by rw [er146, upN (by decide)]; exact kr48_2
              have kr146_4 : r146 4 = nI i := by rw [er146, upN (by decide)]; exact kr48_4
              have kr146_5 : r146 5 = nI 0 := by rw [er146, upN (by decide)]; exact kr48_5
              have kr146_3 : r146 3 = nI 2 := by rw [er146, upd_at]
              rw [qr_qr] at hW
              have loop149 : ∀ (fu149 : Nat) (j : Nat) (ν : Nat → Int32), i ≤ j → j ≤ len → lst (fun q => ¬ isDg (σ q)) (len - j) j = eD σ len i → ν 1 = nI len → ν 2 = nI j → ν 3 = nI 2 → ν 4 = nI i → ν 5 = nmS σ i (j - i) → len - j < fu149 → ∀ (H : Heap) (locs : List Loc) (ls : Array Slot), qWH E (qr S 4 ν) s H locs → lv_has ls 1 [(0, .ref (eA E 58))] → W p l e (qRm 3) s m ([.ref (eA E 58)] : List Value).toArray below meth c H locs 0 0 (MQ below (qQpv E (any S 4 (tkOK σ len n)) s.heap.size) ([.ref (eA E 58)] : List Value).toArray s 0 0 (qAA E s.heap.size)) (F0 m 149 ls []) := by
                intro fu149
                induction fu149 with
                | zero =>
                  intro j ν hij hj hB kν_1 kν_2 kν_3 kν_4 kν_5 hfu
                  exact absurd hfu (Nat.not_lt_zero _)
                | succ fu149 ih149 =>
                  intro j ν hij hj hB kν_1 kν_2 kν_3 kν_4 kν_5 hfu H locs ls hW hl
                  refine lv_aload_n X.x X.b d_Tp_step_149 rfl (lv_at hl 0 rfl) ?_
                  refine g_geti X hW qj2 rfl _ ds_T 2 (by decide) mw_146 rfl (r0 := 4) (p0 := 2) rfl (v := ν 2) (by rw [qr_at]) d_Tp_step_150 ?_
                  rw [kν_2]
                  refine lv_aload_n X.x X.b d_Tp_step_153 rfl (lv_at hl 0 rfl) ?_
                  refine g_geti X hW qj2 rfl _ ds_T 1 (by decide) mw_144 rfl (r0 := 4) (p0 := 1) rfl (v := ν 1) (by rw [qr_at]) d_Tp_step_154 ?_
                  rw [kν_1]
                  refine lv_icmp_ge (tgt := 251) X.x X.b d_Tp_step_157 (by decide) (fun c157 => ?_) (fun c157 => ?_)
                  · have c157 : len ≤ j := (nI_leI (a := len) (b := j) (by omega) (by omega)).mp c157
                    have eJ : eD σ len i = j := by rw [← hB]; first | exact lst_f (fun z => absurd z (by omega)) | exact lst_f (fun _ => c172)
                    have eN : tN σ len n = j := by unfold tN; rw [← eS, if_neg (show ¬ ¬ i < len by omega), if_neg c82, if_pos c141, eJ]
                    have eT : tK σ len n = 2 := by unfold tK; rw [← eS, if_neg (show ¬ ¬ i < len by omega), if_neg c82, if_pos c141]
                    have eV : tV σ len n = nmS σ i (j - i) := by unfold tV; rw [← eS, if_neg (show ¬ ¬ i < len by omega), if_neg c82, if_pos c141, eJ]
                    exact q_pvret X hW ⟨ν, ⟨kν_1, by rw [kν_2, eN], by rw [kν_3, eT], by rw [kν_4, eS], by rw [kν_5, eV]⟩, rfl⟩ d_Tp_step_251
                  · have c157 : ¬ len ≤ j := fun z => c157 ((nI_leI (a := len) (b := j) (by omega) (by omega)).mpr z)
                    refine lv_aload_n X.x X.b d_Tp_step_160 rfl (lv_at hl 0 rfl) ?_
                    refine q_getr X hW qj2 rfl _ ds_T 0 (by decide) mw_143 rfl (c1 := 59) rfl d_Tp_step_161 ?_
                    refine lv_aload_n X.x X.b d_Tp_step_164 rfl (lv_at hl 0 rfl) ?_
                    refine g_geti X hW qj2 rfl _ ds_T 2 (by decide) mw_146 rfl (r0 := 4) (p0 := 2) rfl (v := ν 2) (by rw [qr_at]) d_Tp_step_165 ?_
                    rw [kν_2]
                    refine g_ald X hW ds_tb (q_in (by omega) (by decide)) (p0 := j) (q_tn (by omega) (by omega)) (v := σ j) (by rw [qr_ne (by omega), hσ]) d_Tp_step_168 ?_
                    refine q_csi X (c_Tp_isDigit l E (qr S 4 ν) (σ j)) hW ok_Tp_isDigit mw_497 ⟨by decide, by decide⟩ (As := [.int (σ j)]) rfl rfl (Nat.le_of_ble_eq_true rfl) (lv := [(0, .ref (eA E 58))]) hl ⟨Nat.le_refl 0, Nat.le_refl 0⟩ d_Tp_step_169 (fun H locs hW => ?_)
                    refine lv_if_eq (tgt := 251) X.x X.b d_Tp_step_172 (by decide) (fun c172 => ?_) (fun c172 => ?_)
                    · have c172 := b2i_e c172
                      have eJ : eD σ len i = j := by rw [← hB]; first | exact lst_f (fun z => absurd z (by omega)) | exact lst_f (fun _ => c172)
                      have eN : tN σ len n = j := by unfold tN; rw [← eS, if_neg (show ¬ ¬ i < len by omega), if_neg c82, if_pos c141, eJ]
                      have eT : tK σ len n = 2 := by unfold tK; rw [← eS, if_neg (show ¬ ¬ i < len by omega), if_neg c82, if_pos c141]
                      have eV : tV σ len n = nmS σ i (j - i) := by unfold tV; rw [← eS, if_neg (show ¬ ¬ i < len by omega), if_neg c82, if_pos c141, eJ]
                      exact q_pvret X hW ⟨ν, ⟨kν_1, by rw [kν_2, eN], by rw [kν_3, eT], by rw [kν_4, eS], by rw [kν_5, eV]⟩, rfl⟩ d_Tp_step_251
                    · have c172 := b2i_n c172
                      refine lv_aload_n X.x X.b d_Tp_step_175 rfl (lv_at hl 0 rfl) ?_
                      refine lv_bipush (v := nI 10) X.x X.b d_Tp_step_176 (by decide) ?_
                      refine lv_aload_n X.x X.b d_Tp_step_178 rfl (lv_at hl 0 rfl) ?_
                      refine g_geti X hW qj2 rfl _ ds_T 5 (by decide) mw_149 rfl (r0 := 4) (p0 := 5) rfl (v := ν 5) (by rw [qr_at]) d_Tp_step_179 ?_
                      rw [kν_5]
                      refine lv_imul X.x X.b d_Tp_step_182 ?_
                      refine lv_aload_n X.x X.b d_Tp_step_183 rfl (lv_at hl 0 rfl) ?_
                      refine q_getr X hW qj2 rfl _ ds_T 0 (by decide) mw_143 rfl (c1 := 59) rfl d_Tp_step_184 ?_
                      refine lv_aload_n X.x X.b d_Tp_step_187 rfl (lv_at hl 0 rfl) ?_
                      refine g_geti X hW qj2 rfl _ ds_T 2 (by decide) mw_146 rfl (r0 := 4) (p0 := 2) rfl (v := ν 2) (by rw [qr_at]) d_Tp_step_188 ?_
                      rw [kν_2]
                      refine g_ald X hW ds_tb (q_in (by omega) (by decide)) (p0 := j) (q_tn (by omega) (by omega)) (v := σ j) (by rw [qr_ne (by omega), hσ]) d_Tp_step_191 ?_
                      refine lv_iadd X.x X.b d_Tp_step_192 ?_
                      refine lv_bipush (v := nI 48) X.x X.b d_Tp_step_193 (by decide) ?_
                      refine lv_isub X.x X.b d_Tp_step_195 ?_
                      refine lv_sipush (v := nI 1000) X.x X.b d_Tp_step_196 (by decide) ?_
                      refine va_mmin X.x X.b (X.ml.trans hl.1.symm) X.ow (X.ts _ mw_500) (X.ts _ (qTB_in (i := 324) (by decide +kernel) rfl)) (X.ts _ (qTB_in (i := 73) (by decide +kernel) rfl)) (X.ts _ (qTB_in (i := 325) (by decide +kernel) rfl)) (by decide) (Nat.le_of_ble_eq_true rfl) (Nat.le_refl 0) (Nat.le_refl 0) d_Tp_step_199 ?_
                      refine lv_topi (fun x199 ex199 => ?_)
                      refine g_puti X hW qj2 qp2 qn2 rfl _ ds_T 5 (by decide) mw_149 rfl rfl (r0 := 4) (p0 := 5) rfl rfl rfl (ρ := ν) (by rw [qr_at]) d_Tp_step_202 (fun H locs hW => ?_)
                      obtain ⟨r202, er202⟩ : ∃ z, z = upd ν 5 x199 := ⟨_, rfl⟩
                      rw [← er202] at hW
                      have kr202_1 : r202 1 = nI len := by rw [er202, upN (by decide)]; exact kν_1
                      have kr202_2 : r202 2 = nI j := by rw [er202, upN (by decide)]; exact kν_2
                      have kr202_3 : r202 3 = nI 2 := by rw [er202, upN (by decide)]; exact kν_3
                      have kr202_4 : r202 4 = nI i := by rw [er202, upN (by decide)]; exact kν_4
                      have kr202_5 : r202 5 = x199 := by rw [er202, upd_at]
                      rw [qr_qr] at hW
                      refine lv_aload_n X.x X.b d_Tp_step_205 rfl (lv_at hl 0 rfl) ?_
                      refine lv_dup X.x X.b d_Tp_step_206 rfl ?_
                      refine g_geti X hW qj2 rfl _ ds_T 2 (by decide) mw_146 rfl (r0 := 4) (p0 := 2) rfl (v := r202 2) (by rw [qr_at]) d_Tp_step_207 ?_
                      rw [kr202_2]
                      refine lv_iconst (v := nI 1) X.x X.b d_Tp_step_210 (by decide) ?_
                      refine lv_iadd X.x X.b d_Tp_step_211 ?_
                      rw [nI_add]
                      refine g_puti X hW qj2 qp2 qn2 rfl _ ds_T 2 (by decide) mw_146 rfl rfl (r0 := 4) (p0 := 2) rfl rfl rfl (ρ := r202) (by rw [qr_at]) d_Tp_step_212 (fun H locs hW => ?_)
                      obtain ⟨r212, er212⟩ : ∃ z, z = upd r202 2 (nI (j + 1)) := ⟨_, rfl⟩
                      rw [← er212] at hW
                      have kr212_1 : r212 1 = nI len := by rw [er212, upN (by decide)]; exact kr202_1
                      have kr212_2 : r212 2 = nI (j + 1) := by rw [er212, upd_at]
                      have kr212_3 : r212 3 = nI 2 := by rw [er212, upN (by decide)]; exact kr202_3
                      have kr212_4 : r212 4 = nI i := by rw [er212, upN (by decide)]; exact kr202_4
                      have kr212_5 : r212 5 = x199 := by rw [er212, upN (by decide)]; exact kr202_5
                      rw [qr_qr] at hW
                      refine lv_goto (tgt := 149) X.x X.b d_Tp_step_215 (by decide) ?_
                      exact ih149 (j + 1) r212 (by omega) (by omega) (by rw [← hB]; exact (lst_t (by omega) (fun z => z c172)).symm) kr212_1 kr212_2 kr212_3 kr212_4 (by rw [kr212_5, ex199, show j + 1 - i = (j - i) + 1 by omega]; show _ = imn (nI 10 * nmS σ i (j - i) + σ (i + (j - i)) - nI 48) (nI 1000); rw [show i + (j - i) = j by omega]; rfl) (by omega) _ _ _ hW (lv_sub hl [0] rfl)
              exact loop149 (len - i + 1) i r146 (Nat.le_refl _) (by omega) rfl kr146_1 kr146_2 kr146_3 kr146_4 (by rw [kr146_5, Nat.sub_self]; rfl) (Nat.lt_succ_self _) _ _ _ hW (lv_sub hl [0] rfl)
          · have c82 := b2i_n c82
            refine lv_aload_n X.x X.b d_Tp_step_85 rfl (lv_at hl 0 rfl) ?_
            refine lv_iconst (v := nI 1) X.x X.b d_Tp_step_86 (by decide) ?_
            refine g_puti X hW qj2 qp2 qn2 rfl _ ds_T 3 (by decide) mw_147 rfl rfl (r0 := 4) (p0 := 3) rfl rfl rfl (ρ := r48) (by rw [qr_at]) d_Tp_step_87 (fun H locs hW => ?_)
            obtain ⟨r87, er87⟩ : ∃ z, z = upd r48 3 (nI 1) := ⟨_, rfl⟩
            rw [← er87] at hW
            have kr87_1 : r87 1 = nI len := by rw [er87, upN (by decide)]; exact kr48_1
            have kr87_2 : r87 2 = nI i := by rw [er87, upN (by decide)]; exact kr48_2
            have kr87_4 : r87 4 = nI i := by rw [er87, upN (by decide)]; exact kr48_4
            have kr87_5 : r87 5 = nI 0 := by rw [er87, upN (by decide)]; exact kr48_5
            have kr87_3 : r87 3 = nI 1 := by rw [er87, upd_at]
            rw [qr_qr] at hW
            have loop90 : ∀ (fu90 : Nat) (j : Nat) (κ : Nat → Int32), i ≤ j → j ≤ len → lst (fun q => ¬ isLt (σ q)) (len - j) j = eL σ len i → κ 1 = nI len → κ 2 = nI j → κ 3 = nI 1 → κ 4 = nI i → κ 5 = nI 0 → len - j < fu90 → ∀ (H : Heap) (locs : List Loc) (ls : Array Slot), qWH E (qr S 4 κ) s H locs → lv_has ls 1 [(0, .ref (eA E 58))] → W p l e (qRm 3) s m ([.ref (eA E 58)] : List Value).toArray below meth c H locs 0 0 (MQ below (qQpv E (any S 4 (tkOK σ len n)) s.heap.size) ([.ref (eA E 58)] : List Value).toArray s 0 0 (qAA E s.heap.size)) (F0 m 90 ls []) := by
              intro fu90
              induction fu90 with
              | zero =>
                intro j κ hij hj hB kκ_1 kκ_2 kκ_3 kκ_4 kκ_5 hfu
                exact absurd hfu (Nat.not_lt_zero _)
              | succ fu90 ih90 =>
                intro j κ hij hj hB kκ_1 kκ_2 kκ_3 kκ_4 kκ_5 hfu H locs ls hW hl
                refine lv_aload_n X.x X.b d_Tp_step_90 rfl (lv_at hl 0 rfl) ?_
                refine g_geti X hW qj2 rfl _ ds_T 2 (by decide) mw_146 rfl (r0 := 4) (p0 := 2) rfl (v := κ 2) (by rw [qr_at]) d_Tp_step_91 ?_
                rw [kκ_2]
                refine lv_aload_n X.x X.b d_Tp_step_94 rfl (lv_at hl 0 rfl) ?_
                refine g_geti X hW qj2 rfl _ ds_T 1 (by decide) mw_144 rfl (r0 := 4) (p0 := 1) rfl (v := κ 1) (by rw [qr_at]) d_Tp_step_95 ?_
                rw [kκ_1]
                refine lv_icmp_ge (tgt := 251) X.x X.b d_Tp_step_98 (by decide) (fun c98 => ?_) (fun c98 => ?_)
                · have c98 : len ≤ j := (nI_leI (a := len) (b := j) (by omega) (by omega)).mp c98
                  have eJ : eL σ len i = j := by rw [← hB]; first | exact lst_f (fun z => absurd z (by omega)) | exact lst_f (fun _ => c113)
                  have eN : tN σ len n = j := by unfold tN; rw [← eS, if_neg (show ¬ ¬ i < len by omega), if_pos c82, eJ]
                  have eT : tK σ len n = 1 := by unfold tK; rw [← eS, if_neg (show ¬ ¬ i < len by omega), if_pos c82]
                  have eV : tV σ len n = nI 0 := by unfold tV; rw [← eS, if_neg (show ¬ ¬ i < len by omega), if_pos c82]
                  exact q_pvret X hW ⟨κ, ⟨kκ_1, by rw [kκ_2, eN], by rw [kκ_3, eT], by rw [kκ_4, eS], by rw [kκ_5, eV]⟩, rfl⟩ d_Tp_step_251
                · have c98 : ¬ len ≤ j := fun z => c98 ((nI_leI (a := len) (b := j) (by omega) (by omega)).mpr z)
                  refine lv_aload_n X.x X.b d_Tp_step_101 rfl (lv_at hl 0 rfl) ?_
                  refine q_getr X hW qj2 rfl _ ds_T 0 (by decide) mw_143 rfl (c1 := 59) rfl d_Tp_step_102 ?_
                  refine lv_aload_n X.x X.b d_Tp_step_105 rfl (lv_at hl 0 rfl) ?_
                  refine g_geti X hW qj2 rfl _ ds_T 2 (by decide) mw_146 rfl (r0 := 4) (p0 := 2) rfl (v := κ 2) (by rw [qr_at]) d_Tp_step_106 ?_
                  rw [kκ_2]
                  refine g_ald X hW ds_tb (q_in (by omega) (by decide)) (p0 := j) (q_tn (by omega) (by omega)) (v := σ j) (by rw [qr_ne (by omega), hσ]) d_Tp_step_109 ?_
                  refine q_csi X (c_Tp_isLetter l E (qr S 4 κ) (σ j)) hW ok_Tp_isLetter mw_494 ⟨by decide, by decide⟩ (As := [.int (σ j)]) rfl rfl (Nat.le_of_ble_eq_true rfl) (lv := [(0, .ref (eA E 58))]) hl ⟨Nat.le_refl 0, Nat.le_refl 0⟩ d_Tp_step_110 (fun H locs hW => ?_)
                  refine lv_if_eq (tgt := 251) X.x X.b d_Tp_step_113 (by decide) (fun c113 => ?_) (fun c113 => ?_)
                  · have c113 := b2i_e c113
                    have eJ : eL σ len i = j := by rw [← hB]; first | exact lst_f (fun z => absurd z (by omega)) | exact lst_f (fun _ => c113)
                    have eN : tN σ len n = j := by unfold tN; rw [← eS, if_neg (show ¬ ¬ i < len by omega), if_pos c82, eJ]
                    have eT : tK σ len n = 1 := by unfold tK; rw [← eS, if_neg (show ¬ ¬ i < len by omega), if_pos c82]
                    have eV : tV σ len n = nI 0 := by unfold tV; rw [← eS, if_neg (show ¬ ¬ i < len by omega), if_pos c82]
                    exact q_pvret X hW ⟨κ, ⟨kκ_1, by rw [kκ_2, eN], by rw [kκ_3, eT], by rw [kκ_4, eS], by rw [kκ_5, eV]⟩, rfl⟩ d_Tp_step_251
                  · have c113 := b2i_n c113
                    refine lv_aload_n X.x X.b d_Tp_step_116 rfl (lv_at hl 0 rfl) ?_
                    refine lv_dup X.x X.b d_Tp_step_117 rfl ?_
                    refine g_geti X hW qj2 rfl _ ds_T 2 (by decide) mw_146 rfl (r0 := 4) (p0 := 2) rfl (v := κ 2) (by rw [qr_at]) d_Tp_step_118 ?_
                    rw [kκ_2]
                    refine lv_iconst (v := nI 1) X.x X.b d_Tp_step_121 (by decide) ?_
                    refine lv_iadd X.x X.b d_Tp_step_122 ?_
                    rw [nI_add]
                    refine g_puti X hW qj2 qp2 qn2 rfl _ ds_T 2 (by decide) mw_146 rfl rfl (r0 := 4) (p0 := 2) rfl rfl rfl (ρ := κ) (by rw [qr_at]) d_Tp_step_123 (fun H locs hW => ?_)
                    obtain ⟨r123, er123⟩ : ∃ z, z = upd κ 2 (nI (j + 1)) := ⟨_, rfl⟩
                    rw [← er123] at hW
                    have kr123_1 : r123 1 = nI len := by rw [er123, upN (by decide)]; exact kκ_1
                    have kr123_2 : r123 2 = nI (j + 1) := by rw [er123, upd_at]
                    have kr123_3 : r123 3 = nI 1 := by rw [er123, upN (by decide)]; exact kκ_3
                    have kr123_4 : r123 4 = nI i := by rw [er123, upN (by decide)]; exact kκ_4
                    have kr123_5 : r123 5 = nI 0 := by rw [er123, upN (by decide)]; exact kκ_5
                    rw [qr_qr] at hW
                    refine lv_goto (tgt := 90) X.x X.b d_Tp_step_126 (by decide) ?_
                    exact ih90 (j + 1) r123 (by omega) (by omega) (by rw [← hB]; exact (lst_t (by omega) (fun z => z c113)).symm) kr123_1 kr123_2 kr123_3 kr123_4 kr123_5 (by omega) _ _ _ hW (lv_sub hl [0] rfl)
            exact loop90 (len - i + 1) i r87 (Nat.le_refl _) (by omega) rfl kr87_1 kr87_2 kr87_3 kr87_4 kr87_5 (Nat.lt_succ_self _) _ _ _ hW (lv_sub hl [0] rfl)
        · have c59 : ¬ i < len := fun z => c59 ((nI_ltI (a := i) (b := len) (by omega) (by omega)).mpr z)
          refine lv_aload_n X.x X.b d_Tp_step_62 rfl (lv_at hl 0 rfl) ?_
          refine lv_iconst (v := nI 0) X.x X.b d_Tp_step_63 (by decide) ?_
          refine g_puti X hW qj2 qp2 qn2 rfl _ ds_T 3 (by decide) mw_147 rfl rfl (r0 := 4) (p0 := 3) rfl rfl rfl (ρ := r48) (by rw [qr_at]) d_Tp_step_64 (fun H locs hW => ?_)
          obtain ⟨r64, er64⟩ : ∃ z, z = upd r48 3 (nI 0) := ⟨_, rfl⟩
          rw [← er64] at hW
          have kr64_1 : r64 1 = nI len := by rw [er64, upN (by decide)]; exact kr48_1
          have kr64_2 : r64 2 = nI i := by rw [er64, upN (by decide)]; exact kr48_2
          have kr64_4 : r64 4 = nI i := by rw [er64, upN (by decide)]; exact kr48_4
          have kr64_5 : r64 5 = nI 0 := by rw [er64, upN (by decide)]; exact kr48_5
          have kr64_3 : r64 3 = nI 0 := by rw [er64, upd_at]
          rw [qr_qr] at hW
          refine lv_goto (tgt := 251) X.x X.b d_Tp_step_67 (by decide) ?_
          have eN : tN σ len n = i := by unfold tN; rw [← eS, if_pos (show ¬ i < len by omega)]
          have eT : tK σ len n = 0 := by unfold tK; rw [← eS, if_pos (show ¬ i < len by omega)]
          have eV : tV σ len n = nI 0 := by unfold tV; rw [← eS, if_pos (show ¬ i < len by omega)]
          exact q_pvret X hW ⟨r64, ⟨kr64_1, by rw [kr64_2, eN], by rw [kr64_3, eT], by rw [kr64_4, eS], by rw [kr64_5, eV]⟩, rfl⟩ d_Tp_step_251
      · have c8 : ¬ len ≤ i := fun z => c8 ((nI_leI (a := len) (b := i) (by omega) (by omega)).mpr z)
        refine lv_aload_n X.x X.b d_Tp_step_11 rfl (lv_at hl 0 rfl) ?_
        refine q_getr X hW qj2 rfl _ ds_T 0 (by decide) mw_143 rfl (c1 := 59) rfl d_Tp_step_12 ?_
        refine lv_aload_n X.x X.b d_Tp_step_15 rfl (lv_at hl 0 rfl) ?_
        refine g_geti X hW qj2 rfl _ ds_T 2 (by decide) mw_146 rfl (r0 := 4) (p0 := 2) rfl (v := μ 2) (by rw [qr_at]) d_Tp_step_16 ?_
        rw [kμ_2]
        refine g_ald X hW ds_tb (q_in (by omega) (by decide)) (p0 := i) (q_tn (by omega) (by omega)) (v := σ i) (by rw [qr_ne (by omega), hσ]) d_Tp_step_19 ?_
        refine lv_bipush (v := nI 32) X.x X.b d_Tp_step_20 (by decide) ?_
        refine lv_icmp_ne (tgt := 38) X.x X.b d_Tp_step_22 (by decide) (fun c22 => ?_) (fun c22 => ?_)
        · have eS : i = tS σ len n := by rw [← hL]; first | exact (lst_f (fun z => absurd z (by omega))).symm | exact (lst_f (fun _ => c22)).symm
          refine lv_aload_n X.x X.b d_Tp_step_38 rfl (lv_at hl 0 rfl) ?_
          refine lv_aload_n X.x X.b d_Tp_step_39 rfl (lv_at hl 0 rfl) ?_
          refine g_geti X hW qj2 rfl _ ds_T 2 (by decide) mw_146 rfl (r0 := 4) (p0 := 2) rfl (v := μ 2) (by rw [qr_at]) d_Tp_step_40 ?_
          rw [kμ_2]
          refine g_puti X hW qj2 qp2 qn2 rfl _ ds_T 4 (by decide) mw_148 rfl rfl (r0 := 4) (p0 := 4) rfl rfl rfl (ρ := μ) (by rw [qr_at]) d_Tp_step_43 (fun H locs hW => ?_)
          obtain ⟨r43, er43⟩ : ∃ z, z = upd μ 4 (nI i) := ⟨_, rfl⟩
          rw [← er43] at hW
          have kr43_1 : r43 1 = nI len := by rw [er43, upN (by decide)]; exact kμ_1
          have kr43_2 : r43 2 = nI i := by rw [er43, upN (by decide)]; exact kμ_2
          have kr43_4 : r43 4 = nI i := by rw [er43, upd_at]
          rw [qr_qr] at hW
          refine lv_aload_n X.x X.b d_Tp_step_46 rfl (lv_at hl 0 rfl) ?_
          refine lv_iconst (v := nI 0) X.x X.b d_Tp_step_47 (by decide) ?_
          refine g_puti X hW qj2 qp2 qn2 rfl _ ds_T 5 (by decide) mw_149 rfl rfl (r0 := 4) (p0 := 5) rfl rfl rfl (ρ := r43) (by rw [qr_at]) d_Tp_step_48 (fun H locs hW => ?_)
          obtain ⟨r48, er48⟩ : ∃ z, z = upd r43 5 (nI 0) := ⟨_, rfl⟩
          rw [← er48] at hW
          have kr48_1 : r48 1 = nI len := by rw [er48, upN (by decide)]; exact kr43_1
          have kr48_2 : r48 2 = nI i := by rw [er48, upN (by decide)]; exact kr43_2
          have kr48_4 : r48 4 = nI i := by rw [er48, upN (by decide)]; exact kr43_4
          have kr48_5 : r48 5 = nI 0 := by rw [er48, upd_at]
          rw [qr_qr] at hW
          refine lv_aload_n X.x X.b d_Tp_step_51 rfl (lv_at hl 0 rfl) ?_
          refine g_geti X hW qj2 rfl _ ds_T 2 (by decide) mw_146 rfl (r0 := 4) (p0 := 2) rfl (v := r48 2) (by rw [qr_at]) d_Tp_step_52 ?_
          rw [kr48_2]
          refine lv_aload_n X.x X.b d_Tp_step_55 rfl (lv_at hl 0 rfl) ?_
          refine g_geti X hW qj2 rfl _ ds_T 1 (by decide) mw_144 rfl (r0 := 4) (p0 := 1) rfl (v := r48 1) (by rw [qr_at]) d_Tp_step_56 ?_
          rw [kr48_1]
          refine lv_icmp_lt (tgt := 70) X.x X.b d_Tp_step_59 (by decide) (fun c59 => ?_) (fun c59 => ?_)
          · have c59 : i < len := (nI_ltI (a := i) (b := len) (by omega) (by omega)).mp c59
            refine lv_aload_n X.x X.b d_Tp_step_70 rfl (lv_at hl 0 rfl) ?_
            refine q_getr X hW qj2 rfl _ ds_T 0 (by decide) mw_143 rfl (c1 := 59) rfl d_Tp_step_71 ?_
            refine lv_aload_n X.x X.b d_Tp_step_74 rfl (lv_at hl 0 rfl) ?_
            refine g_geti X hW qj2 rfl _ ds_T 2 (by decide) mw_146 rfl (r0 := 4) (p0 := 2) rfl (v := r48 2) (by rw [qr_at]) d_Tp_step_75 ?_
            rw [kr48_2]
            refine g_ald X hW ds_tb (q_in (by omega) (by decide)) (p0 := i) (q_tn (by omega) (by omega)) (v := σ i) (by rw [qr_ne (by omega), hσ]) d_Tp_step_78 ?_
            refine q_csi X (c_Tp_isLetter l E (qr S 4 r48) (σ i)) hW ok_Tp_isLetter mw_494 ⟨by decide, by decide⟩ (As := [.int (σ i)]) rfl rfl (Nat.le_of_ble_eq_true rfl) (lv := [(0, .ref (eA E 58))]) hl ⟨Nat.le_refl 0, Nat.le_refl 0⟩ d_Tp_step_79 (fun H locs hW => ?_)
            refine lv_if_eq (tgt := 129) X.x X.b d_Tp_step_82 (by decide) (fun c82 => ?_) (fun c82 => ?_)
            · have c82 := b2i_e c82
              refine lv_aload_n X.x X.b d_Tp_step_129 rfl (lv_at hl 0 rfl) ?_
              refine q_getr X hW qj2 rfl _ ds_T 0 (by decide) mw_143 rfl (c1 := 59) rfl d_Tp_step_130 ?_
              refine lv_aload_n X.x X.b d_Tp_step_133 rfl (lv_at hl 0 rfl) ?_
              refine g_geti X hW qj2 rfl _ ds_T 2 (by decide) mw_146 rfl (r0 := 4) (p0 := 2) rfl (v := r48 2) (by rw [qr_at]) d_Tp_step_134 ?_
              rw [kr48_2]
              refine g_ald X hW ds_tb (q_in (by omega) (by decide)) (p0 := i) (q_tn (by omega) (by omega)) (v := σ i) (by rw [qr_ne (by omega), hσ]) d_Tp_step_137 ?_
              refine q_csi X (c_Tp_isDigit l E (qr S 4 r48) (σ i)) hW ok_Tp_isDigit mw_497 ⟨by decide, by decide⟩ (As := [.int (σ i)]) rfl rfl (Nat.le_of_ble_eq_true rfl) (lv := [(0, .ref (eA E 58))]) hl ⟨Nat.le_refl 0, Nat.le_refl 0⟩ d_Tp_step_138 (fun H locs hW => ?_)
              refine lv_if_eq (tgt := 218) X.x X.b d_Tp_step_141 (by decide) (fun c141 => ?_) (fun c141 => ?_)
              · have c141 := b2i_e c141
                refine lv_aload_n X.x X.b d_Tp_step_218 rfl (lv_at hl 0 rfl) ?_
                refine lv_aload_n X.x X.b d_Tp_step_219 rfl (lv_at hl 0 rfl) ?_
                refine q_getr X hW qj2 rfl _ ds_T 0 (by decide) mw_143 rfl (c1 := 59) rfl d_Tp_step_220 ?_
                refine lv_aload_n X.x X.b d_Tp_step_223 rfl (lv_at hl 0 rfl) ?_
                refine g_geti X hW qj2 rfl _ ds_T 2 (by decide) mw_146 rfl (r0 := 4) (p0 := 2) rfl (v := r48 2) (by rw [qr_at]) d_Tp_step_224 ?_
                rw [kr48_2]
                refine g_ald X hW ds_tb (q_in (by omega) (by decide)) (p0 := i) (q_tn (by omega) (by omega)) (v := σ i) (by rw [qr_ne (by omega), hσ]) d_Tp_step_227 ?_
                refine lv_bipush (v := nI 59) X.x X.b d_Tp_step_228 (by decide) ?_
                refine lv_icmp_ne (tgt := 237) X.x X.b d_Tp_step_230 (by decide) (fun c230 => ?_) (fun c230 => ?_)
                · refine lv_iconst (v := nI 4) X.x X.b d_Tp_step_237 (by decide) ?_
                  refine g_puti X hW qj2 qp2 qn2 rfl _ ds_T 3 (by decide) mw_147 rfl rfl (r0 := 4) (p0 := 3) rfl rfl rfl (ρ := r48) (by rw [qr_at]) d_Tp_step_238 (fun H locs hW => ?_)
                  obtain ⟨r238, er238⟩ : ∃ z, z = upd r48 3 (nI 4) := ⟨_, rfl⟩
                  rw [← er238] at hW
                  have kr238_1 : r238 1 = nI len := by rw [er238, upN (by decide)]; exact kr48_1
                  have kr238_2 : r238 2 = nI i := by rw [er238, upN (by decide)]; exact kr48_2
                  have kr238_4 : r238 4 = nI i := by rw [er238, upN (by decide)]; exact kr48_4
                  have kr238_5 : r238 5 = nI 0 := by rw [er238, upN (by decide)]; exact kr48_5
                  have kr238_3 : r238 3 = nI 4 := by rw [er238, upd_at]
                  rw [qr_qr] at hW
                  refine lv_aload_n X.x X.b d_Tp_step_241 rfl (lv_at hl 0 rfl) ?_
                  refine lv_dup X.x X.b d_Tp_step_242 rfl ?_
                  refine g_geti X hW qj2 rfl _ ds_T 2 (by decide) mw_146 rfl (r0 := 4) (p0 := 2) rfl (v := r238 2) (by rw [qr_at]) d_Tp_step_243 ?_
                  rw [kr238_2]
                  refine lv_iconst (v := nI 1) X.x X.b d_Tp_step_246 (by decide) ?_
                  refine lv_iadd X.x X.b d_Tp_step_247 ?_
                  rw [nI_add]
                  refine g_puti X hW qj2 qp2 qn2 rfl _ ds_T 2 (by decide) mw_146 rfl rfl (r0 := 4) (p0 := 2) rfl rfl rfl (ρ := r238) (by rw [qr_at]) d_Tp_step_248 (fun H locs hW => ?_)
                  obtain ⟨r248, er248⟩ : ∃ z, z = upd r238 2 (nI (i + 1)) := ⟨_, rfl⟩
                  rw [← er248] at hW
                  have kr248_1 : r248 1 = nI len := by rw [er248, upN (by decide)]; exact kr238_1
                  have kr248_2 : r248 2 = nI (i + 1) := by rw [er248, upd_at]
                  have kr248_3 : r248 3 = nI 4 := by rw [er248, upN (by decide)]; exact kr238_3
                  have kr248_4 : r248 4 = nI i := by rw [er248, upN (by decide)]; exact kr238_4
                  have kr248_5 : r248 5 = nI 0 := by rw [er248, upN (by decide)]; exact kr238_5
                  rw [qr_qr] at hW
                  have eN : tN σ len n = i + 1 := by unfold tN; rw [← eS, if_neg (show ¬ ¬ i < len by omega), if_neg c82, if_neg c141]
                  have eT : tK σ len n = 4 := by unfold tK; rw [← eS, if_neg (show ¬ ¬ i < len by omega), if_neg c82, if_neg c141, if_neg c230]
                  have eV : tV σ len n = nI 0 := by unfold tV; rw [← eS, if_neg (show ¬ ¬ i < len by omega), if_neg c82, if_neg c141]
                  exact q_pvret X hW ⟨r248, ⟨kr248_1, by rw [kr248_2, eN], by rw [kr248_3, eT], by rw [kr248_4, eS], by rw [kr248_5, eV]⟩, rfl⟩ d_Tp_step_251
                · refine lv_iconst (v := nI 3) X.x X.b d_Tp_step_233 (by decide) ?_
                  refine lv_goto (tgt := 238) X.x X.b d_Tp_step_234 (by decide) ?_
                  refine g_puti X hW qj2 qp2 qn2 rfl _ ds_T 3 (by decide) mw_147 rfl rfl (r0 := 4) (p0 := 3) rfl rfl rfl (ρ := r48) (by rw [qr_at]) d_Tp_step_238 (fun H locs hW => ?_)
                  obtain ⟨r238, er238⟩ : ∃ z, z = upd r48 3 (nI 3) := ⟨_, rfl⟩
                  rw [← er238] at hW
                  have kr238_1 : r238 1 = nI len := by rw [er238, upN (by decide)]; exact kr48_1
                  have kr238_2 : r238 2 = nI i := by rw [er238, upN (by decide)]; exact kr48_2
                  have kr238_4 : r238 4 = nI i := by rw [er238, upN (by decide)]; exact kr48_4
                  have kr238_5 : r238 5 = nI 0 := by rw [er238, upN (by decide)]; exact kr48_5
                  have kr238_3 : r238 3 = nI 3 := by rw [er238, upd_at]
                  rw [qr_qr] at hW
                  refine lv_aload_n X.x X.b d_Tp_step_241 rfl (lv_at hl 0 rfl) ?_
                  refine lv_dup X.x X.b d_Tp_step_242 rfl ?_
                  refine g_geti X hW qj2 rfl _ ds_T 2 (by decide) mw_146 rfl (r0 := 4) (p0 := 2) rfl (v := r238 2) (by rw [qr_at]) d_Tp_step_243 ?_
                  rw [kr238_2]
                  refine lv_iconst (v := nI 1) X.x X.b d_Tp_step_246 (by decide) ?_
                  refine lv_iadd X.x X.b d_Tp_step_247 ?_
                  rw [nI_add]
                  refine g_puti X hW qj2 qp2 qn2 rfl _ ds_T 2 (by decide) mw_146 rfl rfl (r0 := 4) (p0 := 2) rfl rfl rfl (ρ := r238) (by rw [qr_at]) d_Tp_step_248 (fun H locs hW => ?_)
                  obtain ⟨r248, er248⟩ : ∃ z, z = upd r238 2 (nI (i + 1)) := ⟨_, rfl⟩
                  rw [← er248] at hW
                  have kr248_1 : r248 1 = nI len := by rw [er248, upN (by decide)]; exact kr238_1
                  have kr248_2 : r248 2 = nI (i + 1) := by rw [er248, upd_at]
                  have kr248_3 : r248 3 = nI 3 := by rw [er248, upN (by decide)]; exact kr238_3
                  have kr248_4 : r248 4 = nI i := by rw [er248, upN (by decide)]; exact kr238_4
                  have kr248_5 : r248 5 = nI 0 := by rw [er248, upN (by decide)]; exact kr238_5
                  rw [qr_qr] at hW
                  have eN : tN σ len n = i + 1 := by unfold tN; rw [← eS, if_neg (show ¬ ¬ i < len by omega), if_neg c82, if_neg c141]
                  have eT : tK σ len n = 3 := by unfold tK; rw [← eS, if_neg (show ¬ ¬ i < len by omega), if_neg c82, if_neg c141, if_pos c230]
                  have eV : tV σ len n = nI 0 := by unfold tV; rw [← eS, if_neg (show ¬ ¬ i < len by omega), if_neg c82, if_neg c141]
                  exact q_pvret X hW ⟨r248, ⟨kr248_1, by rw [kr248_2, eN], by rw [kr248_3, eT], by rw [kr248_4, eS], by rw [kr248_5, eV]⟩, rfl⟩ d_Tp_step_251
              · have c141 := b2i_n c141
                refine lv_aload_n X.x X.b d_Tp_step_144 rfl (lv_at hl 0 rfl) ?_
                refine lv_iconst (v := nI 2) X.x X.b d_Tp_step_145 (by decide) ?_
                refine g_puti X hW qj2 qp2 qn2 rfl _ ds_T 3 (by decide) mw_147 rfl rfl (r0 := 4) (p0 := 3) rfl rfl rfl (ρ := r48) (by rw [qr_at]) d_Tp_step_146 (fun H locs hW => ?_)
                obtain ⟨r146, er146⟩ : ∃ z, z = upd r48 3 (nI 2) := ⟨_, rfl⟩
                rw [← er146] at hW
                have kr146_1 : r146 1 = nI len := by rw [er146, upN (by decide)]; exact kr48_1
                have kr146_2 : r146 2 = nI i := by rw [er146, upN (by decide)]; exact kr48_2
                have kr146_4 : r146 4 = nI i := by rw [er146, upN (by decide)]; exact kr48_4
                have kr146_5 : r146 5 = nI 0 := by rw [er146, upN (by decide)]; exact kr48_5
                have kr146_3 : r146 3 = nI 2 := by rw [er146, upd_at]
                rw [qr_qr] at hW
                have loop149 : ∀ (fu149 : Nat) (j : Nat) (ν : Nat → Int32), i ≤ j → j ≤ len → lst (fun q => ¬ isDg (σ q)) (len - j) j = eD σ len i → ν 1 = nI len → ν 2 = nI j → ν 3 = nI 2 → ν 4 = nI i → ν 5 = nmS σ i (j - i) → len - j < fu149 → ∀ (H : Heap) (locs : List Loc) (ls : Array Slot), qWH E (qr S 4 ν) s H locs → lv_has ls 1 [(0, .ref (eA E 58))] → W p l e (qRm 3) s m ([.ref (eA E 58)] : List Value).toArray below meth c H locs 0 0 (MQ below (qQpv E (any S 4 (tkOK σ len n)) s.heap.size) ([.ref (eA E 58)] : List Value).toArray s 0 0 (qAA E s.heap.size)) (F0 m 149 ls []) := by
                  intro fu149
                  induction fu149 with
                  | zero =>
                    intro j ν hij hj hB kν_1 kν_2 kν_3 kν_4 kν_5 hfu
                    exact absurd hfu (Nat.not_lt_zero _)
                  | succ fu149 ih149 =>
                    intro j ν hij hj hB kν_1 kν_2 kν_3 kν_4 kν_5 hfu H locs ls hW hl
                    refine lv_aload_n X.x X.b d_Tp_step_149 rfl (lv_at hl 0 rfl) ?_
                    refine g_geti X hW qj2 rfl _ ds_T 2 (by decide) mw_146 rfl (r0 := 4) (p0 := 2) rfl (v := ν 2) (by rw [qr_at]) d_Tp_step_150 ?_
                    rw [kν_2]
                    refine lv_aload_n X.x X.b d_Tp_step_153 rfl (lv_at hl 0 rfl) ?_
                    refine g_geti X hW qj2 rfl _ ds_T 1 (by decide) mw_144 rfl (r0 := 4) (p0 := 1) rfl (v := ν 1) (by rw [qr_at]) d_Tp_step_154 ?_
                    rw [kν_1]
                    refine lv_icmp_ge (tgt := 251) X.x X.b d_Tp_step_157 (by decide) (fun c157 => ?_) (fun c157 => ?_)
                    · have c157 : len ≤ j := (nI_leI (a := len) (b := j) (by omega) (by omega)).mp c157
                      have eJ : eD σ len i = j := by rw [← hB]; first | exact lst_f (fun z => absurd z (by omega)) | exact lst_f (fun _ => c172)
                      have eN : tN σ len n = j := by unfold tN; rw [← eS, if_neg (show ¬ ¬ i < len by omega), if_neg c82, if_pos c141, eJ]
                      have eT : tK σ len n = 2 := by unfold tK; rw [← eS, if_neg (show ¬ ¬ i < len by omega), if_neg c82, if_pos c141]
                      have eV : tV σ len n = nmS σ i (j - i) := by unfold tV; rw [← eS, if_neg (show ¬ ¬ i < len by omega), if_neg c82, if_pos c141, eJ]
                      exact q_pvret X hW ⟨ν, ⟨kν_1, by rw [kν_2, eN], by rw [kν_3, eT], by rw [kν_4, eS], by rw [kν_5, eV]⟩, rfl⟩ d_Tp_step_251
                    · have c157 : ¬ len ≤ j := fun z => c157 ((nI_leI (a := len) (b := j) (by omega) (by omega)).mpr z)
                      refine lv_aload_n X.x X.b d_Tp_step_160 rfl (lv_at hl 0 rfl) ?_
                      refine q_getr X hW qj2 rfl _ ds_T 0 (by decide) mw_143 rfl (c1 := 59) rfl d_Tp_step_161 ?_
                      refine lv_aload_n X.x X.b d_Tp_step_164 rfl (lv_at hl 0 rfl) ?_
                      refine g_geti X hW qj2 rfl _ ds_T 2 (by decide) mw_146 rfl (r0 := 4) (p0 := 2) rfl (v := ν 2) (by rw [qr_at]) d_Tp_step_165 ?_
                      rw [kν_2]
                      refine g_ald X hW ds_tb (q_in (by omega) (by decide)) (p0 := j) (q_tn (by omega) (by omega)) (v := σ j) (by rw [qr_ne (by omega), hσ]) d_Tp_step_168 ?_
                      refine q_csi X (c_Tp_isDigit l E (qr S 4 ν) (σ j)) hW ok_Tp_isDigit mw_497 ⟨by decide, by decide⟩ (As := [.int (σ j)]) rfl rfl (Nat.le_of_ble_eq_true rfl) (lv := [(0, .ref (eA E 58))]) hl ⟨Nat.le_refl 0, Nat.le_refl 0⟩ d_Tp_step_169 (fun H locs hW => ?_)
                      refine lv_if_eq (tgt := 251) X.x X.b d_Tp_step_172 (by decide) (fun c172 => ?_) (fun c172 => ?_)
                      · have c172 := b2i_e c172
                        have eJ : eD σ len i = j := by rw [← hB]; first | exact lst_f (fun z => absurd z (by omega)) | exact lst_f (fun _ => c172)
                        have eN : tN σ len n = j := by unfold tN; rw [← eS, if_neg (show ¬ ¬ i < len by omega), if_neg c82, if_pos c141, eJ]
                        have eT : tK σ len n = 2 := by unfold tK; rw [← eS, if_neg (show ¬ ¬ i < len by omega), if_neg c82, if_pos c141]
                        have eV : tV σ len n = nmS σ i (j - i) := by unfold tV; rw [← eS, if_neg (show ¬ ¬ i < len by omega), if_neg c82, if_pos c141, eJ]
                        exact q_pvret X hW ⟨ν, ⟨kν_1, by rw [kν_2, eN], by rw [kν_3, eT], by rw [kν_4, eS], by rw [kν_5, eV]⟩, rfl⟩ d_Tp_step_251
                      · have c172 := b2i_n c172
                        refine lv_aload_n X.x X.b d_Tp_step_175 rfl (lv_at hl 0 rfl) ?_
                        refine lv_bipush (v := nI 10) X.x X.b d_Tp_step_176 (by decide) ?_
                        refine lv_aload_n X.x X.b d_Tp_step_178 rfl (lv_at hl 0 rfl) ?_
                        refine g_geti X hW qj2 rfl _ ds_T 5 (by decide) mw_149 rfl (r0 := 4) (p0 := 5) rfl (v := ν 5) (by rw [qr_at]) d_Tp_step_179 ?_
                        rw [kν_5]
                        refine lv_imul X.x X.b d_Tp_step_182 ?_
                        refine lv_aload_n X.x X.b d_Tp_step_183 rfl (lv_at hl 0 rfl) ?_
                        refine q_getr X hW qj2 rfl _ ds_T 0 (by decide) mw_143 rfl (c1 := 59) rfl d_Tp_step_184 ?_
                        refine lv_aload_n X.x X.b d_Tp_step_187 rfl (lv_at hl 0 rfl) ?_
                        refine g_geti X hW qj2 rfl _ ds_T 2 (by decide) mw_146 rfl (r0 := 4) (p0 := 2) rfl (v := ν 2) (by rw [qr_at]) d_Tp_step_188 ?_
                        rw [kν_2]
                        refine g_ald X hW ds_tb (q_in (by omega) (by decide)) (p0 := j) (q_tn (by omega) (by omega)) (v := σ j) (by rw [qr_ne (by omega), hσ]) d_Tp_step_191 ?_
                        refine lv_iadd X.x X.b d_Tp_step_192 ?_
                        refine lv_bipush (v := nI 48) X.x X.b d_Tp_step_193 (by decide) ?_
                        refine lv_isub X.x X.b d_Tp_step_195 ?_
                        refine lv_sipush (v := nI 1000) X.x X.b d_Tp_step_196 (by decide) ?_
                        refine va_mmin X.x X.b (X.ml.trans hl.1.symm) X.ow (X.ts _ mw_500) (X.ts _ (qTB_in (i := 324) (by decide +kernel) rfl)) (X.ts _ (qTB_in (i := 73) (by decide +kernel) rfl)) (X.ts _ (qTB_in (i := 325) (by decide +kernel) rfl)) (by decide) (Nat.le_of_ble_eq_true rfl) (Nat.le_refl 0) (Nat.le_refl 0) d_Tp_step_199 ?_
                        refine lv_topi (fun x199 ex199 => ?_)
                        refine g_puti X hW qj2 qp2 qn2 rfl _ ds_T 5 (by decide) mw_149 rfl rfl (r0 := 4) (p0 := 5) rfl rfl rfl (ρ := ν) (by rw [qr_at]) d_Tp_step_202 (fun H locs hW => ?_)
                        obtain ⟨r202, er202⟩ : ∃ z, z = upd ν 5 x199 := ⟨_, rfl⟩
                        rw [← er202] at hW
                        have kr202_1 : r202 1 = nI len := by rw [er202, upN (by decide)]; exact kν_1
                        have kr202_2 : r202 2 = nI j := by rw [er202, upN (by decide)]; exact kν_2
                        have kr202_3 : r202 3 = nI 2 := by rw [er202, upN (by decide)]; exact kν_3
                        have kr202_4 : r202 4 = nI i := by rw [er202, upN (by decide)]; exact kν_4
                        have kr202_5 : r202 5 = x199 := by rw [er202, upd_at]
                        rw [qr_qr] at hW
                        refine lv_aload_n X.x X.b d_Tp_step_205 rfl (lv_at hl 0 rfl) ?_
                        refine lv_dup X.x X.b d_Tp_step_206 rfl ?_
                        refine g_geti X hW qj2 rfl _ ds_T 2 (by decide) mw_146 rfl (r0 := 4) (p0 := 2) rfl (v := r202 2) (by rw [qr_at]) d_Tp_step_207 ?_
                        rw [kr202_2]
                        refine lv_iconst (v := nI 1) X.x X.b d_Tp_step_210 (by decide) ?_
                        refine lv_iadd X.x X.b d_Tp_step_211 ?_
                        rw [nI_add]
                        refine g_puti X hW qj2 qp2 qn2 rfl _ ds_T 2 (by decide) mw_146 rfl rfl (r0 := 4) (p0 := 2) rfl rfl rfl (ρ := r202) (by rw [qr_at]) d_Tp_step_212 (fun H locs hW => ?_)
                        obtain ⟨r212, er212⟩ : ∃ z, z = upd r202 2 (nI (j + 1)) := ⟨_, rfl⟩
                        rw [← er212] at hW
                        have kr212_1 : r212 1 = nI len := by rw [er212, upN (by decide)]; exact kr202_1
                        have kr212_2 : r212 2 = nI (j + 1) := by rw [er212, upd_at]
                        have kr212_3 : r212 3 = nI 2 := by rw [er212, upN (by decide)]; exact kr202_3
                        have kr212_4 : r212 4 = nI i := by rw [er212, upN (by decide)]; exact kr202_4
                        have kr212_5 : r212 5 = x199 := by rw [er212, upN (by decide)]; exact kr202_5
                        rw [qr_qr] at hW
                        refine lv_goto (tgt := 149) X.x X.b d_Tp_step_215 (by decide) ?_
                        exact ih149 (j + 1) r212 (by omega) (by omega) (by rw [← hB]; exact (lst_t (by omega) (fun z => z c172)).symm) kr212_1 kr212_2 kr212_3 kr212_4 (by rw [kr212_5, ex199, show j + 1 - i = (j - i) + 1 by omega]; show _ = imn (nI 10 * nmS σ i (j - i) + σ (i + (j - i)) - nI 48) (nI 1000); rw [show i + (j - i) = j by omega]; rfl) (by omega) _ _ _ hW (lv_sub hl [0] rfl)
                exact loop149 (len - i + 1) i r146 (Nat.le_refl _) (by omega) rfl kr146_1 kr146_2 kr146_3 kr146_4 (by rw [kr146_5, Nat.sub_self]; rfl) (Nat.lt_succ_self _) _ _ _ hW (lv_sub hl [0] rfl)
            · have c82 := b2i_n c82
              refine lv_aload_n X.x X.b d_Tp_step_85 rfl (lv_at hl 0 rfl) ?_
              refine lv_iconst (v := nI 1) X.x X.b d_Tp_step_86 (by decide) ?_
              refine g_puti X hW qj2 qp2 qn2 rfl _ ds_T 3 (by decide) mw_147 rfl rfl (r0 := 4) (p0 := 3) rfl rfl rfl (ρ := r48) (by rw [qr_at]) d_Tp_step_87 (fun H locs hW => ?_)
              obtain ⟨r87, er87⟩ : ∃ z, z = upd r48 3 (nI 1) := ⟨_, rfl⟩
              rw [← er87] at hW
              have kr87_1 : r87 1 = nI len := by rw [er87, upN (by decide)]; exact kr48_1
              have kr87_2 : r87 2 = nI i := by rw [er87, upN (by decide)]; exact kr48_2
              have kr87_4 : r87 4 = nI i := by rw [er87, upN (by decide)]; exact kr48_4
              have kr87_5 : r87 5 = nI 0 := by rw [er87, upN (by decide)]; exact kr48_5
              have kr87_3 : r87 3 = nI 1 := by rw [er87, upd_at]
              rw [qr_qr] at hW
              have loop90 : ∀ (fu90 : Nat) (j : Nat) (κ : Nat → Int32), i ≤ j → j ≤ len → lst (fun q => ¬ isLt (σ q)) (len - j) j = eL σ len i → κ 1 = nI len → κ 2 = nI j → κ 3 = nI 1 → κ 4 = nI i → κ 5 = nI 0 → len - j < fu90 → ∀ (H : Heap) (locs : List Loc) (ls : Array Slot), qWH E (qr S 4 κ) s H locs → lv_has ls 1 [(0, .ref (eA E 58))] → W p l e (qRm 3) s m ([.ref (eA E 58)] : List Value).toArray below meth c H locs 0 0 (MQ below (qQpv E (any S 4 (tkOK σ len n)) s.heap.size) ([.ref (eA E 58)] : List Value).toArray s 0 0 (qAA E s.heap.size)) (F0 m 90 ls []) := by
                intro fu90
                induction fu90 with
                | zero =>
                  intro j κ hij hj hB kκ_1 kκ_2 kκ_3 kκ_4 kκ_5 hfu
                  exact absurd hfu (Nat.not_lt_zero _)
                | succ fu90 ih90 =>
                  intro j κ hij hj hB kκ_1 kκ_2 kκ_3 kκ_4 kκ_5 hfu H locs ls hW hl
                  refine lv_aload_n X.x X.b d_Tp_step_90 rfl (lv_at hl 0 rfl) ?_
                  refine g_geti X hW qj2 rfl _ ds_T 2 (by decide) mw_146 rfl (r0 := 4) (p0 := 2) rfl (v := κ 2) (by rw [qr_at]) d_Tp_step_91 ?_
                  rw [kκ_2]
                  refine lv_aload_n X.x X.b d_Tp_step_94 rfl (lv_at hl 0 rfl) ?_
                  refine g_geti X hW qj2 rfl _ ds_T 1 (by decide) mw_144 rfl (r0 := 4) (p0 := 1) rfl (v := κ 1) (by rw [qr_at]) d_Tp_step_95 ?_
                  rw [kκ_1]
                  refine lv_icmp_ge (tgt := 251) X.x X.b d_Tp_step_98 (by decide) (fun c98 => ?_) (fun c98 => ?_)
                  · have c98 : len ≤ j := (nI_leI (a := len) (b := j) (by omega) (by omega)).mp c98
                    have eJ : eL σ len i = j := by rw [← hB]; first | exact lst_f (fun z => absurd z (by omega)) | exact lst_f (fun _ => c113)
                    have eN : tN σ len n = j := by unfold tN; rw [← eS, if_neg (show ¬ ¬ i < len by omega), if_pos c82, eJ]
                    have eT : tK σ len n = 1 := by unfold tK; rw [← eS, if_neg (show ¬ ¬ i < len by omega), if_pos c82]
                    have eV : tV σ len n = nI 0 := by unfold tV; rw [← eS, if_neg (show ¬ ¬ i < len by omega), if_pos c82]
                    exact q_pvret X hW ⟨κ, ⟨kκ_1, by rw [kκ_2, eN], by rw [kκ_3, eT], by rw [kκ_4, eS], by rw [kκ_5, eV]⟩, rfl⟩ d_Tp_step_251
                  · have c98 : ¬ len ≤ j := fun z => c98 ((nI_leI (a := len) (b := j) (by omega) (by omega)).mpr z)
                    refine lv_aload_n X.x X.b d_Tp_step_101 rfl (lv_at hl 0 rfl) ?_
                    refine q_getr X hW qj2 rfl _ ds_T 0 (by decide) mw_143 rfl (c1 := 59) rfl d_Tp_step_102 ?_
                    refine lv_aload_n X.x X.b d_Tp_step_105 rfl (lv_at hl 0 rfl) ?_
                    refine g_geti X hW qj2 rfl _ ds_T 2 (by decide) mw_146 rfl (r0 := 4) (p0 := 2) rfl (v := κ 2) (by rw [qr_at]) d_Tp_step_106 ?_
                    rw [kκ_2]
                    refine g_ald X hW ds_tb (q_in (by omega) (by decide)) (p0 := j) (q_tn (by omega) (by omega)) (v := σ j) (by rw [qr_ne (by omega), hσ]) d_Tp_step_109 ?_
                    refine q_csi X (c_Tp_isLetter l E (qr S 4 κ) (σ j)) hW ok_Tp_isLetter mw_494 ⟨by decide, by decide⟩ (As := [.int (σ j)]) rfl rfl (Nat.le_of_ble_eq_true rfl) (lv := [(0, .ref (eA E 58))]) hl ⟨Nat.le_refl 0, Nat.le_refl 0⟩ d_Tp_step_110 (fun H locs hW => ?_)
                    refine lv_if_eq (tgt := 251) X.x X.b d_Tp_step_113 (by decide) (fun c113 => ?_) (fun c113 => ?_)
                    · have c113 := b2i_e c113
                      have eJ : eL σ len i = j := by rw [← hB]; first | exact lst_f (fun z => absurd z (by omega)) | exact lst_f (fun _ => c113)
                      have eN : tN σ len n = j := by unfold tN; rw [← eS, if_neg (show ¬ ¬ i < len by omega), if_pos c82, eJ]
                      have eT : tK σ len n = 1 := by unfold tK; rw [← eS, if_neg (show ¬ ¬ i < len by omega), if_pos c82]
                      have eV : tV σ len n = nI 0 := by unfold tV; rw [← eS, if_neg (show ¬ ¬ i < len by omega), if_pos c82]
                      exact q_pvret X hW ⟨κ, ⟨kκ_1, by rw [kκ_2, eN], by rw [kκ_3, eT], by rw [kκ_4, eS], by rw [kκ_5, eV]⟩, rfl⟩ d_Tp_step_251
                    · have c113 := b2i_n c113
                      refine lv_aload_n X.x X.b d_Tp_step_116 rfl (lv_at hl 0 rfl) ?_
                      refine lv_dup X.x X.b d_Tp_step_117 rfl ?_
                      refine g_geti X hW qj2 rfl _ ds_T 2 (by decide) mw_146 rfl (r0 := 4) (p0 := 2) rfl (v := κ 2) (by rw [qr_at]) d_Tp_step_118 ?_
                      rw [kκ_2]
                      refine lv_iconst (v := nI 1) X.x X.b d_Tp_step_121 (by decide) ?_
                      refine lv_iadd X.x X.b d_Tp_step_122 ?_
                      rw [nI_add]
                      refine g_puti X hW qj2 qp2 qn2 rfl _ ds_T 2 (by decide) mw_146 rfl rfl (r0 := 4) (p0 := 2) rfl rfl rfl (ρ := κ) (by rw [qr_at]) d_Tp_step_123 (fun H locs hW => ?_)
                      obtain ⟨r123, er123⟩ : ∃ z, z = upd κ 2 (nI (j + 1)) := ⟨_, rfl⟩
                      rw [← er123] at hW
                      have kr123_1 : r123 1 = nI len := by rw [er123, upN (by decide)]; exact kκ_1
                      have kr123_2 : r123 2 = nI (j + 1) := by rw [er123, upd_at]
                      have kr123_3 : r123 3 = nI 1 := by rw [er123, upN (by decide)]; exact kκ_3
                      have kr123_4 : r123 4 = nI i := by rw [er123, upN (by decide)]; exact kκ_4
                      have kr123_5 : r123 5 = nI 0 := by rw [er123, upN (by decide)]; exact kκ_5
                      rw [qr_qr] at hW
                      refine lv_goto (tgt := 90) X.x X.b d_Tp_step_126 (by decide) ?_
                      exact ih90 (j + 1) r123 (by omega) (by omega) (by rw [← hB]; exact (lst_t (by omega) (fun z => z c113)).symm) kr123_1 kr123_2 kr123_3 kr123_4 kr123_5 (by omega) _ _ _ hW (lv_sub hl [0] rfl)
              exact loop90 (len - i + 1) i r87 (Nat.le_refl _) (by omega) rfl kr87_1 kr87_2 kr87_3 kr87_4 kr87_5 (Nat.lt_succ_self _) _ _ _ hW (lv_sub hl [0] rfl)
          · have c59 : ¬ i < len := fun z => c59 ((nI_ltI (a := i) (b := len) (by omega) (by omega)).mpr z)
            refine lv_aload_n X.x X.b d_Tp_step_62 rfl (lv_at hl 0 rfl) ?_
            refine lv_iconst (v := nI 0) X.x X.b d_Tp_step_63 (by decide) ?_
            refine g_puti X hW qj2 qp2 qn2 rfl _ ds_T 3 (by decide) mw_147 rfl rfl (r0 := 4) (p0 := 3) rfl rfl rfl (ρ := r48) (by rw [qr_at]) d_Tp_step_64 (fun H locs hW => ?_)
            obtain ⟨r64, er64⟩ : ∃ z, z = upd r48 3 (nI 0) := ⟨_, rfl⟩
            rw [← er64] at hW
            have kr64_1 : r64 1 = nI len := by rw [er64, upN (by decide)]; exact kr48_1
            have kr64_2 : r64 2 = nI i := by rw [er64, upN (by decide)]; exact kr48_2
            have kr64_4 : r64 4 = nI i := by rw [er64, upN (by decide)]; exact kr48_4
            have kr64_5 : r64 5 = nI 0 := by rw [er64, upN (by decide)]; exact kr48_5
            have kr64_3 : r64 3 = nI 0 := by rw [er64, upd_at]
            rw [qr_qr] at hW
            refine lv_goto (tgt := 251) X.x X.b d_Tp_step_67 (by decide) ?_
            have eN : tN σ len n = i := by unfold tN; rw [← eS, if_pos (show ¬ i < len by omega)]
            have eT : tK σ len n = 0 := by unfold tK; rw [← eS, if_pos (show ¬ i < len by omega)]
            have eV : tV σ len n = nI 0 := by unfold tV; rw [← eS, if_pos (show ¬ i < len by omega)]
            exact q_pvret X hW ⟨r64, ⟨kr64_1, by rw [kr64_2, eN], by rw [kr64_3, eT], by rw [kr64_4, eS], by rw [kr64_5, eV]⟩, rfl⟩ d_Tp_step_251
        · refine lv_aload_n X.x X.b d_Tp_step_25 rfl (lv_at hl 0 rfl) ?_
          refine lv_dup X.x X.b d_Tp_step_26 rfl ?_
          refine g_geti X hW qj2 rfl _ ds_T 2 (by decide) mw_146 rfl (r0 := 4) (p0 := 2) rfl (v := μ 2) (by rw [qr_at]) d_Tp_step_27 ?_
          rw [kμ_2]
          refine lv_iconst (v := nI 1) X.x X.b d_Tp_step_30 (by decide) ?_
          refine lv_iadd X.x X.b d_Tp_step_31 ?_
          rw [nI_add]
          refine g_puti X hW qj2 qp2 qn2 rfl _ ds_T 2 (by decide) mw_146 rfl rfl (r0 := 4) (p0 := 2) rfl rfl rfl (ρ := μ) (by rw [qr_at]) d_Tp_step_32 (fun H locs hW => ?_)
          obtain ⟨r32, er32⟩ : ∃ z, z = upd μ 2 (nI (i + 1)) := ⟨_, rfl⟩
          rw [← er32] at hW
          have kr32_1 : r32 1 = nI len := by rw [er32, upN (by decide)]; exact kμ_1
          have kr32_2 : r32 2 = nI (i + 1) := by rw [er32, upd_at]
          rw [qr_qr] at hW
          refine lv_goto (tgt := 0) X.x X.b d_Tp_step_35 (by decide) ?_
          exact ih0 (i + 1) r32 (by omega) (by omega) (by rw [← hL]; exact (lst_t (by omega) (fun z => z c22)).symm) kr32_1 kr32_2 (by omega) _ _ _ hW (lv_sub hl [0] rfl)
  exact loop0 (len - n + 1) n θ hn (Nat.le_refl _) rfl kθ_1 kθ_2 (Nat.lt_succ_self _) _ _ _ hW (lv_sub hl [0] rfl)
set_option maxHeartbeats 1000000 in
set_option maxRecDepth 20000 in
theorem c_Tp_isWord (l : Launch) (E : QE) (S : QM) (θ σ : Nat → Int32) (hθ : S 4 = θ) (hσ : S 5 = σ) (len n : Nat) (hk : tkOK σ len n θ) (hn : n ≤ len) (hlen : len ≤ 120) (i : Nat) (hi : i < 11) : qCI E l y_Tp_isWord prog_5_method_10_code 3 .boolean 5 [.ref (eA E 58), .ref (eK E i)] S (b2i (wrd σ len n i)) S := by
  refine qCI_of (by decide) (Nat.le_of_ble_eq_true rfl) (fun p e s m below meth c ls X hW hl => ?_)
  have hl : lv_has ls 3 [(0, .ref (eA E 58)), (1, .ref (eK E i))] := hl
  obtain ⟨kθ_1, kθ_2, kθ_3, kθ_4, kθ_5⟩ := id hk
  have hb1 := tN_n (σ := σ) (len := len) (n := n) (by omega)
  have hb2 := tN_le (σ := σ) (len := len) (n := n) (by omega)
  have hb3 := tK_le (σ := σ) (len := len) (n := n)
  have hsl := strL_all i hi
  refine lv_aload_n X.x X.b d_Tp_isWord_0 rfl (lv_at hl 0 rfl) ?_
  refine g_geti X hW qj2 rfl _ ds_T 3 (by decide) mw_147 rfl (r0 := 4) (p0 := 3) rfl (v := θ 3) (by rw [hθ]) d_Tp_isWord_1 ?_
  rw [kθ_3]
  refine lv_iconst (v := nI 1) X.x X.b d_Tp_isWord_4 (by decide) ?_
  refine lv_icmp_ne (tgt := 24) X.x X.b d_Tp_isWord_5 (by decide) (fun c5 => ?_) (fun c5 => ?_)
  · have c5 : ¬ (tK σ len n) = 1 := fun z => c5 ((nI_eq (a := (tK σ len n)) (b := 1) (by omega) (by omega)).mpr z)
    refine lv_iconst (v := nI 0) X.x X.b d_Tp_isWord_24 (by decide) ?_
    exact q_zret X (by decide) hW ⟨(b2i_f (fun z => by exact c5 z.1)).symm, rfl⟩ d_Tp_isWord_25
  · have c5 : (tK σ len n) = 1 := (nI_eq (a := (tK σ len n)) (b := 1) (by omega) (by omega)).mp c5
    refine lv_aload_n X.x X.b d_Tp_isWord_8 rfl (lv_at hl 0 rfl) ?_
    refine g_geti X hW qj2 rfl _ ds_T 2 (by decide) mw_146 rfl (r0 := 4) (p0 := 2) rfl (v := θ 2) (by rw [hθ]) d_Tp_isWord_9 ?_
    rw [kθ_2]
    refine lv_aload_n X.x X.b d_Tp_isWord_12 rfl (lv_at hl 0 rfl) ?_
    refine g_geti X hW qj2 rfl _ ds_T 4 (by decide) mw_148 rfl (r0 := 4) (p0 := 4) rfl (v := θ 4) (by rw [hθ]) d_Tp_isWord_13 ?_
    rw [kθ_4]
    refine lv_isub X.x X.b d_Tp_isWord_16 ?_
    rw [pk_sub (by omega)]
    refine lv_aload_n X.x X.b d_Tp_isWord_17 rfl (lv_at hl 1 rfl) ?_
    refine q_cvi X (c_Js_length l E S i (by omega)) hW (q_recvS X hW (by omega)) ok_Js_length mw_510 ⟨by decide, by decide⟩ (As := []) rfl rfl (Nat.le_of_ble_eq_true rfl) (lv := [(0, .ref (eA E 58)), (1, .ref (eK E i))]) hl ⟨Nat.le_refl 0, Nat.le_refl 0⟩ d_Tp_isWord_18 (fun H locs hW => ?_)
    refine lv_icmp_eq (tgt := 26) X.x X.b d_Tp_isWord_21 (by decide) (fun c21 => ?_) (fun c21 => ?_)
    · have c21 : ((tN σ len n) - (tS σ len n)) = (strL.getD i 0) := (nI_eq (a := ((tN σ len n) - (tS σ len n))) (b := (strL.getD i 0)) (by omega) (by omega)).mp c21
      refine lv_iconst (v := nI 0) X.x X.b d_Tp_isWord_26 (by decide) ?_
      refine lv_istore_n (lv' := [(2, .int (nI 0)), (0, .ref (eA E 58)), (1, .ref (eK E i))]) X.x X.b d_Tp_isWord_27 rfl hl (by decide) rfl (fun ls hl => ?_)
      have loop28 : ∀ (fu28 : Nat) (j : Nat), j ≤ strL.getD i 0 → (∀ q, q < j → σ (tS σ len n + q) = (strB.getD i []).getD q 0) → strL.getD i 0 - j < fu28 → ∀ (H : Heap) (locs : List Loc) (ls : Array Slot), qWH E S s H locs → lv_has ls 3 [(2, .int (nI j)), (0, .ref (eA E 58)), (1, .ref (eK E i))] → W p l e (qRm 5) s m ([.ref (eA E 58), .ref (eK E i)] : List Value).toArray below meth c H locs 0 0 (MQ below (qQi E (b2i (wrd σ len n i)) S s.heap.size) ([.ref (eA E 58), .ref (eK E i)] : List Value).toArray s 0 0 (qAA E s.heap.size)) (F0 m 28 ls []) := by
        intro fu28
        induction fu28 with
        | zero =>
          intro j hj hq1 hfu
          exact absurd hfu (Nat.not_lt_zero _)
        | succ fu28 ih28 =>
          intro j hj hq1 hfu H locs ls hW hl
          refine lv_iload_n X.x X.b d_Tp_isWord_28 rfl (lv_at hl 0 rfl) ?_
          refine lv_aload_n X.x X.b d_Tp_isWord_29 rfl (lv_at hl 2 rfl) ?_
          refine q_cvi X (c_Js_length l E S i (by omega)) hW (q_recvS X hW (by omega)) ok_Js_length mw_510 ⟨by decide, by decide⟩ (As := []) rfl rfl (Nat.le_of_ble_eq_true rfl) (lv := [(2, .int (nI j)), (0, .ref (eA E 58)), (1, .ref (eK E i))]) hl ⟨Nat.le_refl 0, Nat.le_refl 0⟩ d_Tp_isWord_30 (fun H locs hW => ?_)
          refine lv_icmp_ge (tgt := 63) X.x X.b d_Tp_isWord_33 (by decide) (fun c33 => ?_) (fun c33 => ?_)
          · have c33 : (strL.getD i 0) ≤ j := (nI_leI (a := (strL.getD i 0)) (b := j) (by omega) (by omega)).mp c33
            refine lv_iconst (v := nI 1) X.x X.b d_Tp_isWord_63 (by decide) ?_
            exact q_zret X (by decide) hW ⟨(b2i_t ⟨c5, c21, fun q hq => hq1 q (by omega)⟩).symm, rfl⟩ d_Tp_isWord_64
          · have c33 : ¬ (strL.getD i 0) ≤ j := fun z => c33 ((nI_leI (a := (strL.getD i 0)) (b := j) (by omega) (by omega)).mpr z)
            refine lv_aload_n X.x X.b d_Tp_isWord_36 rfl (lv_at hl 1 rfl) ?_
            refine q_getr X hW qj2 rfl _ ds_T 0 (by decide) mw_143 rfl (c1 := 59) rfl d_Tp_isWord_37 ?_
            refine lv_aload_n X.x X.b d_Tp_isWord_40 rfl (lv_at hl 1 rfl) ?_
            refine g_geti X hW qj2 rfl _ ds_T 4 (by decide) mw_148 rfl (r0 := 4) (p0 := 4) rfl (v := θ 4) (by rw [hθ]) d_Tp_isWord_41 ?_
            rw [kθ_4]
            refine lv_iload_n X.x X.b d_Tp_isWord_44 rfl (lv_at hl 0 rfl) ?_
            refine lv_iadd X.x X.b d_Tp_isWord_45 ?_
            rw [nI_add]
            refine g_ald X hW ds_tb (q_in (by omega) (by decide)) (p0 := (tS σ len n) + j) (q_tn (by omega) (by omega)) (v := σ ((tS σ len n) + j)) (by rw [hσ]) d_Tp_isWord_46 ?_
            refine lv_aload_n X.x X.b d_Tp_isWord_47 rfl (lv_at hl 2 rfl) ?_
            refine lv_iload_n X.x X.b d_Tp_isWord_48 rfl (lv_at hl 0 rfl) ?_
            refine q_cvi X (c_Js_charAt l E S i (by omega) j (by omega)) hW (q_recvS X hW (by omega)) ok_Js_charAt mw_520 ⟨by decide, by decide⟩ (As := [.int (nI j)]) rfl rfl (Nat.le_of_ble_eq_true rfl) (lv := [(2, .int (nI j)), (0, .ref (eA E 58)), (1, .ref (eK E i))]) hl ⟨Nat.le_refl 0, Nat.le_refl 0⟩ d_Tp_isWord_49 (fun H locs hW => ?_)
            refine lv_icmp_eq (tgt := 57) X.x X.b d_Tp_isWord_52 (by decide) (fun c52 => ?_) (fun c52 => ?_)
            · refine lv_iinc (v := nI (j + 1)) (lv' := [(2, .int (nI (j + 1))), (0, .ref (eA E 58)), (1, .ref (eK E i))]) X.x X.b d_Tp_isWord_57 hl (k := 0) rfl (by rw [show Int32.ofInt 1 = nI 1 from by decide, nI_add]) (by decide) rfl (fun ls hl => ?_)
              refine lv_goto (tgt := 28) X.x X.b d_Tp_isWord_60 (by decide) ?_
              exact ih28 (j + 1) (by omega) (fun q hq => by rcases Nat.lt_succ_iff_lt_or_eq.mp hq with h | h; exact hq1 q h; subst h; exact c52) (by omega) _ _ _ hW (lv_sub hl [0, 1, 2] rfl)
            · refine lv_iconst (v := nI 0) X.x X.b d_Tp_isWord_55 (by decide) ?_
              exact q_zret X (by decide) hW ⟨(b2i_f (fun z => by exact c52 (z.2.2 j (by omega)))).symm, rfl⟩ d_Tp_isWord_56
      exact loop28 (strL.getD i 0 - 0 + 1) 0 (by omega) (fun q hq => absurd hq (Nat.not_lt_zero q)) (Nat.lt_succ_self _) _ _ _ hW (lv_sub hl [0, 1, 2] rfl)
    · have c21 : ¬ ((tN σ len n) - (tS σ len n)) = (strL.getD i 0) := fun z => c21 ((nI_eq (a := ((tN σ len n) - (tS σ len n))) (b := (strL.getD i 0)) (by omega) (by omega)).mpr z)
      refine lv_iconst (v := nI 0) X.x X.b d_Tp_isWord_24 (by decide) ?_
      exact q_zret X (by decide) hW ⟨(b2i_f (fun z => by exact c21 z.2.1)).symm, rfl⟩ d_Tp_isWord_25
set_option maxHeartbeats 1000000 in
set_option maxRecDepth 20000 in
theorem c_Tp_isNumber (l : Launch) (E : QE) (S : QM) (θ σ : Nat → Int32) (hθ : S 4 = θ) (hσ : S 5 = σ) (len n : Nat) (hk : tkOK σ len n θ) (hn : n ≤ len) (hlen : len ≤ 120) (lo hi : Nat) : qCI E l y_Tp_isNumber prog_5_method_11_code 3 .boolean 2 [.ref (eA E 58), .int (nI lo), .int (nI hi)] S (b2i (num σ len n lo hi)) S := by
  refine qCI_of (by decide) (Nat.le_of_ble_eq_true rfl) (fun p e s m below meth c ls X hW hl => ?_)
  have hl : lv_has ls 3 [(0, .ref (eA E 58)), (1, .int (nI lo)), (2, .int (nI hi))] := hl
  obtain ⟨kθ_1, kθ_2, kθ_3, kθ_4, kθ_5⟩ := id hk
  have hb1 := tN_n (σ := σ) (len := len) (n := n) (by omega)
  have hb2 := tN_le (σ := σ) (len := len) (n := n) (by omega)
  have hb3 := tK_le (σ := σ) (len := len) (n := n)
  refine lv_aload_n X.x X.b d_Tp_isNumber_0 rfl (lv_at hl 0 rfl) ?_
  refine g_geti X hW qj2 rfl _ ds_T 3 (by decide) mw_147 rfl (r0 := 4) (p0 := 3) rfl (v := θ 3) (by rw [hθ]) d_Tp_isNumber_1 ?_
  rw [kθ_3]
  refine lv_iconst (v := nI 2) X.x X.b d_Tp_isNumber_4 (by decide) ?_
  refine lv_icmp_ne (tgt := 24) X.x X.b d_Tp_isNumber_5 (by decide) (fun c5 => ?_) (fun c5 => ?_)
  · have c5 : ¬ (tK σ len n) = 2 := fun z => c5 ((nI_eq (a := (tK σ len n)) (b := 2) (by omega) (by omega)).mpr z)
    refine lv_iconst (v := nI 0) X.x X.b d_Tp_isNumber_24 (by decide) ?_
    exact q_zret X (by decide) hW ⟨(b2i_f (fun z => c5 z.1)).symm, rfl⟩ d_Tp_isNumber_25
  · have c5 : (tK σ len n) = 2 := (nI_eq (a := (tK σ len n)) (b := 2) (by omega) (by omega)).mp c5
    refine lv_aload_n X.x X.b d_Tp_isNumber_8 rfl (lv_at hl 0 rfl) ?_
    refine g_geti X hW qj2 rfl _ ds_T 5 (by decide) mw_149 rfl (r0 := 4) (p0 := 5) rfl (v := θ 5) (by rw [hθ]) d_Tp_isNumber_9 ?_
    rw [kθ_5]
    refine lv_iload_n X.x X.b d_Tp_isNumber_12 rfl (lv_at hl 1 rfl) ?_
    refine lv_iload_n X.x X.b d_Tp_isNumber_13 rfl (lv_at hl 2 rfl) ?_
    refine q_csiN X (c_X_within l E S (tV σ len n) (nI lo) (nI hi)) hW ok_X_within X.Z.2.2.2.2.2.2.2.1 ⟨by decide, by decide⟩ (As := [.int (tV σ len n), .int (nI lo), .int (nI hi)]) rfl rfl (Nat.le_of_ble_eq_true rfl) (lv := [(0, .ref (eA E 58)), (1, .int (nI lo)), (2, .int (nI hi))]) hl ⟨Nat.le_refl 0, Nat.le_refl 0⟩ d_Tp_isNumber_14 (fun H locs hW => ?_)
    refine lv_if_eq (tgt := 24) X.x X.b d_Tp_isNumber_17 (by decide) (fun c17 => ?_) (fun c17 => ?_)
    · have c17 := b2i_e c17
      refine lv_iconst (v := nI 0) X.x X.b d_Tp_isNumber_24 (by decide) ?_
      exact q_zret X (by decide) hW ⟨(b2i_f (fun z => c17 z.2)).symm, rfl⟩ d_Tp_isNumber_25
    · have c17 := b2i_n c17
      refine lv_iconst (v := nI 1) X.x X.b d_Tp_isNumber_20 (by decide) ?_
      refine lv_goto (tgt := 25) X.x X.b d_Tp_isNumber_21 (by decide) ?_
      exact q_zret X (by decide) hW ⟨(b2i_t ⟨c5, c17⟩).symm, rfl⟩ d_Tp_isNumber_25
set_option maxHeartbeats 1000000 in
set_option maxRecDepth 20000 in
theorem c_Tp_kindOfWord (l : Launch) (E : QE) (S : QM) (θ σ : Nat → Int32) (hθ : S 4 = θ) (hσ : S 5 = σ) (len n : Nat) (hk : tkOK σ len n θ) (hn : n ≤ len) (hlen : len ≤ 120) : qCI E l y_Tp_kindOfWord prog_5_method_9_code 1 .int 6 [.ref (eA E 58)] S (kwI σ len n) S := by
  refine qCI_of (by decide) (Nat.le_of_ble_eq_true rfl) (fun p e s m below meth c ls X hW hl => ?_)
  have hl : lv_has ls 1 [(0, .ref (eA E 58))] := hl
  obtain ⟨kθ_1, kθ_2, kθ_3, kθ_4, kθ_5⟩ := id hk
  have hb1 := tN_n (σ := σ) (len := len) (n := n) (by omega)
  have hb2 := tN_le (σ := σ) (len := len) (n := n) (by omega)
  have hb3 := tK_le (σ := σ) (len := len) (n := n)
  refine lv_aload_n X.x X.b d_Tp_kindOfWord_0 rfl (lv_at hl 0 rfl) ?_
  refine q_ldcs X (tx := "thing") (i := 0) (by decide) d_Tp_kindOfWord_1 ?_
  refine q_cvi X (c_Tp_isWord l E S θ σ (by rw [hθ]) (by rw [hσ]) len n hk (by omega) (by omega) 0 (by omega)) hW (q_recv X hW ds_T rfl) ok_Tp_isWord mw_506 ⟨by decide, by decide⟩ (As := [.ref (eK E 0)]) rfl rfl (Nat.le_of_ble_eq_true rfl) (lv := [(0, .ref (eA E 58))]) hl ⟨Nat.le_refl 0, Nat.le_refl 0⟩ d_Tp_kindOfWord_3 (fun H locs hW => ?_)
  refine lv_if_eq (tgt := 11) X.x X.b d_Tp_kindOfWord_6 (by decide) (fun c6 => ?_) (fun c6 => ?_)
  · have c6 := b2i_e c6
    refine lv_aload_n X.x X.b d_Tp_kindOfWord_11 rfl (lv_at hl 0 rfl) ?_
    refine q_ldcs X (tx := "steeple") (i := 1) (by decide) d_Tp_kindOfWord_12 ?_
    refine q_cvi X (c_Tp_isWord l E S θ σ (by rw [hθ]) (by rw [hσ]) len n hk (by omega) (by omega) 1 (by omega)) hW (q_recv X hW ds_T rfl) ok_Tp_isWord mw_506 ⟨by decide, by decide⟩ (As := [.ref (eK E 1)]) rfl rfl (Nat.le_of_ble_eq_true rfl) (lv := [(0, .ref (eA E 58))]) hl ⟨Nat.le_refl 0, Nat.le_refl 0⟩ d_Tp_kindOfWord_14 (fun H locs hW => ?_)
    refine lv_if_eq (tgt := 22) X.x X.b d_Tp_kindOfWord_17 (by decide) (fun c17 => ?_) (fun c17 => ?_)
    · have c17 := b2i_e c17
      refine lv_aload_n X.x X.b d_Tp_kindOfWord_22 rfl (lv_at hl 0 rfl) ?_
      refine q_ldcs X (tx := "cow") (i := 2) (by decide) d_Tp_kindOfWord_23 ?_
      refine q_cvi X (c_Tp_isWord l E S θ σ (by rw [hθ]) (by rw [hσ]) len n hk (by omega) (by omega) 2 (by omega)) hW (q_recv X hW ds_T rfl) ok_Tp_isWord mw_506 ⟨by decide, by decide⟩ (As := [.ref (eK E 2)]) rfl rfl (Nat.le_of_ble_eq_true rfl) (lv := [(0, .ref (eA E 58))]) hl ⟨Nat.le_refl 0, Nat.le_refl 0⟩ d_Tp_kindOfWord_25 (fun H locs hW => ?_)
      refine lv_if_eq (tgt := 33) X.x X.b d_Tp_kindOfWord_28 (by decide) (fun c28 => ?_) (fun c28 => ?_)
      · have c28 := b2i_e c28
        refine lv_aload_n X.x X.b d_Tp_kindOfWord_33 rfl (lv_at hl 0 rfl) ?_
        refine q_ldcs X (tx := "child") (i := 3) (by decide) d_Tp_kindOfWord_34 ?_
        refine q_cvi X (c_Tp_isWord l E S θ σ (by rw [hθ]) (by rw [hσ]) len n hk (by omega) (by omega) 3 (by omega)) hW (q_recv X hW ds_T rfl) ok_Tp_isWord mw_506 ⟨by decide, by decide⟩ (As := [.ref (eK E 3)]) rfl rfl (Nat.le_of_ble_eq_true rfl) (lv := [(0, .ref (eA E 58))]) hl ⟨Nat.le_refl 0, Nat.le_refl 0⟩ d_Tp_kindOfWord_36 (fun H locs hW => ?_)
        refine lv_if_eq (tgt := 44) X.x X.b d_Tp_kindOfWord_39 (by decide) (fun c39 => ?_) (fun c39 => ?_)
        · have c39 := b2i_e c39
          refine lv_aload_n X.x X.b d_Tp_kindOfWord_44 rfl (lv_at hl 0 rfl) ?_
          refine q_ldcs X (tx := "lover") (i := 4) (by decide) d_Tp_kindOfWord_45 ?_
          refine q_cvi X (c_Tp_isWord l E S θ σ (by rw [hθ]) (by rw [hσ]) len n hk (by omega) (by omega) 4 (by omega)) hW (q_recv X hW ds_T rfl) ok_Tp_isWord mw_506 ⟨by decide, by decide⟩ (As := [.ref (eK E 4)]) rfl rfl (Nat.le_of_ble_eq_true rfl) (lv := [(0, .ref (eA E 58))]) hl ⟨Nat.le_refl 0, Nat.le_refl 0⟩ d_Tp_kindOfWord_47 (fun H locs hW => ?_)
          refine lv_if_eq (tgt := 55) X.x X.b d_Tp_kindOfWord_50 (by decide) (fun c50 => ?_) (fun c50 => ?_)
          · have c50 := b2i_e c50
            refine lv_aload_n X.x X.b d_Tp_kindOfWord_55 rfl (lv_at hl 0 rfl) ?_
            refine q_ldcs X (tx := "bill") (i := 5) (by decide) d_Tp_kindOfWord_56 ?_
            refine q_cvi X (c_Tp_isWord l E S θ σ (by rw [hθ]) (by rw [hσ]) len n hk (by omega) (by omega) 5 (by omega)) hW (q_recv X hW ds_T rfl) ok_Tp_isWord mw_506 ⟨by decide, by decide⟩ (As := [.ref (eK E 5)]) rfl rfl (Nat.le_of_ble_eq_true rfl) (lv := [(0, .ref (eA E 58))]) hl ⟨Nat.le_refl 0, Nat.le_refl 0⟩ d_Tp_kindOfWord_58 (fun H locs hW => ?_)
            refine lv_if_eq (tgt := 66) X.x X.b d_Tp_kindOfWord_61 (by decide) (fun c61 => ?_) (fun c61 => ?_)
            · have c61 := b2i_e c61
              refine lv_aload_n X.x X.b d_Tp_kindOfWord_66 rfl (lv_at hl 0 rfl) ?_
              refine q_ldcs X (tx := "inn") (i := 6) (by decide) d_Tp_kindOfWord_67 ?_
              refine q_cvi X (c_Tp_isWord l E S θ σ (by rw [hθ]) (by rw [hσ]) len n hk (by omega) (by omega) 6 (by omega)) hW (q_recv X hW ds_T rfl) ok_Tp_isWord mw_506 ⟨by decide, by decide⟩ (As := [.ref (eK E 6)]) rfl rfl (Nat.le_of_ble_eq_true rfl) (lv := [(0, .ref (eA E 58))]) hl ⟨Nat.le_refl 0, Nat.le_refl 0⟩ d_Tp_kindOfWord_69 (fun H locs hW => ?_)
              refine lv_if_eq (tgt := 80) X.x X.b d_Tp_kindOfWord_72 (by decide) (fun c72 => ?_) (fun c72 => ?_)
              · have c72 := b2i_e c72
                refine lv_iconst (v := (-1)) X.x X.b d_Tp_kindOfWord_80 (by decide) ?_
                have hK : kwd σ len n = none := by unfold kwd; rw [if_neg c6, if_neg c17, if_neg c28, if_neg c39, if_neg c50, if_neg c61, if_neg c72]
                exact q_zret X rfl hW ⟨(kwI_n hK).symm, rfl⟩ d_Tp_kindOfWord_81
              · have c72 := b2i_n c72
                refine lv_bipush (v := nI 6) X.x X.b d_Tp_kindOfWord_75 (by decide) ?_
                refine lv_goto (tgt := 81) X.x X.b d_Tp_kindOfWord_77 (by decide) ?_
                have hK : kwd σ len n = some 6 := by unfold kwd; rw [if_neg c6, if_neg c17, if_neg c28, if_neg c39, if_neg c50, if_neg c61, if_pos c72]
                exact q_zret X rfl hW ⟨(kwI_s hK).symm, rfl⟩ d_Tp_kindOfWord_81
            · have c61 := b2i_n c61
              refine lv_iconst (v := nI 5) X.x X.b d_Tp_kindOfWord_64 (by decide) ?_
              have hK : kwd σ len n = some 5 := by unfold kwd; rw [if_neg c6, if_neg c17, if_neg c28, if_neg c39, if_neg c50, if_pos c61]
              exact q_zret X rfl hW ⟨(kwI_s hK).symm, rfl⟩ d_Tp_kindOfWord_65
          · have c50 := b2i_n c50
            refine lv_iconst (v := nI 4) X.x X.b d_Tp_kindOfWord_53 (by decide) ?_
            have hK : kwd σ len n = some 4 := by unfold kwd; rw [if_neg c6, if_neg c17, if_neg c28, if_neg c39, if_pos c50]
            exact q_zret X rfl hW ⟨(kwI_s hK).symm, rfl⟩ d_Tp_kindOfWord_54
        · have c39 := b2i_n c39
          refine lv_iconst (v := nI 3) X.x X.b d_Tp_kindOfWord_42 (by decide) ?_
          have hK : kwd σ len n = some 3 := by unfold kwd; rw [if_neg c6, if_neg c17, if_neg c28, if_pos c39]
          exact q_zret X rfl hW ⟨(kwI_s hK).symm, rfl⟩ d_Tp_kindOfWord_43
      · have c28 := b2i_n c28
        refine lv_iconst (v := nI 2) X.x X.b d_Tp_kindOfWord_31 (by decide) ?_
        have hK : kwd σ len n = some 2 := by unfold kwd; rw [if_neg c6, if_neg c17, if_pos c28]
        exact q_zret X rfl hW ⟨(kwI_s hK).symm, rfl⟩ d_Tp_kindOfWord_32
    · have c17 := b2i_n c17
      refine lv_iconst (v := nI 1) X.x X.b d_Tp_kindOfWord_20 (by decide) ?_
      have hK : kwd σ len n = some 1 := by unfold kwd; rw [if_neg c6, if_pos c17]
      exact q_zret X rfl hW ⟨(kwI_s hK).symm, rfl⟩ d_Tp_kindOfWord_21
  · have c6 := b2i_n c6
    refine lv_iconst (v := nI 0) X.x X.b d_Tp_kindOfWord_9 (by decide) ?_
    have hK : kwd σ len n = some 0 := by unfold kwd; rw [if_pos c6]
    exact q_zret X rfl hW ⟨(kwI_s hK).symm, rfl⟩ d_Tp_kindOfWord_10
