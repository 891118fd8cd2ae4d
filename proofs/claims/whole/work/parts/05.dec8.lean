theorem dX8_init_0 : decode cX8_init 0 = .ok (.aload_n 0, 1) := by decide +kernel
theorem dX8_init_1 : decode cX8_init 1 = .ok (.invokespecial 1, 3) := by decide +kernel
theorem dX8_init_4 : decode cX8_init 4 = .ok (.aload_n 0, 1) := by decide +kernel
theorem dX8_init_5 : decode cX8_init 5 = .ok (.iconst 2, 1) := by decide +kernel
theorem dX8_init_6 : decode cX8_init 6 = .ok (.newarray .int, 2) := by decide +kernel
theorem dX8_init_8 : decode cX8_init 8 = .ok (.putfield 7, 3) := by decide +kernel
theorem dX8_init_11 : decode cX8_init 11 = .ok (.aload_n 0, 1) := by decide +kernel
theorem dX8_init_12 : decode cX8_init 12 = .ok (.bipush 94, 2) := by decide +kernel
theorem dX8_init_14 : decode cX8_init 14 = .ok (.newarray .int, 2) := by decide +kernel
theorem dX8_init_16 : decode cX8_init 16 = .ok (.putfield 13, 3) := by decide +kernel
theorem dX8_init_19 : decode cX8_init 19 = .ok (.aload_n 0, 1) := by decide +kernel
theorem dX8_init_20 : decode cX8_init 20 = .ok (.bipush 40, 2) := by decide +kernel
theorem dX8_init_22 : decode cX8_init 22 = .ok (.newarray .int, 2) := by decide +kernel
theorem dX8_init_24 : decode cX8_init 24 = .ok (.putfield 16, 3) := by decide +kernel
theorem dX8_init_27 : decode cX8_init 27 = .ok (.aload_n 0, 1) := by decide +kernel
theorem dX8_init_28 : decode cX8_init 28 = .ok (.bipush 9, 2) := by decide +kernel
theorem dX8_init_30 : decode cX8_init 30 = .ok (.newarray .int, 2) := by decide +kernel
theorem dX8_init_32 : decode cX8_init 32 = .ok (.putfield 19, 3) := by decide +kernel
theorem dX8_init_35 : decode cX8_init 35 = .ok (.aload_n 0, 1) := by decide +kernel
theorem dX8_init_36 : decode cX8_init 36 = .ok (.bipush 9, 2) := by decide +kernel
theorem dX8_init_38 : decode cX8_init 38 = .ok (.newarray .int, 2) := by decide +kernel
theorem dX8_init_40 : decode cX8_init 40 = .ok (.putfield 22, 3) := by decide +kernel
theorem dX8_init_43 : decode cX8_init 43 = .ok (.aload_n 0, 1) := by decide +kernel
theorem dX8_init_44 : decode cX8_init 44 = .ok (.bipush 9, 2) := by decide +kernel
theorem dX8_init_46 : decode cX8_init 46 = .ok (.newarray .int, 2) := by decide +kernel
theorem dX8_init_48 : decode cX8_init 48 = .ok (.putfield 25, 3) := by decide +kernel
theorem dX8_init_51 : decode cX8_init 51 = .ok (.aload_n 0, 1) := by decide +kernel
theorem dX8_init_52 : decode cX8_init 52 = .ok (.bipush 9, 2) := by decide +kernel
theorem dX8_init_54 : decode cX8_init 54 = .ok (.newarray .int, 2) := by decide +kernel
theorem dX8_init_56 : decode cX8_init 56 = .ok (.putfield 28, 3) := by decide +kernel
theorem dX8_init_59 : decode cX8_init 59 = .ok (.aload_n 0, 1) := by decide +kernel
theorem dX8_init_60 : decode cX8_init 60 = .ok (.iconst 5, 1) := by decide +kernel
theorem dX8_init_61 : decode cX8_init 61 = .ok (.newarray .int, 2) := by decide +kernel
theorem dX8_init_63 : decode cX8_init 63 = .ok (.putfield 31, 3) := by decide +kernel
theorem dX8_init_66 : decode cX8_init 66 = .ok (.aload_n 0, 1) := by decide +kernel
theorem dX8_init_67 : decode cX8_init 67 = .ok (.bipush 6, 2) := by decide +kernel
theorem dX8_init_69 : decode cX8_init 69 = .ok (.newarray .int, 2) := by decide +kernel
theorem dX8_init_71 : decode cX8_init 71 = .ok (.putfield 34, 3) := by decide +kernel
theorem dX8_init_74 : decode cX8_init 74 = .ok (.aload_n 0, 1) := by decide +kernel
theorem dX8_init_75 : decode cX8_init 75 = .ok (.bipush 7, 2) := by decide +kernel
theorem dX8_init_77 : decode cX8_init 77 = .ok (.newarray .int, 2) := by decide +kernel
theorem dX8_init_79 : decode cX8_init 79 = .ok (.putfield 37, 3) := by decide +kernel
theorem dX8_init_82 : decode cX8_init 82 = .ok (.aload_n 0, 1) := by decide +kernel
theorem dX8_init_83 : decode cX8_init 83 = .ok (.bipush 40, 2) := by decide +kernel
theorem dX8_init_85 : decode cX8_init 85 = .ok (.newarray .int, 2) := by decide +kernel
theorem dX8_init_87 : decode cX8_init 87 = .ok (.putfield 40, 3) := by decide +kernel
theorem dX8_init_90 : decode cX8_init 90 = .ok (.aload_n 0, 1) := by decide +kernel
theorem dX8_init_91 : decode cX8_init 91 = .ok (.bipush 8, 2) := by decide +kernel
theorem dX8_init_93 : decode cX8_init 93 = .ok (.newarray .int, 2) := by decide +kernel
theorem dX8_init_95 : decode cX8_init 95 = .ok (.putfield 43, 3) := by decide +kernel
theorem dX8_init_98 : decode cX8_init 98 = .ok (.aload_n 0, 1) := by decide +kernel
theorem dX8_init_99 : decode cX8_init 99 = .ok (.bipush 40, 2) := by decide +kernel
theorem dX8_init_101 : decode cX8_init 101 = .ok (.newarray .int, 2) := by decide +kernel
theorem dX8_init_103 : decode cX8_init 103 = .ok (.putfield 46, 3) := by decide +kernel
theorem dX8_init_106 : decode cX8_init 106 = .ok (.aload_n 0, 1) := by decide +kernel
theorem dX8_init_107 : decode cX8_init 107 = .ok (.bipush 40, 2) := by decide +kernel
theorem dX8_init_109 : decode cX8_init 109 = .ok (.newarray .int, 2) := by decide +kernel
theorem dX8_init_111 : decode cX8_init 111 = .ok (.putfield 49, 3) := by decide +kernel
theorem dX8_init_114 : decode cX8_init 114 = .ok (.aload_n 0, 1) := by decide +kernel
theorem dX8_init_115 : decode cX8_init 115 = .ok (.bipush 40, 2) := by decide +kernel
theorem dX8_init_117 : decode cX8_init 117 = .ok (.newarray .int, 2) := by decide +kernel
theorem dX8_init_119 : decode cX8_init 119 = .ok (.putfield 52, 3) := by decide +kernel
theorem dX8_init_122 : decode cX8_init 122 = .ok (.aload_n 0, 1) := by decide +kernel
theorem dX8_init_123 : decode cX8_init 123 = .ok (.bipush 40, 2) := by decide +kernel
theorem dX8_init_125 : decode cX8_init 125 = .ok (.newarray .int, 2) := by decide +kernel
theorem dX8_init_127 : decode cX8_init 127 = .ok (.putfield 55, 3) := by decide +kernel
theorem dX8_init_130 : decode cX8_init 130 = .ok (.aload_n 0, 1) := by decide +kernel
theorem dX8_init_131 : decode cX8_init 131 = .ok (.bipush 40, 2) := by decide +kernel
theorem dX8_init_133 : decode cX8_init 133 = .ok (.newarray .int, 2) := by decide +kernel
theorem dX8_init_135 : decode cX8_init 135 = .ok (.putfield 58, 3) := by decide +kernel
theorem dX8_init_138 : decode cX8_init 138 = .ok (.aload_n 0, 1) := by decide +kernel
theorem dX8_init_139 : decode cX8_init 139 = .ok (.bipush 8, 2) := by decide +kernel
theorem dX8_init_141 : decode cX8_init 141 = .ok (.newarray .int, 2) := by decide +kernel
theorem dX8_init_143 : decode cX8_init 143 = .ok (.putfield 61, 3) := by decide +kernel
theorem dX8_init_146 : decode cX8_init 146 = .ok (.aload_n 0, 1) := by decide +kernel
theorem dX8_init_147 : decode cX8_init 147 = .ok (.bipush 8, 2) := by decide +kernel
theorem dX8_init_149 : decode cX8_init 149 = .ok (.newarray .int, 2) := by decide +kernel
theorem dX8_init_151 : decode cX8_init 151 = .ok (.putfield 64, 3) := by decide +kernel
theorem dX8_init_154 : decode cX8_init 154 = .ok (.aload_n 0, 1) := by decide +kernel
theorem dX8_init_155 : decode cX8_init 155 = .ok (.bipush 8, 2) := by decide +kernel
theorem dX8_init_157 : decode cX8_init 157 = .ok (.newarray .int, 2) := by decide +kernel
theorem dX8_init_159 : decode cX8_init 159 = .ok (.putfield 67, 3) := by decide +kernel
theorem dX8_init_162 : decode cX8_init 162 = .ok (.aload_n 0, 1) := by decide +kernel
theorem dX8_init_163 : decode cX8_init 163 = .ok (.bipush 8, 2) := by decide +kernel
theorem dX8_init_165 : decode cX8_init 165 = .ok (.newarray .int, 2) := by decide +kernel
theorem dX8_init_167 : decode cX8_init 167 = .ok (.putfield 70, 3) := by decide +kernel
theorem dX8_init_170 : decode cX8_init 170 = .ok (.aload_n 0, 1) := by decide +kernel
theorem dX8_init_171 : decode cX8_init 171 = .ok (.sipush 840, 3) := by decide +kernel
theorem dX8_init_174 : decode cX8_init 174 = .ok (.newarray .int, 2) := by decide +kernel
theorem dX8_init_176 : decode cX8_init 176 = .ok (.putfield 73, 3) := by decide +kernel
theorem dX8_init_179 : decode cX8_init 179 = .ok (.aload_n 0, 1) := by decide +kernel
theorem dX8_init_180 : decode cX8_init 180 = .ok (.iconst 4, 1) := by decide +kernel
theorem dX8_init_181 : decode cX8_init 181 = .ok (.newarray .boolean, 2) := by decide +kernel
theorem dX8_init_183 : decode cX8_init 183 = .ok (.putfield 76, 3) := by decide +kernel
theorem dX8_init_186 : decode cX8_init 186 = .ok (.aload_n 0, 1) := by decide +kernel
theorem dX8_init_187 : decode cX8_init 187 = .ok (.iconst 4, 1) := by decide +kernel
theorem dX8_init_188 : decode cX8_init 188 = .ok (.newarray .int, 2) := by decide +kernel
theorem dX8_init_190 : decode cX8_init 190 = .ok (.putfield 80, 3) := by decide +kernel
theorem dX8_init_193 : decode cX8_init 193 = .ok (.aload_n 0, 1) := by decide +kernel
theorem dX8_init_194 : decode cX8_init 194 = .ok (.iconst 4, 1) := by decide +kernel
theorem dX8_init_195 : decode cX8_init 195 = .ok (.newarray .int, 2) := by decide +kernel
theorem dX8_init_197 : decode cX8_init 197 = .ok (.putfield 83, 3) := by decide +kernel
theorem dX8_init_200 : decode cX8_init 200 = .ok (.aload_n 0, 1) := by decide +kernel
theorem dX8_init_201 : decode cX8_init 201 = .ok (.sipush 240, 3) := by decide +kernel
theorem dX8_init_204 : decode cX8_init 204 = .ok (.newarray .int, 2) := by decide +kernel
theorem dX8_init_206 : decode cX8_init 206 = .ok (.putfield 86, 3) := by decide +kernel
theorem dX8_init_209 : decode cX8_init 209 = .ok (.aload_n 0, 1) := by decide +kernel
theorem dX8_init_210 : decode cX8_init 210 = .ok (.bipush 60, 2) := by decide +kernel
theorem dX8_init_212 : decode cX8_init 212 = .ok (.newarray .int, 2) := by decide +kernel
theorem dX8_init_214 : decode cX8_init 214 = .ok (.putfield 89, 3) := by decide +kernel
theorem dX8_init_217 : decode cX8_init 217 = .ok (.aload_n 0, 1) := by decide +kernel
theorem dX8_init_218 : decode cX8_init 218 = .ok (.getfield 31, 3) := by decide +kernel
theorem dX8_init_221 : decode cX8_init 221 = .ok (.iconst 0, 1) := by decide +kernel
theorem dX8_init_222 : decode cX8_init 222 = .ok (.bipush 10, 2) := by decide +kernel
theorem dX8_init_224 : decode cX8_init 224 = .ok (.iastore, 1) := by decide +kernel
theorem dX8_init_225 : decode cX8_init 225 = .ok (.aload_n 0, 1) := by decide +kernel
theorem dX8_init_226 : decode cX8_init 226 = .ok (.getfield 31, 3) := by decide +kernel
theorem dX8_init_229 : decode cX8_init 229 = .ok (.iconst 1, 1) := by decide +kernel
theorem dX8_init_230 : decode cX8_init 230 = .ok (.iconst 4, 1) := by decide +kernel
theorem dX8_init_231 : decode cX8_init 231 = .ok (.iastore, 1) := by decide +kernel
theorem dX8_init_232 : decode cX8_init 232 = .ok (.aload_n 0, 1) := by decide +kernel
theorem dX8_init_233 : decode cX8_init 233 = .ok (.getfield 31, 3) := by decide +kernel
theorem dX8_init_236 : decode cX8_init 236 = .ok (.iconst 2, 1) := by decide +kernel
theorem dX8_init_237 : decode cX8_init 237 = .ok (.iconst 0, 1) := by decide +kernel
theorem dX8_init_238 : decode cX8_init 238 = .ok (.iastore, 1) := by decide +kernel
theorem dX8_init_239 : decode cX8_init 239 = .ok (.aload_n 0, 1) := by decide +kernel
theorem dX8_init_240 : decode cX8_init 240 = .ok (.getfield 31, 3) := by decide +kernel
theorem dX8_init_243 : decode cX8_init 243 = .ok (.iconst 3, 1) := by decide +kernel
theorem dX8_init_244 : decode cX8_init 244 = .ok (.iconst 2, 1) := by decide +kernel
theorem dX8_init_245 : decode cX8_init 245 = .ok (.iastore, 1) := by decide +kernel
theorem dX8_init_246 : decode cX8_init 246 = .ok (.aload_n 0, 1) := by decide +kernel
theorem dX8_init_247 : decode cX8_init 247 = .ok (.getfield 31, 3) := by decide +kernel
theorem dX8_init_250 : decode cX8_init 250 = .ok (.iconst 4, 1) := by decide +kernel
theorem dX8_init_251 : decode cX8_init 251 = .ok (.iconst 5, 1) := by decide +kernel
theorem dX8_init_252 : decode cX8_init 252 = .ok (.iastore, 1) := by decide +kernel
theorem dX8_init_253 : decode cX8_init 253 = .ok (.return_, 1) := by decide +kernel
theorem dX8_in_0 : decode cX8_in 0 = .ok (.iload_n 0, 1) := by decide +kernel
theorem dX8_in_1 : decode cX8_in 1 = .ok (.iload_n 1, 1) := by decide +kernel
theorem dX8_in_2 : decode cX8_in 2 = .ok (.if_icmp .lt 12, 3) := by decide +kernel
theorem dX8_in_5 : decode cX8_in 5 = .ok (.iload_n 0, 1) := by decide +kernel
theorem dX8_in_6 : decode cX8_in 6 = .ok (.iload_n 2, 1) := by decide +kernel
theorem dX8_in_7 : decode cX8_in 7 = .ok (.if_icmp .gt 7, 3) := by decide +kernel
theorem dX8_in_10 : decode cX8_in 10 = .ok (.iconst 1, 1) := by decide +kernel
theorem dX8_in_11 : decode cX8_in 11 = .ok (.goto 4, 3) := by decide +kernel
theorem dX8_in_14 : decode cX8_in 14 = .ok (.iconst 0, 1) := by decide +kernel
theorem dX8_in_15 : decode cX8_in 15 = .ok (.ireturn, 1) := by decide +kernel
theorem dX8_isIn_0 : decode cX8_isIn 0 = .ok (.iload_n 0, 1) := by decide +kernel
theorem dX8_isIn_1 : decode cX8_isIn 1 = .ok (.iload_n 1, 1) := by decide +kernel
theorem dX8_isIn_2 : decode cX8_isIn 2 = .ok (.ishr, 1) := by decide +kernel
theorem dX8_isIn_3 : decode cX8_isIn 3 = .ok (.iconst 1, 1) := by decide +kernel
theorem dX8_isIn_4 : decode cX8_isIn 4 = .ok (.iand, 1) := by decide +kernel
theorem dX8_isIn_5 : decode cX8_isIn 5 = .ok (.iconst 1, 1) := by decide +kernel
theorem dX8_isIn_6 : decode cX8_isIn 6 = .ok (.if_icmp .ne 7, 3) := by decide +kernel
theorem dX8_isIn_9 : decode cX8_isIn 9 = .ok (.iconst 1, 1) := by decide +kernel
theorem dX8_isIn_10 : decode cX8_isIn 10 = .ok (.goto 4, 3) := by decide +kernel
theorem dX8_isIn_13 : decode cX8_isIn 13 = .ok (.iconst 0, 1) := by decide +kernel
theorem dX8_isIn_14 : decode cX8_isIn 14 = .ok (.ireturn, 1) := by decide +kernel
theorem dX8_no_0 : decode cX8_no 0 = .ok (.ldc2_w 92, 3) := by decide +kernel
theorem dX8_no_3 : decode cX8_no 3 = .ok (.iload_n 0, 1) := by decide +kernel
theorem dX8_no_4 : decode cX8_no 4 = .ok (.i2l, 1) := by decide +kernel
theorem dX8_no_5 : decode cX8_no 5 = .ok (.lsub, 1) := by decide +kernel
theorem dX8_no_6 : decode cX8_no 6 = .ok (.lreturn, 1) := by decide +kernel
theorem dX8_lowest_0 : decode cX8_lowest 0 = .ok (.lload_n 0, 1) := by decide +kernel
theorem dX8_lowest_1 : decode cX8_lowest 1 = .ok (.lstore 5, 2) := by decide +kernel
theorem dX8_lowest_3 : decode cX8_lowest 3 = .ok (.lload_n 2, 1) := by decide +kernel
theorem dX8_lowest_4 : decode cX8_lowest 4 = .ok (.lstore 7, 2) := by decide +kernel
theorem dX8_lowest_6 : decode cX8_lowest 6 = .ok (.lload 7, 2) := by decide +kernel
theorem dX8_lowest_8 : decode cX8_lowest 8 = .ok (.lconst 0, 1) := by decide +kernel
theorem dX8_lowest_9 : decode cX8_lowest 9 = .ok (.lcmp, 1) := by decide +kernel
theorem dX8_lowest_10 : decode cX8_lowest 10 = .ok (.ifCond .eq 21, 3) := by decide +kernel
theorem dX8_lowest_13 : decode cX8_lowest 13 = .ok (.lload 5, 2) := by decide +kernel
theorem dX8_lowest_15 : decode cX8_lowest 15 = .ok (.lload 7, 2) := by decide +kernel
theorem dX8_lowest_17 : decode cX8_lowest 17 = .ok (.lrem, 1) := by decide +kernel
theorem dX8_lowest_18 : decode cX8_lowest 18 = .ok (.lstore 9, 2) := by decide +kernel
theorem dX8_lowest_20 : decode cX8_lowest 20 = .ok (.lload 7, 2) := by decide +kernel
theorem dX8_lowest_22 : decode cX8_lowest 22 = .ok (.lstore 5, 2) := by decide +kernel
theorem dX8_lowest_24 : decode cX8_lowest 24 = .ok (.lload 9, 2) := by decide +kernel
theorem dX8_lowest_26 : decode cX8_lowest 26 = .ok (.lstore 7, 2) := by decide +kernel
theorem dX8_lowest_28 : decode cX8_lowest 28 = .ok (.goto (-22), 3) := by decide +kernel
theorem dX8_lowest_31 : decode cX8_lowest 31 = .ok (.iload 4, 2) := by decide +kernel
theorem dX8_lowest_33 : decode cX8_lowest 33 = .ok (.ifCond .ne 10, 3) := by decide +kernel
theorem dX8_lowest_36 : decode cX8_lowest 36 = .ok (.lload_n 0, 1) := by decide +kernel
theorem dX8_lowest_37 : decode cX8_lowest 37 = .ok (.lload 5, 2) := by decide +kernel
theorem dX8_lowest_39 : decode cX8_lowest 39 = .ok (.ldiv, 1) := by decide +kernel
theorem dX8_lowest_40 : decode cX8_lowest 40 = .ok (.goto 7, 3) := by decide +kernel
theorem dX8_lowest_43 : decode cX8_lowest 43 = .ok (.lload_n 2, 1) := by decide +kernel
theorem dX8_lowest_44 : decode cX8_lowest 44 = .ok (.lload 5, 2) := by decide +kernel
theorem dX8_lowest_46 : decode cX8_lowest 46 = .ok (.ldiv, 1) := by decide +kernel
theorem dX8_lowest_47 : decode cX8_lowest 47 = .ok (.lreturn, 1) := by decide +kernel
theorem dX8_isText_0 : decode cX8_isText 0 = .ok (.iload_n 0, 1) := by decide +kernel
theorem dX8_isText_1 : decode cX8_isText 1 = .ok (.iconst 0, 1) := by decide +kernel
theorem dX8_isText_2 : decode cX8_isText 2 = .ok (.iconst 1, 1) := by decide +kernel
theorem dX8_isText_3 : decode cX8_isText 3 = .ok (.invokestatic 94, 3) := by decide +kernel
theorem dX8_isText_6 : decode cX8_isText 6 = .ok (.ireturn, 1) := by decide +kernel
theorem dX8_isHour_0 : decode cX8_isHour 0 = .ok (.iload_n 0, 1) := by decide +kernel
theorem dX8_isHour_1 : decode cX8_isHour 1 = .ok (.iconst 0, 1) := by decide +kernel
theorem dX8_isHour_2 : decode cX8_isHour 2 = .ok (.bipush 39, 2) := by decide +kernel
theorem dX8_isHour_4 : decode cX8_isHour 4 = .ok (.invokestatic 94, 3) := by decide +kernel
theorem dX8_isHour_7 : decode cX8_isHour 7 = .ok (.ireturn, 1) := by decide +kernel
theorem dX8_type_0 : decode cX8_type 0 = .ok (.iload_n 1, 1) := by decide +kernel
theorem dX8_type_1 : decode cX8_type 1 = .ok (.invokestatic 98, 3) := by decide +kernel
theorem dX8_type_4 : decode cX8_type 4 = .ok (.ifCond .eq 14, 3) := by decide +kernel
theorem dX8_type_7 : decode cX8_type 7 = .ok (.iload_n 2, 1) := by decide +kernel
theorem dX8_type_8 : decode cX8_type 8 = .ok (.iconst 0, 1) := by decide +kernel
theorem dX8_type_9 : decode cX8_type 9 = .ok (.sipush 255, 3) := by decide +kernel
theorem dX8_type_12 : decode cX8_type 12 = .ok (.invokestatic 94, 3) := by decide +kernel
theorem dX8_type_15 : decode cX8_type 15 = .ok (.ifCond .ne 6, 3) := by decide +kernel
theorem dX8_type_18 : decode cX8_type 18 = .ok (.bipush (-2), 2) := by decide +kernel
theorem dX8_type_20 : decode cX8_type 20 = .ok (.ireturn, 1) := by decide +kernel
theorem dX8_type_21 : decode cX8_type 21 = .ok (.aload_n 0, 1) := by decide +kernel
theorem dX8_type_22 : decode cX8_type 22 = .ok (.getfield 7, 3) := by decide +kernel
theorem dX8_type_25 : decode cX8_type 25 = .ok (.iload_n 1, 1) := by decide +kernel
theorem dX8_type_26 : decode cX8_type 26 = .ok (.iaload, 1) := by decide +kernel
theorem dX8_type_27 : decode cX8_type 27 = .ok (.iload_n 1, 1) := by decide +kernel
theorem dX8_type_28 : decode cX8_type 28 = .ok (.ifCond .ne 8, 3) := by decide +kernel
theorem dX8_type_31 : decode cX8_type 31 = .ok (.bipush 40, 2) := by decide +kernel
theorem dX8_type_33 : decode cX8_type 33 = .ok (.goto 5, 3) := by decide +kernel
theorem dX8_type_36 : decode cX8_type 36 = .ok (.bipush 47, 2) := by decide +kernel
theorem dX8_type_38 : decode cX8_type 38 = .ok (.if_icmp .ne 6, 3) := by decide +kernel
theorem dX8_type_41 : decode cX8_type 41 = .ok (.bipush (-4), 2) := by decide +kernel
theorem dX8_type_43 : decode cX8_type 43 = .ok (.ireturn, 1) := by decide +kernel
theorem dX8_type_44 : decode cX8_type 44 = .ok (.aload_n 0, 1) := by decide +kernel
theorem dX8_type_45 : decode cX8_type 45 = .ok (.getfield 13, 3) := by decide +kernel
theorem dX8_type_48 : decode cX8_type 48 = .ok (.bipush 47, 2) := by decide +kernel
theorem dX8_type_50 : decode cX8_type 50 = .ok (.iload_n 1, 1) := by decide +kernel
theorem dX8_type_51 : decode cX8_type 51 = .ok (.imul, 1) := by decide +kernel
theorem dX8_type_52 : decode cX8_type 52 = .ok (.aload_n 0, 1) := by decide +kernel
theorem dX8_type_53 : decode cX8_type 53 = .ok (.getfield 7, 3) := by decide +kernel
theorem dX8_type_56 : decode cX8_type 56 = .ok (.iload_n 1, 1) := by decide +kernel
theorem dX8_type_57 : decode cX8_type 57 = .ok (.iaload, 1) := by decide +kernel
theorem dX8_type_58 : decode cX8_type 58 = .ok (.iadd, 1) := by decide +kernel
theorem dX8_type_59 : decode cX8_type 59 = .ok (.iload_n 2, 1) := by decide +kernel
theorem dX8_type_60 : decode cX8_type 60 = .ok (.iastore, 1) := by decide +kernel
theorem dX8_type_61 : decode cX8_type 61 = .ok (.aload_n 0, 1) := by decide +kernel
theorem dX8_type_62 : decode cX8_type 62 = .ok (.getfield 7, 3) := by decide +kernel
theorem dX8_type_65 : decode cX8_type 65 = .ok (.iload_n 1, 1) := by decide +kernel
theorem dX8_type_66 : decode cX8_type 66 = .ok (.dup2, 1) := by decide +kernel
theorem dX8_type_67 : decode cX8_type 67 = .ok (.iaload, 1) := by decide +kernel
theorem dX8_type_68 : decode cX8_type 68 = .ok (.iconst 1, 1) := by decide +kernel
theorem dX8_type_69 : decode cX8_type 69 = .ok (.iadd, 1) := by decide +kernel
theorem dX8_type_70 : decode cX8_type 70 = .ok (.iastore, 1) := by decide +kernel
theorem dX8_type_71 : decode cX8_type 71 = .ok (.aload_n 0, 1) := by decide +kernel
theorem dX8_type_72 : decode cX8_type 72 = .ok (.getfield 7, 3) := by decide +kernel
theorem dX8_type_75 : decode cX8_type 75 = .ok (.iload_n 1, 1) := by decide +kernel
theorem dX8_type_76 : decode cX8_type 76 = .ok (.iaload, 1) := by decide +kernel
theorem dX8_type_77 : decode cX8_type 77 = .ok (.ireturn, 1) := by decide +kernel
theorem dX8_wipe_0 : decode cX8_wipe 0 = .ok (.iload_n 1, 1) := by decide +kernel
theorem dX8_wipe_1 : decode cX8_wipe 1 = .ok (.invokestatic 98, 3) := by decide +kernel
theorem dX8_wipe_4 : decode cX8_wipe 4 = .ok (.ifCond .ne 6, 3) := by decide +kernel
theorem dX8_wipe_7 : decode cX8_wipe 7 = .ok (.bipush (-2), 2) := by decide +kernel
theorem dX8_wipe_9 : decode cX8_wipe 9 = .ok (.ireturn, 1) := by decide +kernel
theorem dX8_wipe_10 : decode cX8_wipe 10 = .ok (.aload_n 0, 1) := by decide +kernel
theorem dX8_wipe_11 : decode cX8_wipe 11 = .ok (.getfield 7, 3) := by decide +kernel
theorem dX8_wipe_14 : decode cX8_wipe 14 = .ok (.iload_n 1, 1) := by decide +kernel
theorem dX8_wipe_15 : decode cX8_wipe 15 = .ok (.iaload, 1) := by decide +kernel
theorem dX8_wipe_16 : decode cX8_wipe 16 = .ok (.istore_n 2, 1) := by decide +kernel
theorem dX8_wipe_17 : decode cX8_wipe 17 = .ok (.aload_n 0, 1) := by decide +kernel
theorem dX8_wipe_18 : decode cX8_wipe 18 = .ok (.getfield 7, 3) := by decide +kernel
theorem dX8_wipe_21 : decode cX8_wipe 21 = .ok (.iload_n 1, 1) := by decide +kernel
theorem dX8_wipe_22 : decode cX8_wipe 22 = .ok (.iconst 0, 1) := by decide +kernel
theorem dX8_wipe_23 : decode cX8_wipe 23 = .ok (.iastore, 1) := by decide +kernel
theorem dX8_wipe_24 : decode cX8_wipe 24 = .ok (.iload_n 2, 1) := by decide +kernel
theorem dX8_wipe_25 : decode cX8_wipe 25 = .ok (.ireturn, 1) := by decide +kernel
theorem dX8_undo_0 : decode cX8_undo 0 = .ok (.iload_n 1, 1) := by decide +kernel
theorem dX8_undo_1 : decode cX8_undo 1 = .ok (.invokestatic 98, 3) := by decide +kernel
theorem dX8_undo_4 : decode cX8_undo 4 = .ok (.ifCond .ne 6, 3) := by decide +kernel
theorem dX8_undo_7 : decode cX8_undo 7 = .ok (.bipush (-2), 2) := by decide +kernel
theorem dX8_undo_9 : decode cX8_undo 9 = .ok (.ireturn, 1) := by decide +kernel
theorem dX8_undo_10 : decode cX8_undo 10 = .ok (.aload_n 0, 1) := by decide +kernel
theorem dX8_undo_11 : decode cX8_undo 11 = .ok (.getfield 7, 3) := by decide +kernel
theorem dX8_undo_14 : decode cX8_undo 14 = .ok (.iload_n 1, 1) := by decide +kernel
theorem dX8_undo_15 : decode cX8_undo 15 = .ok (.iaload, 1) := by decide +kernel
theorem dX8_undo_16 : decode cX8_undo 16 = .ok (.ifCond .ne 6, 3) := by decide +kernel
theorem dX8_undo_19 : decode cX8_undo 19 = .ok (.bipush (-3), 2) := by decide +kernel
theorem dX8_undo_21 : decode cX8_undo 21 = .ok (.ireturn, 1) := by decide +kernel
theorem dX8_undo_22 : decode cX8_undo 22 = .ok (.aload_n 0, 1) := by decide +kernel
theorem dX8_undo_23 : decode cX8_undo 23 = .ok (.getfield 7, 3) := by decide +kernel
theorem dX8_undo_26 : decode cX8_undo 26 = .ok (.iload_n 1, 1) := by decide +kernel
theorem dX8_undo_27 : decode cX8_undo 27 = .ok (.dup2, 1) := by decide +kernel
theorem dX8_undo_28 : decode cX8_undo 28 = .ok (.iaload, 1) := by decide +kernel
theorem dX8_undo_29 : decode cX8_undo 29 = .ok (.iconst 1, 1) := by decide +kernel
theorem dX8_undo_30 : decode cX8_undo 30 = .ok (.isub, 1) := by decide +kernel
theorem dX8_undo_31 : decode cX8_undo 31 = .ok (.iastore, 1) := by decide +kernel
theorem dX8_undo_32 : decode cX8_undo 32 = .ok (.aload_n 0, 1) := by decide +kernel
theorem dX8_undo_33 : decode cX8_undo 33 = .ok (.getfield 7, 3) := by decide +kernel
theorem dX8_undo_36 : decode cX8_undo 36 = .ok (.iload_n 1, 1) := by decide +kernel
theorem dX8_undo_37 : decode cX8_undo 37 = .ok (.iaload, 1) := by decide +kernel
theorem dX8_undo_38 : decode cX8_undo 38 = .ok (.ireturn, 1) := by decide +kernel
theorem dX8_readsTides_0 : decode cX8_readsTides 0 = .ok (.aload_n 0, 1) := by decide +kernel
theorem dX8_readsTides_1 : decode cX8_readsTides 1 = .ok (.iconst 0, 1) := by decide +kernel
theorem dX8_readsTides_2 : decode cX8_readsTides 2 = .ok (.putfield 102, 3) := by decide +kernel
theorem dX8_readsTides_5 : decode cX8_readsTides 5 = .ok (.iconst 0, 1) := by decide +kernel
theorem dX8_readsTides_6 : decode cX8_readsTides 6 = .ok (.istore_n 1, 1) := by decide +kernel
theorem dX8_readsTides_7 : decode cX8_readsTides 7 = .ok (.iload_n 1, 1) := by decide +kernel
theorem dX8_readsTides_8 : decode cX8_readsTides 8 = .ok (.bipush 40, 2) := by decide +kernel
theorem dX8_readsTides_10 : decode cX8_readsTides 10 = .ok (.if_icmp .ge 16, 3) := by decide +kernel
theorem dX8_readsTides_13 : decode cX8_readsTides 13 = .ok (.aload_n 0, 1) := by decide +kernel
theorem dX8_readsTides_14 : decode cX8_readsTides 14 = .ok (.getfield 16, 3) := by decide +kernel
theorem dX8_readsTides_17 : decode cX8_readsTides 17 = .ok (.iload_n 1, 1) := by decide +kernel
theorem dX8_readsTides_18 : decode cX8_readsTides 18 = .ok (.iconst 0, 1) := by decide +kernel
theorem dX8_readsTides_19 : decode cX8_readsTides 19 = .ok (.iastore, 1) := by decide +kernel
theorem dX8_readsTides_20 : decode cX8_readsTides 20 = .ok (.iinc 1 1, 3) := by decide +kernel
theorem dX8_readsTides_23 : decode cX8_readsTides 23 = .ok (.goto (-16), 3) := by decide +kernel
theorem dX8_readsTides_26 : decode cX8_readsTides 26 = .ok (.iconst 0, 1) := by decide +kernel
theorem dX8_readsTides_27 : decode cX8_readsTides 27 = .ok (.istore_n 1, 1) := by decide +kernel
theorem dX8_readsTides_28 : decode cX8_readsTides 28 = .ok (.iload_n 1, 1) := by decide +kernel
theorem dX8_readsTides_29 : decode cX8_readsTides 29 = .ok (.aload_n 0, 1) := by decide +kernel
theorem dX8_readsTides_30 : decode cX8_readsTides 30 = .ok (.getfield 7, 3) := by decide +kernel
theorem dX8_readsTides_33 : decode cX8_readsTides 33 = .ok (.iconst 0, 1) := by decide +kernel
theorem dX8_readsTides_34 : decode cX8_readsTides 34 = .ok (.iaload, 1) := by decide +kernel
theorem dX8_readsTides_35 : decode cX8_readsTides 35 = .ok (.if_icmp .ge 27, 3) := by decide +kernel
theorem dX8_readsTides_38 : decode cX8_readsTides 38 = .ok (.aload_n 0, 1) := by decide +kernel
theorem dX8_readsTides_39 : decode cX8_readsTides 39 = .ok (.getfield 13, 3) := by decide +kernel
theorem dX8_readsTides_42 : decode cX8_readsTides 42 = .ok (.iload_n 1, 1) := by decide +kernel
theorem dX8_readsTides_43 : decode cX8_readsTides 43 = .ok (.iaload, 1) := by decide +kernel
theorem dX8_readsTides_44 : decode cX8_readsTides 44 = .ok (.bipush 48, 2) := by decide +kernel
theorem dX8_readsTides_46 : decode cX8_readsTides 46 = .ok (.bipush 57, 2) := by decide +kernel
theorem dX8_readsTides_48 : decode cX8_readsTides 48 = .ok (.invokestatic 94, 3) := by decide +kernel
theorem dX8_readsTides_51 : decode cX8_readsTides 51 = .ok (.ifCond .ne 5, 3) := by decide +kernel
theorem dX8_readsTides_54 : decode cX8_readsTides 54 = .ok (.iload_n 1, 1) := by decide +kernel
theorem dX8_readsTides_55 : decode cX8_readsTides 55 = .ok (.ireturn, 1) := by decide +kernel
theorem dX8_readsTides_56 : decode cX8_readsTides 56 = .ok (.iinc 1 1, 3) := by decide +kernel
theorem dX8_readsTides_59 : decode cX8_readsTides 59 = .ok (.goto (-31), 3) := by decide +kernel
theorem dX8_readsTides_62 : decode cX8_readsTides 62 = .ok (.iconst 0, 1) := by decide +kernel
theorem dX8_readsTides_63 : decode cX8_readsTides 63 = .ok (.istore_n 1, 1) := by decide +kernel
theorem dX8_readsTides_64 : decode cX8_readsTides 64 = .ok (.iload_n 1, 1) := by decide +kernel
theorem dX8_readsTides_65 : decode cX8_readsTides 65 = .ok (.aload_n 0, 1) := by decide +kernel
theorem dX8_readsTides_66 : decode cX8_readsTides 66 = .ok (.getfield 7, 3) := by decide +kernel
theorem dX8_readsTides_69 : decode cX8_readsTides 69 = .ok (.iconst 0, 1) := by decide +kernel
theorem dX8_readsTides_70 : decode cX8_readsTides 70 = .ok (.iaload, 1) := by decide +kernel
theorem dX8_readsTides_71 : decode cX8_readsTides 71 = .ok (.if_icmp .ge 26, 3) := by decide +kernel
theorem dX8_readsTides_74 : decode cX8_readsTides 74 = .ok (.aload_n 0, 1) := by decide +kernel
theorem dX8_readsTides_75 : decode cX8_readsTides 75 = .ok (.getfield 16, 3) := by decide +kernel
theorem dX8_readsTides_78 : decode cX8_readsTides 78 = .ok (.iload_n 1, 1) := by decide +kernel
theorem dX8_readsTides_79 : decode cX8_readsTides 79 = .ok (.iconst 2, 1) := by decide +kernel
theorem dX8_readsTides_80 : decode cX8_readsTides 80 = .ok (.aload_n 0, 1) := by decide +kernel
theorem dX8_readsTides_81 : decode cX8_readsTides 81 = .ok (.getfield 13, 3) := by decide +kernel
theorem dX8_readsTides_84 : decode cX8_readsTides 84 = .ok (.iload_n 1, 1) := by decide +kernel
theorem dX8_readsTides_85 : decode cX8_readsTides 85 = .ok (.iaload, 1) := by decide +kernel
theorem dX8_readsTides_86 : decode cX8_readsTides 86 = .ok (.bipush 48, 2) := by decide +kernel
theorem dX8_readsTides_88 : decode cX8_readsTides 88 = .ok (.isub, 1) := by decide +kernel
theorem dX8_readsTides_89 : decode cX8_readsTides 89 = .ok (.imul, 1) := by decide +kernel
theorem dX8_readsTides_90 : decode cX8_readsTides 90 = .ok (.iastore, 1) := by decide +kernel
theorem dX8_readsTides_91 : decode cX8_readsTides 91 = .ok (.iinc 1 1, 3) := by decide +kernel
theorem dX8_readsTides_94 : decode cX8_readsTides 94 = .ok (.goto (-30), 3) := by decide +kernel
theorem dX8_readsTides_97 : decode cX8_readsTides 97 = .ok (.aload_n 0, 1) := by decide +kernel
theorem dX8_readsTides_98 : decode cX8_readsTides 98 = .ok (.aload_n 0, 1) := by decide +kernel
theorem dX8_readsTides_99 : decode cX8_readsTides 99 = .ok (.getfield 7, 3) := by decide +kernel
theorem dX8_readsTides_102 : decode cX8_readsTides 102 = .ok (.iconst 0, 1) := by decide +kernel
theorem dX8_readsTides_103 : decode cX8_readsTides 103 = .ok (.iaload, 1) := by decide +kernel
theorem dX8_readsTides_104 : decode cX8_readsTides 104 = .ok (.putfield 102, 3) := by decide +kernel
theorem dX8_readsTides_107 : decode cX8_readsTides 107 = .ok (.iconst (-1), 1) := by decide +kernel
theorem dX8_readsTides_108 : decode cX8_readsTides 108 = .ok (.ireturn, 1) := by decide +kernel
theorem dX8_byteAt_0 : decode cX8_byteAt 0 = .ok (.iload_n 1, 1) := by decide +kernel
theorem dX8_byteAt_1 : decode cX8_byteAt 1 = .ok (.aload_n 0, 1) := by decide +kernel
theorem dX8_byteAt_2 : decode cX8_byteAt 2 = .ok (.getfield 7, 3) := by decide +kernel
theorem dX8_byteAt_5 : decode cX8_byteAt 5 = .ok (.iconst 1, 1) := by decide +kernel
theorem dX8_byteAt_6 : decode cX8_byteAt 6 = .ok (.iaload, 1) := by decide +kernel
theorem dX8_byteAt_7 : decode cX8_byteAt 7 = .ok (.if_icmp .ge 15, 3) := by decide +kernel
theorem dX8_byteAt_10 : decode cX8_byteAt 10 = .ok (.aload_n 0, 1) := by decide +kernel
theorem dX8_byteAt_11 : decode cX8_byteAt 11 = .ok (.getfield 13, 3) := by decide +kernel
theorem dX8_byteAt_14 : decode cX8_byteAt 14 = .ok (.bipush 47, 2) := by decide +kernel
theorem dX8_byteAt_16 : decode cX8_byteAt 16 = .ok (.iload_n 1, 1) := by decide +kernel
theorem dX8_byteAt_17 : decode cX8_byteAt 17 = .ok (.iadd, 1) := by decide +kernel
theorem dX8_byteAt_18 : decode cX8_byteAt 18 = .ok (.iaload, 1) := by decide +kernel
theorem dX8_byteAt_19 : decode cX8_byteAt 19 = .ok (.goto 4, 3) := by decide +kernel
theorem dX8_byteAt_22 : decode cX8_byteAt 22 = .ok (.iconst (-1), 1) := by decide +kernel
theorem dX8_byteAt_23 : decode cX8_byteAt 23 = .ok (.ireturn, 1) := by decide +kernel
theorem dX8_isWell_0 : decode cX8_isWell 0 = .ok (.aload_n 0, 1) := by decide +kernel
theorem dX8_isWell_1 : decode cX8_isWell 1 = .ok (.iload_n 1, 1) := by decide +kernel
theorem dX8_isWell_2 : decode cX8_isWell 2 = .ok (.iload_n 2, 1) := by decide +kernel
theorem dX8_isWell_3 : decode cX8_isWell 3 = .ok (.iadd, 1) := by decide +kernel
theorem dX8_isWell_4 : decode cX8_isWell 4 = .ok (.invokevirtual 106, 3) := by decide +kernel
theorem dX8_isWell_7 : decode cX8_isWell 7 = .ok (.istore_n 3, 1) := by decide +kernel
theorem dX8_isWell_8 : decode cX8_isWell 8 = .ok (.iload_n 2, 1) := by decide +kernel
theorem dX8_isWell_9 : decode cX8_isWell 9 = .ok (.ifCond .ne 29, 3) := by decide +kernel
theorem dX8_isWell_12 : decode cX8_isWell 12 = .ok (.iload_n 3, 1) := by decide +kernel
theorem dX8_isWell_13 : decode cX8_isWell 13 = .ok (.bipush 119, 2) := by decide +kernel
theorem dX8_isWell_15 : decode cX8_isWell 15 = .ok (.if_icmp .eq 15, 3) := by decide +kernel
theorem dX8_isWell_18 : decode cX8_isWell 18 = .ok (.iload_n 3, 1) := by decide +kernel
theorem dX8_isWell_19 : decode cX8_isWell 19 = .ok (.bipush 114, 2) := by decide +kernel
theorem dX8_isWell_21 : decode cX8_isWell 21 = .ok (.if_icmp .eq 9, 3) := by decide +kernel
theorem dX8_isWell_24 : decode cX8_isWell 24 = .ok (.iload_n 3, 1) := by decide +kernel
theorem dX8_isWell_25 : decode cX8_isWell 25 = .ok (.bipush 111, 2) := by decide +kernel
theorem dX8_isWell_27 : decode cX8_isWell 27 = .ok (.if_icmp .ne 7, 3) := by decide +kernel
theorem dX8_isWell_30 : decode cX8_isWell 30 = .ok (.iconst 1, 1) := by decide +kernel
theorem dX8_isWell_31 : decode cX8_isWell 31 = .ok (.goto 35, 3) := by decide +kernel
theorem dX8_isWell_34 : decode cX8_isWell 34 = .ok (.iconst 0, 1) := by decide +kernel
theorem dX8_isWell_35 : decode cX8_isWell 35 = .ok (.goto 31, 3) := by decide +kernel
theorem dX8_isWell_38 : decode cX8_isWell 38 = .ok (.iload_n 3, 1) := by decide +kernel
theorem dX8_isWell_39 : decode cX8_isWell 39 = .ok (.iload_n 2, 1) := by decide +kernel
theorem dX8_isWell_40 : decode cX8_isWell 40 = .ok (.iconst 1, 1) := by decide +kernel
theorem dX8_isWell_41 : decode cX8_isWell 41 = .ok (.if_icmp .ne 8, 3) := by decide +kernel
theorem dX8_isWell_44 : decode cX8_isWell 44 = .ok (.bipush 49, 2) := by decide +kernel
theorem dX8_isWell_46 : decode cX8_isWell 46 = .ok (.goto 5, 3) := by decide +kernel
theorem dX8_isWell_49 : decode cX8_isWell 49 = .ok (.bipush 48, 2) := by decide +kernel
theorem dX8_isWell_51 : decode cX8_isWell 51 = .ok (.iload_n 2, 1) := by decide +kernel
theorem dX8_isWell_52 : decode cX8_isWell 52 = .ok (.iconst 2, 1) := by decide +kernel
theorem dX8_isWell_53 : decode cX8_isWell 53 = .ok (.if_icmp .ne 8, 3) := by decide +kernel
theorem dX8_isWell_56 : decode cX8_isWell 56 = .ok (.bipush 51, 2) := by decide +kernel
theorem dX8_isWell_58 : decode cX8_isWell 58 = .ok (.goto 5, 3) := by decide +kernel
theorem dX8_isWell_61 : decode cX8_isWell 61 = .ok (.bipush 57, 2) := by decide +kernel
theorem dX8_isWell_63 : decode cX8_isWell 63 = .ok (.invokestatic 94, 3) := by decide +kernel
theorem dX8_isWell_66 : decode cX8_isWell 66 = .ok (.ireturn, 1) := by decide +kernel
theorem dX8_readsOrder_0 : decode cX8_readsOrder 0 = .ok (.iconst 0, 1) := by decide +kernel
theorem dX8_readsOrder_1 : decode cX8_readsOrder 1 = .ok (.istore_n 3, 1) := by decide +kernel
theorem dX8_readsOrder_2 : decode cX8_readsOrder 2 = .ok (.iload_n 1, 1) := by decide +kernel
theorem dX8_readsOrder_3 : decode cX8_readsOrder 3 = .ok (.bipush 8, 2) := by decide +kernel
theorem dX8_readsOrder_5 : decode cX8_readsOrder 5 = .ok (.if_icmp .ge 23, 3) := by decide +kernel
theorem dX8_readsOrder_8 : decode cX8_readsOrder 8 = .ok (.iload_n 3, 1) := by decide +kernel
theorem dX8_readsOrder_9 : decode cX8_readsOrder 9 = .ok (.iconst 5, 1) := by decide +kernel
theorem dX8_readsOrder_10 : decode cX8_readsOrder 10 = .ok (.if_icmp .ge 18, 3) := by decide +kernel
theorem dX8_readsOrder_13 : decode cX8_readsOrder 13 = .ok (.aload_n 0, 1) := by decide +kernel
theorem dX8_readsOrder_14 : decode cX8_readsOrder 14 = .ok (.iload_n 2, 1) := by decide +kernel
theorem dX8_readsOrder_15 : decode cX8_readsOrder 15 = .ok (.iload_n 3, 1) := by decide +kernel
theorem dX8_readsOrder_16 : decode cX8_readsOrder 16 = .ok (.invokevirtual 110, 3) := by decide +kernel
theorem dX8_readsOrder_19 : decode cX8_readsOrder 19 = .ok (.ifCond .eq 9, 3) := by decide +kernel
theorem dX8_readsOrder_22 : decode cX8_readsOrder 22 = .ok (.iinc 3 1, 3) := by decide +kernel
theorem dX8_readsOrder_25 : decode cX8_readsOrder 25 = .ok (.goto (-23), 3) := by decide +kernel
theorem dX8_readsOrder_28 : decode cX8_readsOrder 28 = .ok (.iload_n 3, 1) := by decide +kernel
theorem dX8_readsOrder_29 : decode cX8_readsOrder 29 = .ok (.iconst 5, 1) := by decide +kernel
theorem dX8_readsOrder_30 : decode cX8_readsOrder 30 = .ok (.if_icmp .ne 101, 3) := by decide +kernel
theorem dX8_readsOrder_33 : decode cX8_readsOrder 33 = .ok (.aload_n 0, 1) := by decide +kernel
theorem dX8_readsOrder_34 : decode cX8_readsOrder 34 = .ok (.iload_n 2, 1) := by decide +kernel
theorem dX8_readsOrder_35 : decode cX8_readsOrder 35 = .ok (.invokevirtual 106, 3) := by decide +kernel
theorem dX8_readsOrder_38 : decode cX8_readsOrder 38 = .ok (.istore 4, 2) := by decide +kernel
theorem dX8_readsOrder_40 : decode cX8_readsOrder 40 = .ok (.aload_n 0, 1) := by decide +kernel
theorem dX8_readsOrder_41 : decode cX8_readsOrder 41 = .ok (.getfield 19, 3) := by decide +kernel
theorem dX8_readsOrder_44 : decode cX8_readsOrder 44 = .ok (.iload_n 1, 1) := by decide +kernel
theorem dX8_readsOrder_45 : decode cX8_readsOrder 45 = .ok (.iload 4, 2) := by decide +kernel
theorem dX8_readsOrder_47 : decode cX8_readsOrder 47 = .ok (.bipush 119, 2) := by decide +kernel
theorem dX8_readsOrder_49 : decode cX8_readsOrder 49 = .ok (.if_icmp .ne 7, 3) := by decide +kernel
theorem dX8_readsOrder_52 : decode cX8_readsOrder 52 = .ok (.iconst 0, 1) := by decide +kernel
theorem dX8_readsOrder_53 : decode cX8_readsOrder 53 = .ok (.goto 15, 3) := by decide +kernel
theorem dX8_readsOrder_56 : decode cX8_readsOrder 56 = .ok (.iload 4, 2) := by decide +kernel
theorem dX8_readsOrder_58 : decode cX8_readsOrder 58 = .ok (.bipush 114, 2) := by decide +kernel
theorem dX8_readsOrder_60 : decode cX8_readsOrder 60 = .ok (.if_icmp .ne 7, 3) := by decide +kernel
theorem dX8_readsOrder_63 : decode cX8_readsOrder 63 = .ok (.iconst 1, 1) := by decide +kernel
theorem dX8_readsOrder_64 : decode cX8_readsOrder 64 = .ok (.goto 4, 3) := by decide +kernel
theorem dX8_readsOrder_67 : decode cX8_readsOrder 67 = .ok (.iconst 2, 1) := by decide +kernel
theorem dX8_readsOrder_68 : decode cX8_readsOrder 68 = .ok (.iastore, 1) := by decide +kernel
theorem dX8_readsOrder_69 : decode cX8_readsOrder 69 = .ok (.aload_n 0, 1) := by decide +kernel
theorem dX8_readsOrder_70 : decode cX8_readsOrder 70 = .ok (.getfield 22, 3) := by decide +kernel
theorem dX8_readsOrder_73 : decode cX8_readsOrder 73 = .ok (.iload_n 1, 1) := by decide +kernel
theorem dX8_readsOrder_74 : decode cX8_readsOrder 74 = .ok (.aload_n 0, 1) := by decide +kernel
theorem dX8_readsOrder_75 : decode cX8_readsOrder 75 = .ok (.iload_n 2, 1) := by decide +kernel
theorem dX8_readsOrder_76 : decode cX8_readsOrder 76 = .ok (.iconst 1, 1) := by decide +kernel
theorem dX8_readsOrder_77 : decode cX8_readsOrder 77 = .ok (.iadd, 1) := by decide +kernel
theorem dX8_readsOrder_78 : decode cX8_readsOrder 78 = .ok (.invokevirtual 106, 3) := by decide +kernel
theorem dX8_readsOrder_81 : decode cX8_readsOrder 81 = .ok (.bipush 48, 2) := by decide +kernel
theorem dX8_readsOrder_83 : decode cX8_readsOrder 83 = .ok (.isub, 1) := by decide +kernel
theorem dX8_readsOrder_84 : decode cX8_readsOrder 84 = .ok (.iastore, 1) := by decide +kernel
theorem dX8_readsOrder_85 : decode cX8_readsOrder 85 = .ok (.aload_n 0, 1) := by decide +kernel
theorem dX8_readsOrder_86 : decode cX8_readsOrder 86 = .ok (.getfield 25, 3) := by decide +kernel
theorem dX8_readsOrder_89 : decode cX8_readsOrder 89 = .ok (.iload_n 1, 1) := by decide +kernel
theorem dX8_readsOrder_90 : decode cX8_readsOrder 90 = .ok (.bipush 10, 2) := by decide +kernel
theorem dX8_readsOrder_92 : decode cX8_readsOrder 92 = .ok (.aload_n 0, 1) := by decide +kernel
theorem dX8_readsOrder_93 : decode cX8_readsOrder 93 = .ok (.iload_n 2, 1) := by decide +kernel
theorem dX8_readsOrder_94 : decode cX8_readsOrder 94 = .ok (.iconst 2, 1) := by decide +kernel
theorem dX8_readsOrder_95 : decode cX8_readsOrder 95 = .ok (.iadd, 1) := by decide +kernel
theorem dX8_readsOrder_96 : decode cX8_readsOrder 96 = .ok (.invokevirtual 106, 3) := by decide +kernel
theorem dX8_readsOrder_99 : decode cX8_readsOrder 99 = .ok (.bipush 48, 2) := by decide +kernel
theorem dX8_readsOrder_101 : decode cX8_readsOrder 101 = .ok (.isub, 1) := by decide +kernel
theorem dX8_readsOrder_102 : decode cX8_readsOrder 102 = .ok (.imul, 1) := by decide +kernel
theorem dX8_readsOrder_103 : decode cX8_readsOrder 103 = .ok (.aload_n 0, 1) := by decide +kernel
theorem dX8_readsOrder_104 : decode cX8_readsOrder 104 = .ok (.iload_n 2, 1) := by decide +kernel
theorem dX8_readsOrder_105 : decode cX8_readsOrder 105 = .ok (.iconst 3, 1) := by decide +kernel
theorem dX8_readsOrder_106 : decode cX8_readsOrder 106 = .ok (.iadd, 1) := by decide +kernel
theorem dX8_readsOrder_107 : decode cX8_readsOrder 107 = .ok (.invokevirtual 106, 3) := by decide +kernel
theorem dX8_readsOrder_110 : decode cX8_readsOrder 110 = .ok (.iadd, 1) := by decide +kernel
theorem dX8_readsOrder_111 : decode cX8_readsOrder 111 = .ok (.bipush 48, 2) := by decide +kernel
theorem dX8_readsOrder_113 : decode cX8_readsOrder 113 = .ok (.isub, 1) := by decide +kernel
theorem dX8_readsOrder_114 : decode cX8_readsOrder 114 = .ok (.iastore, 1) := by decide +kernel
theorem dX8_readsOrder_115 : decode cX8_readsOrder 115 = .ok (.aload_n 0, 1) := by decide +kernel
theorem dX8_readsOrder_116 : decode cX8_readsOrder 116 = .ok (.getfield 28, 3) := by decide +kernel
theorem dX8_readsOrder_119 : decode cX8_readsOrder 119 = .ok (.iload_n 1, 1) := by decide +kernel
theorem dX8_readsOrder_120 : decode cX8_readsOrder 120 = .ok (.aload_n 0, 1) := by decide +kernel
theorem dX8_readsOrder_121 : decode cX8_readsOrder 121 = .ok (.iload_n 2, 1) := by decide +kernel
theorem dX8_readsOrder_122 : decode cX8_readsOrder 122 = .ok (.iconst 4, 1) := by decide +kernel
theorem dX8_readsOrder_123 : decode cX8_readsOrder 123 = .ok (.iadd, 1) := by decide +kernel
theorem dX8_readsOrder_124 : decode cX8_readsOrder 124 = .ok (.invokevirtual 106, 3) := by decide +kernel
theorem dX8_readsOrder_127 : decode cX8_readsOrder 127 = .ok (.bipush 48, 2) := by decide +kernel
theorem dX8_readsOrder_129 : decode cX8_readsOrder 129 = .ok (.isub, 1) := by decide +kernel
theorem dX8_readsOrder_130 : decode cX8_readsOrder 130 = .ok (.iastore, 1) := by decide +kernel
theorem dX8_readsOrder_131 : decode cX8_readsOrder 131 = .ok (.iload_n 3, 1) := by decide +kernel
theorem dX8_readsOrder_132 : decode cX8_readsOrder 132 = .ok (.ireturn, 1) := by decide +kernel
theorem dX8_readsOrders_0 : decode cX8_readsOrders 0 = .ok (.iconst 0, 1) := by decide +kernel
theorem dX8_readsOrders_1 : decode cX8_readsOrders 1 = .ok (.istore_n 1, 1) := by decide +kernel
theorem dX8_readsOrders_2 : decode cX8_readsOrders 2 = .ok (.iconst 0, 1) := by decide +kernel
theorem dX8_readsOrders_3 : decode cX8_readsOrders 3 = .ok (.istore_n 2, 1) := by decide +kernel
theorem dX8_readsOrders_4 : decode cX8_readsOrders 4 = .ok (.aload_n 0, 1) := by decide +kernel
theorem dX8_readsOrders_5 : decode cX8_readsOrders 5 = .ok (.iconst 0, 1) := by decide +kernel
theorem dX8_readsOrders_6 : decode cX8_readsOrders 6 = .ok (.putfield 114, 3) := by decide +kernel
theorem dX8_readsOrders_9 : decode cX8_readsOrders 9 = .ok (.iload_n 2, 1) := by decide +kernel
theorem dX8_readsOrders_10 : decode cX8_readsOrders 10 = .ok (.aload_n 0, 1) := by decide +kernel
theorem dX8_readsOrders_11 : decode cX8_readsOrders 11 = .ok (.getfield 7, 3) := by decide +kernel
theorem dX8_readsOrders_14 : decode cX8_readsOrders 14 = .ok (.iconst 1, 1) := by decide +kernel
theorem dX8_readsOrders_15 : decode cX8_readsOrders 15 = .ok (.iaload, 1) := by decide +kernel
theorem dX8_readsOrders_16 : decode cX8_readsOrders 16 = .ok (.if_icmp .lt 7, 3) := by decide +kernel
theorem dX8_readsOrders_19 : decode cX8_readsOrders 19 = .ok (.iload_n 2, 1) := by decide +kernel
theorem dX8_readsOrders_20 : decode cX8_readsOrders 20 = .ok (.ifCond .le 60, 3) := by decide +kernel
theorem dX8_readsOrders_23 : decode cX8_readsOrders 23 = .ok (.aload_n 0, 1) := by decide +kernel
theorem dX8_readsOrders_24 : decode cX8_readsOrders 24 = .ok (.iload_n 1, 1) := by decide +kernel
theorem dX8_readsOrders_25 : decode cX8_readsOrders 25 = .ok (.iload_n 2, 1) := by decide +kernel
theorem dX8_readsOrders_26 : decode cX8_readsOrders 26 = .ok (.invokevirtual 117, 3) := by decide +kernel
theorem dX8_readsOrders_29 : decode cX8_readsOrders 29 = .ok (.istore_n 3, 1) := by decide +kernel
theorem dX8_readsOrders_30 : decode cX8_readsOrders 30 = .ok (.iload_n 3, 1) := by decide +kernel
theorem dX8_readsOrders_31 : decode cX8_readsOrders 31 = .ok (.iconst 5, 1) := by decide +kernel
theorem dX8_readsOrders_32 : decode cX8_readsOrders 32 = .ok (.if_icmp .ge 7, 3) := by decide +kernel
theorem dX8_readsOrders_35 : decode cX8_readsOrders 35 = .ok (.iload_n 2, 1) := by decide +kernel
theorem dX8_readsOrders_36 : decode cX8_readsOrders 36 = .ok (.iload_n 3, 1) := by decide +kernel
theorem dX8_readsOrders_37 : decode cX8_readsOrders 37 = .ok (.iadd, 1) := by decide +kernel
theorem dX8_readsOrders_38 : decode cX8_readsOrders 38 = .ok (.ireturn, 1) := by decide +kernel
theorem dX8_readsOrders_39 : decode cX8_readsOrders 39 = .ok (.iinc 1 1, 3) := by decide +kernel
theorem dX8_readsOrders_42 : decode cX8_readsOrders 42 = .ok (.iinc 2 5, 3) := by decide +kernel
theorem dX8_readsOrders_45 : decode cX8_readsOrders 45 = .ok (.iload_n 2, 1) := by decide +kernel
theorem dX8_readsOrders_46 : decode cX8_readsOrders 46 = .ok (.aload_n 0, 1) := by decide +kernel
theorem dX8_readsOrders_47 : decode cX8_readsOrders 47 = .ok (.getfield 7, 3) := by decide +kernel
theorem dX8_readsOrders_50 : decode cX8_readsOrders 50 = .ok (.iconst 1, 1) := by decide +kernel
theorem dX8_readsOrders_51 : decode cX8_readsOrders 51 = .ok (.iaload, 1) := by decide +kernel
theorem dX8_readsOrders_52 : decode cX8_readsOrders 52 = .ok (.if_icmp .ne 10, 3) := by decide +kernel
theorem dX8_readsOrders_55 : decode cX8_readsOrders 55 = .ok (.aload_n 0, 1) := by decide +kernel
theorem dX8_readsOrders_56 : decode cX8_readsOrders 56 = .ok (.iload_n 1, 1) := by decide +kernel
theorem dX8_readsOrders_57 : decode cX8_readsOrders 57 = .ok (.putfield 114, 3) := by decide +kernel
theorem dX8_readsOrders_60 : decode cX8_readsOrders 60 = .ok (.iconst (-1), 1) := by decide +kernel
theorem dX8_readsOrders_61 : decode cX8_readsOrders 61 = .ok (.ireturn, 1) := by decide +kernel
theorem dX8_readsOrders_62 : decode cX8_readsOrders 62 = .ok (.aload_n 0, 1) := by decide +kernel
theorem dX8_readsOrders_63 : decode cX8_readsOrders 63 = .ok (.iload_n 2, 1) := by decide +kernel
theorem dX8_readsOrders_64 : decode cX8_readsOrders 64 = .ok (.invokevirtual 106, 3) := by decide +kernel
theorem dX8_readsOrders_67 : decode cX8_readsOrders 67 = .ok (.bipush 59, 2) := by decide +kernel
theorem dX8_readsOrders_69 : decode cX8_readsOrders 69 = .ok (.if_icmp .eq 5, 3) := by decide +kernel
theorem dX8_readsOrders_72 : decode cX8_readsOrders 72 = .ok (.iload_n 2, 1) := by decide +kernel
theorem dX8_readsOrders_73 : decode cX8_readsOrders 73 = .ok (.ireturn, 1) := by decide +kernel
theorem dX8_readsOrders_74 : decode cX8_readsOrders 74 = .ok (.iinc 2 1, 3) := by decide +kernel
theorem dX8_readsOrders_77 : decode cX8_readsOrders 77 = .ok (.goto (-68), 3) := by decide +kernel
theorem dX8_readsOrders_80 : decode cX8_readsOrders 80 = .ok (.iconst (-1), 1) := by decide +kernel
theorem dX8_readsOrders_81 : decode cX8_readsOrders 81 = .ok (.ireturn, 1) := by decide +kernel
theorem dX8_faultOf_0 : decode cX8_faultOf 0 = .ok (.aload_n 0, 1) := by decide +kernel
theorem dX8_faultOf_1 : decode cX8_faultOf 1 = .ok (.invokevirtual 121, 3) := by decide +kernel
theorem dX8_faultOf_4 : decode cX8_faultOf 4 = .ok (.istore_n 2, 1) := by decide +kernel
theorem dX8_faultOf_5 : decode cX8_faultOf 5 = .ok (.aload_n 0, 1) := by decide +kernel
theorem dX8_faultOf_6 : decode cX8_faultOf 6 = .ok (.invokevirtual 125, 3) := by decide +kernel
theorem dX8_faultOf_9 : decode cX8_faultOf 9 = .ok (.istore_n 3, 1) := by decide +kernel
theorem dX8_faultOf_10 : decode cX8_faultOf 10 = .ok (.iload_n 1, 1) := by decide +kernel
theorem dX8_faultOf_11 : decode cX8_faultOf 11 = .ok (.ifCond .ne 7, 3) := by decide +kernel
theorem dX8_faultOf_14 : decode cX8_faultOf 14 = .ok (.iload_n 2, 1) := by decide +kernel
theorem dX8_faultOf_15 : decode cX8_faultOf 15 = .ok (.goto 4, 3) := by decide +kernel
theorem dX8_faultOf_18 : decode cX8_faultOf 18 = .ok (.iload_n 3, 1) := by decide +kernel
theorem dX8_faultOf_19 : decode cX8_faultOf 19 = .ok (.ireturn, 1) := by decide +kernel
theorem dX8_reads_0 : decode cX8_reads 0 = .ok (.aload_n 0, 1) := by decide +kernel
theorem dX8_reads_1 : decode cX8_reads 1 = .ok (.iconst 0, 1) := by decide +kernel
theorem dX8_reads_2 : decode cX8_reads 2 = .ok (.invokevirtual 128, 3) := by decide +kernel
theorem dX8_reads_5 : decode cX8_reads 5 = .ok (.istore_n 1, 1) := by decide +kernel
theorem dX8_reads_6 : decode cX8_reads 6 = .ok (.return_, 1) := by decide +kernel
theorem dX8_fault_0 : decode cX8_fault 0 = .ok (.iload_n 1, 1) := by decide +kernel
theorem dX8_fault_1 : decode cX8_fault 1 = .ok (.invokestatic 98, 3) := by decide +kernel
theorem dX8_fault_4 : decode cX8_fault 4 = .ok (.ifCond .eq 11, 3) := by decide +kernel
theorem dX8_fault_7 : decode cX8_fault 7 = .ok (.aload_n 0, 1) := by decide +kernel
theorem dX8_fault_8 : decode cX8_fault 8 = .ok (.iload_n 1, 1) := by decide +kernel
theorem dX8_fault_9 : decode cX8_fault 9 = .ok (.invokevirtual 128, 3) := by decide +kernel
theorem dX8_fault_12 : decode cX8_fault 12 = .ok (.goto 5, 3) := by decide +kernel
theorem dX8_fault_15 : decode cX8_fault 15 = .ok (.bipush (-2), 2) := by decide +kernel
theorem dX8_fault_17 : decode cX8_fault 17 = .ok (.ireturn, 1) := by decide +kernel
theorem dX8_isOrder_0 : decode cX8_isOrder 0 = .ok (.aload_n 0, 1) := by decide +kernel
theorem dX8_isOrder_1 : decode cX8_isOrder 1 = .ok (.invokevirtual 131, 3) := by decide +kernel
theorem dX8_isOrder_4 : decode cX8_isOrder 4 = .ok (.iload_n 1, 1) := by decide +kernel
theorem dX8_isOrder_5 : decode cX8_isOrder 5 = .ok (.iconst 0, 1) := by decide +kernel
theorem dX8_isOrder_6 : decode cX8_isOrder 6 = .ok (.aload_n 0, 1) := by decide +kernel
theorem dX8_isOrder_7 : decode cX8_isOrder 7 = .ok (.getfield 114, 3) := by decide +kernel
theorem dX8_isOrder_10 : decode cX8_isOrder 10 = .ok (.iconst 1, 1) := by decide +kernel
theorem dX8_isOrder_11 : decode cX8_isOrder 11 = .ok (.isub, 1) := by decide +kernel
theorem dX8_isOrder_12 : decode cX8_isOrder 12 = .ok (.invokestatic 94, 3) := by decide +kernel
theorem dX8_isOrder_15 : decode cX8_isOrder 15 = .ok (.ireturn, 1) := by decide +kernel
theorem dX8_seaOf_0 : decode cX8_seaOf 0 = .ok (.aload_n 0, 1) := by decide +kernel
theorem dX8_seaOf_1 : decode cX8_seaOf 1 = .ok (.invokevirtual 131, 3) := by decide +kernel
theorem dX8_seaOf_4 : decode cX8_seaOf 4 = .ok (.aload_n 0, 1) := by decide +kernel
theorem dX8_seaOf_5 : decode cX8_seaOf 5 = .ok (.getfield 16, 3) := by decide +kernel
theorem dX8_seaOf_8 : decode cX8_seaOf 8 = .ok (.iload_n 1, 1) := by decide +kernel
theorem dX8_seaOf_9 : decode cX8_seaOf 9 = .ok (.iaload, 1) := by decide +kernel
theorem dX8_seaOf_10 : decode cX8_seaOf 10 = .ok (.ireturn, 1) := by decide +kernel
theorem dX8_sea_0 : decode cX8_sea 0 = .ok (.iload_n 1, 1) := by decide +kernel
theorem dX8_sea_1 : decode cX8_sea 1 = .ok (.invokestatic 134, 3) := by decide +kernel
theorem dX8_sea_4 : decode cX8_sea 4 = .ok (.ifCond .eq 11, 3) := by decide +kernel
theorem dX8_sea_7 : decode cX8_sea 7 = .ok (.aload_n 0, 1) := by decide +kernel
theorem dX8_sea_8 : decode cX8_sea 8 = .ok (.iload_n 1, 1) := by decide +kernel
theorem dX8_sea_9 : decode cX8_sea 9 = .ok (.invokevirtual 137, 3) := by decide +kernel
theorem dX8_sea_12 : decode cX8_sea 12 = .ok (.goto 5, 3) := by decide +kernel
theorem dX8_sea_15 : decode cX8_sea 15 = .ok (.bipush (-2), 2) := by decide +kernel
theorem dX8_sea_17 : decode cX8_sea 17 = .ok (.ireturn, 1) := by decide +kernel
theorem dX8_orderOf_0 : decode cX8_orderOf 0 = .ok (.iload_n 2, 1) := by decide +kernel
theorem dX8_orderOf_1 : decode cX8_orderOf 1 = .ok (.ifCond .ne 12, 3) := by decide +kernel
theorem dX8_orderOf_4 : decode cX8_orderOf 4 = .ok (.aload_n 0, 1) := by decide +kernel
theorem dX8_orderOf_5 : decode cX8_orderOf 5 = .ok (.getfield 19, 3) := by decide +kernel
theorem dX8_orderOf_8 : decode cX8_orderOf 8 = .ok (.iload_n 1, 1) := by decide +kernel
theorem dX8_orderOf_9 : decode cX8_orderOf 9 = .ok (.iaload, 1) := by decide +kernel
theorem dX8_orderOf_10 : decode cX8_orderOf 10 = .ok (.goto 37, 3) := by decide +kernel
theorem dX8_orderOf_13 : decode cX8_orderOf 13 = .ok (.iload_n 2, 1) := by decide +kernel
theorem dX8_orderOf_14 : decode cX8_orderOf 14 = .ok (.iconst 1, 1) := by decide +kernel
theorem dX8_orderOf_15 : decode cX8_orderOf 15 = .ok (.if_icmp .ne 12, 3) := by decide +kernel
theorem dX8_orderOf_18 : decode cX8_orderOf 18 = .ok (.aload_n 0, 1) := by decide +kernel
theorem dX8_orderOf_19 : decode cX8_orderOf 19 = .ok (.getfield 22, 3) := by decide +kernel
theorem dX8_orderOf_22 : decode cX8_orderOf 22 = .ok (.iload_n 1, 1) := by decide +kernel
theorem dX8_orderOf_23 : decode cX8_orderOf 23 = .ok (.iaload, 1) := by decide +kernel
theorem dX8_orderOf_24 : decode cX8_orderOf 24 = .ok (.goto 23, 3) := by decide +kernel
theorem dX8_orderOf_27 : decode cX8_orderOf 27 = .ok (.iload_n 2, 1) := by decide +kernel
theorem dX8_orderOf_28 : decode cX8_orderOf 28 = .ok (.iconst 2, 1) := by decide +kernel
theorem dX8_orderOf_29 : decode cX8_orderOf 29 = .ok (.if_icmp .ne 12, 3) := by decide +kernel
theorem dX8_orderOf_32 : decode cX8_orderOf 32 = .ok (.aload_n 0, 1) := by decide +kernel
theorem dX8_orderOf_33 : decode cX8_orderOf 33 = .ok (.getfield 25, 3) := by decide +kernel
theorem dX8_orderOf_36 : decode cX8_orderOf 36 = .ok (.iload_n 1, 1) := by decide +kernel
theorem dX8_orderOf_37 : decode cX8_orderOf 37 = .ok (.iaload, 1) := by decide +kernel
theorem dX8_orderOf_38 : decode cX8_orderOf 38 = .ok (.goto 9, 3) := by decide +kernel
theorem dX8_orderOf_41 : decode cX8_orderOf 41 = .ok (.aload_n 0, 1) := by decide +kernel
theorem dX8_orderOf_42 : decode cX8_orderOf 42 = .ok (.getfield 28, 3) := by decide +kernel
theorem dX8_orderOf_45 : decode cX8_orderOf 45 = .ok (.iload_n 1, 1) := by decide +kernel
theorem dX8_orderOf_46 : decode cX8_orderOf 46 = .ok (.iaload, 1) := by decide +kernel
theorem dX8_orderOf_47 : decode cX8_orderOf 47 = .ok (.ireturn, 1) := by decide +kernel
theorem dX8_order_0 : decode cX8_order 0 = .ok (.aload_n 0, 1) := by decide +kernel
theorem dX8_order_1 : decode cX8_order 1 = .ok (.iload_n 1, 1) := by decide +kernel
theorem dX8_order_2 : decode cX8_order 2 = .ok (.invokevirtual 140, 3) := by decide +kernel
theorem dX8_order_5 : decode cX8_order 5 = .ok (.ifCond .eq 21, 3) := by decide +kernel
theorem dX8_order_8 : decode cX8_order 8 = .ok (.iload_n 2, 1) := by decide +kernel
theorem dX8_order_9 : decode cX8_order 9 = .ok (.iconst 0, 1) := by decide +kernel
theorem dX8_order_10 : decode cX8_order 10 = .ok (.iconst 3, 1) := by decide +kernel
theorem dX8_order_11 : decode cX8_order 11 = .ok (.invokestatic 94, 3) := by decide +kernel
theorem dX8_order_14 : decode cX8_order 14 = .ok (.ifCond .eq 12, 3) := by decide +kernel
theorem dX8_order_17 : decode cX8_order 17 = .ok (.aload_n 0, 1) := by decide +kernel
theorem dX8_order_18 : decode cX8_order 18 = .ok (.iload_n 1, 1) := by decide +kernel
theorem dX8_order_19 : decode cX8_order 19 = .ok (.iload_n 2, 1) := by decide +kernel
theorem dX8_order_20 : decode cX8_order 20 = .ok (.invokevirtual 143, 3) := by decide +kernel
theorem dX8_order_23 : decode cX8_order 23 = .ok (.goto 5, 3) := by decide +kernel
theorem dX8_order_26 : decode cX8_order 26 = .ok (.bipush (-2), 2) := by decide +kernel
theorem dX8_order_28 : decode cX8_order 28 = .ok (.ireturn, 1) := by decide +kernel
theorem dX8_set_0 : decode cX8_set 0 = .ok (.iload_n 1, 1) := by decide +kernel
theorem dX8_set_1 : decode cX8_set 1 = .ok (.iconst 0, 1) := by decide +kernel
theorem dX8_set_2 : decode cX8_set 2 = .ok (.iconst 4, 1) := by decide +kernel
theorem dX8_set_3 : decode cX8_set 3 = .ok (.invokestatic 94, 3) := by decide +kernel
theorem dX8_set_6 : decode cX8_set 6 = .ok (.ifCond .eq 36, 3) := by decide +kernel
theorem dX8_set_9 : decode cX8_set 9 = .ok (.iload_n 2, 1) := by decide +kernel
theorem dX8_set_10 : decode cX8_set 10 = .ok (.iload_n 1, 1) := by decide +kernel
theorem dX8_set_11 : decode cX8_set 11 = .ok (.iconst 1, 1) := by decide +kernel
theorem dX8_set_12 : decode cX8_set 12 = .ok (.if_icmp .eq 8, 3) := by decide +kernel
theorem dX8_set_15 : decode cX8_set 15 = .ok (.iload_n 1, 1) := by decide +kernel
theorem dX8_set_16 : decode cX8_set 16 = .ok (.iconst 4, 1) := by decide +kernel
theorem dX8_set_17 : decode cX8_set 17 = .ok (.if_icmp .ne 7, 3) := by decide +kernel
theorem dX8_set_20 : decode cX8_set 20 = .ok (.iconst 1, 1) := by decide +kernel
theorem dX8_set_21 : decode cX8_set 21 = .ok (.goto 4, 3) := by decide +kernel
theorem dX8_set_24 : decode cX8_set 24 = .ok (.iconst 0, 1) := by decide +kernel
theorem dX8_set_25 : decode cX8_set 25 = .ok (.iload_n 1, 1) := by decide +kernel
theorem dX8_set_26 : decode cX8_set 26 = .ok (.ifCond .ne 8, 3) := by decide +kernel
theorem dX8_set_29 : decode cX8_set 29 = .ok (.bipush 20, 2) := by decide +kernel
theorem dX8_set_31 : decode cX8_set 31 = .ok (.goto 5, 3) := by decide +kernel
theorem dX8_set_34 : decode cX8_set 34 = .ok (.bipush 9, 2) := by decide +kernel
theorem dX8_set_36 : decode cX8_set 36 = .ok (.invokestatic 94, 3) := by decide +kernel
theorem dX8_set_39 : decode cX8_set 39 = .ok (.ifCond .ne 6, 3) := by decide +kernel
theorem dX8_set_42 : decode cX8_set 42 = .ok (.bipush (-2), 2) := by decide +kernel
theorem dX8_set_44 : decode cX8_set 44 = .ok (.ireturn, 1) := by decide +kernel
theorem dX8_set_45 : decode cX8_set 45 = .ok (.aload_n 0, 1) := by decide +kernel
theorem dX8_set_46 : decode cX8_set 46 = .ok (.getfield 31, 3) := by decide +kernel
theorem dX8_set_49 : decode cX8_set 49 = .ok (.iload_n 1, 1) := by decide +kernel
theorem dX8_set_50 : decode cX8_set 50 = .ok (.iaload, 1) := by decide +kernel
theorem dX8_set_51 : decode cX8_set 51 = .ok (.istore_n 3, 1) := by decide +kernel
theorem dX8_set_52 : decode cX8_set 52 = .ok (.aload_n 0, 1) := by decide +kernel
theorem dX8_set_53 : decode cX8_set 53 = .ok (.getfield 31, 3) := by decide +kernel
theorem dX8_set_56 : decode cX8_set 56 = .ok (.iload_n 1, 1) := by decide +kernel
theorem dX8_set_57 : decode cX8_set 57 = .ok (.iload_n 2, 1) := by decide +kernel
theorem dX8_set_58 : decode cX8_set 58 = .ok (.iastore, 1) := by decide +kernel
theorem dX8_set_59 : decode cX8_set 59 = .ok (.iload_n 3, 1) := by decide +kernel
theorem dX8_set_60 : decode cX8_set 60 = .ok (.ireturn, 1) := by decide +kernel
theorem dX8_rain_0 : decode cX8_rain 0 = .ok (.iload_n 1, 1) := by decide +kernel
theorem dX8_rain_1 : decode cX8_rain 1 = .ok (.invokestatic 134, 3) := by decide +kernel
theorem dX8_rain_4 : decode cX8_rain 4 = .ok (.ifCond .ne 6, 3) := by decide +kernel
theorem dX8_rain_7 : decode cX8_rain 7 = .ok (.bipush (-2), 2) := by decide +kernel
theorem dX8_rain_9 : decode cX8_rain 9 = .ok (.ireturn, 1) := by decide +kernel
theorem dX8_rain_10 : decode cX8_rain 10 = .ok (.aload_n 0, 1) := by decide +kernel
theorem dX8_rain_11 : decode cX8_rain 11 = .ok (.getfield 146, 3) := by decide +kernel
theorem dX8_rain_14 : decode cX8_rain 14 = .ok (.bipush 6, 2) := by decide +kernel
theorem dX8_rain_16 : decode cX8_rain 16 = .ok (.if_icmp .ne 6, 3) := by decide +kernel
theorem dX8_rain_19 : decode cX8_rain 19 = .ok (.bipush (-4), 2) := by decide +kernel
theorem dX8_rain_21 : decode cX8_rain 21 = .ok (.ireturn, 1) := by decide +kernel
theorem dX8_rain_22 : decode cX8_rain 22 = .ok (.aload_n 0, 1) := by decide +kernel
theorem dX8_rain_23 : decode cX8_rain 23 = .ok (.getfield 34, 3) := by decide +kernel
theorem dX8_rain_26 : decode cX8_rain 26 = .ok (.aload_n 0, 1) := by decide +kernel
theorem dX8_rain_27 : decode cX8_rain 27 = .ok (.getfield 146, 3) := by decide +kernel
theorem dX8_rain_30 : decode cX8_rain 30 = .ok (.iload_n 1, 1) := by decide +kernel
theorem dX8_rain_31 : decode cX8_rain 31 = .ok (.iastore, 1) := by decide +kernel
theorem dX8_rain_32 : decode cX8_rain 32 = .ok (.aload_n 0, 1) := by decide +kernel
theorem dX8_rain_33 : decode cX8_rain 33 = .ok (.dup, 1) := by decide +kernel
theorem dX8_rain_34 : decode cX8_rain 34 = .ok (.getfield 146, 3) := by decide +kernel
theorem dX8_rain_37 : decode cX8_rain 37 = .ok (.iconst 1, 1) := by decide +kernel
theorem dX8_rain_38 : decode cX8_rain 38 = .ok (.iadd, 1) := by decide +kernel
theorem dX8_rain_39 : decode cX8_rain 39 = .ok (.putfield 146, 3) := by decide +kernel
theorem dX8_rain_42 : decode cX8_rain 42 = .ok (.aload_n 0, 1) := by decide +kernel
theorem dX8_rain_43 : decode cX8_rain 43 = .ok (.getfield 146, 3) := by decide +kernel
theorem dX8_rain_46 : decode cX8_rain 46 = .ok (.ireturn, 1) := by decide +kernel
theorem dX8_dressing_0 : decode cX8_dressing 0 = .ok (.iload_n 1, 1) := by decide +kernel
theorem dX8_dressing_1 : decode cX8_dressing 1 = .ok (.invokestatic 134, 3) := by decide +kernel
theorem dX8_dressing_4 : decode cX8_dressing 4 = .ok (.ifCond .ne 6, 3) := by decide +kernel
theorem dX8_dressing_7 : decode cX8_dressing 7 = .ok (.bipush (-2), 2) := by decide +kernel
theorem dX8_dressing_9 : decode cX8_dressing 9 = .ok (.ireturn, 1) := by decide +kernel
theorem dX8_dressing_10 : decode cX8_dressing 10 = .ok (.aload_n 0, 1) := by decide +kernel
theorem dX8_dressing_11 : decode cX8_dressing 11 = .ok (.getfield 149, 3) := by decide +kernel
theorem dX8_dressing_14 : decode cX8_dressing 14 = .ok (.bipush 6, 2) := by decide +kernel
theorem dX8_dressing_16 : decode cX8_dressing 16 = .ok (.if_icmp .ne 6, 3) := by decide +kernel
theorem dX8_dressing_19 : decode cX8_dressing 19 = .ok (.bipush (-4), 2) := by decide +kernel
theorem dX8_dressing_21 : decode cX8_dressing 21 = .ok (.ireturn, 1) := by decide +kernel
theorem dX8_dressing_22 : decode cX8_dressing 22 = .ok (.aload_n 0, 1) := by decide +kernel
theorem dX8_dressing_23 : decode cX8_dressing 23 = .ok (.getfield 37, 3) := by decide +kernel
theorem dX8_dressing_26 : decode cX8_dressing 26 = .ok (.aload_n 0, 1) := by decide +kernel
theorem dX8_dressing_27 : decode cX8_dressing 27 = .ok (.getfield 149, 3) := by decide +kernel
theorem dX8_dressing_30 : decode cX8_dressing 30 = .ok (.iload_n 1, 1) := by decide +kernel
theorem dX8_dressing_31 : decode cX8_dressing 31 = .ok (.iastore, 1) := by decide +kernel
theorem dX8_dressing_32 : decode cX8_dressing 32 = .ok (.aload_n 0, 1) := by decide +kernel
theorem dX8_dressing_33 : decode cX8_dressing 33 = .ok (.dup, 1) := by decide +kernel
theorem dX8_dressing_34 : decode cX8_dressing 34 = .ok (.getfield 149, 3) := by decide +kernel
theorem dX8_dressing_37 : decode cX8_dressing 37 = .ok (.iconst 1, 1) := by decide +kernel
theorem dX8_dressing_38 : decode cX8_dressing 38 = .ok (.iadd, 1) := by decide +kernel
theorem dX8_dressing_39 : decode cX8_dressing 39 = .ok (.putfield 149, 3) := by decide +kernel
theorem dX8_dressing_42 : decode cX8_dressing 42 = .ok (.aload_n 0, 1) := by decide +kernel
theorem dX8_dressing_43 : decode cX8_dressing 43 = .ok (.getfield 149, 3) := by decide +kernel
theorem dX8_dressing_46 : decode cX8_dressing 46 = .ok (.ireturn, 1) := by decide +kernel
theorem dX8_back_0 : decode cX8_back 0 = .ok (.iload_n 1, 1) := by decide +kernel
theorem dX8_back_1 : decode cX8_back 1 = .ok (.iconst 0, 1) := by decide +kernel
theorem dX8_back_2 : decode cX8_back 2 = .ok (.iconst 1, 1) := by decide +kernel
theorem dX8_back_3 : decode cX8_back 3 = .ok (.invokestatic 94, 3) := by decide +kernel
theorem dX8_back_6 : decode cX8_back 6 = .ok (.ifCond .ne 6, 3) := by decide +kernel
theorem dX8_back_9 : decode cX8_back 9 = .ok (.bipush (-2), 2) := by decide +kernel
theorem dX8_back_11 : decode cX8_back 11 = .ok (.ireturn, 1) := by decide +kernel
theorem dX8_back_12 : decode cX8_back 12 = .ok (.iload_n 1, 1) := by decide +kernel
theorem dX8_back_13 : decode cX8_back 13 = .ok (.ifCond .ne 10, 3) := by decide +kernel
theorem dX8_back_16 : decode cX8_back 16 = .ok (.aload_n 0, 1) := by decide +kernel
theorem dX8_back_17 : decode cX8_back 17 = .ok (.getfield 146, 3) := by decide +kernel
theorem dX8_back_20 : decode cX8_back 20 = .ok (.goto 7, 3) := by decide +kernel
theorem dX8_back_23 : decode cX8_back 23 = .ok (.aload_n 0, 1) := by decide +kernel
theorem dX8_back_24 : decode cX8_back 24 = .ok (.getfield 149, 3) := by decide +kernel
theorem dX8_back_27 : decode cX8_back 27 = .ok (.istore_n 2, 1) := by decide +kernel
theorem dX8_back_28 : decode cX8_back 28 = .ok (.iload_n 2, 1) := by decide +kernel
theorem dX8_back_29 : decode cX8_back 29 = .ok (.ifCond .ne 6, 3) := by decide +kernel
theorem dX8_back_32 : decode cX8_back 32 = .ok (.bipush (-3), 2) := by decide +kernel
theorem dX8_back_34 : decode cX8_back 34 = .ok (.ireturn, 1) := by decide +kernel
theorem dX8_back_35 : decode cX8_back 35 = .ok (.aload_n 0, 1) := by decide +kernel
theorem dX8_back_36 : decode cX8_back 36 = .ok (.dup, 1) := by decide +kernel
theorem dX8_back_37 : decode cX8_back 37 = .ok (.getfield 146, 3) := by decide +kernel
theorem dX8_back_40 : decode cX8_back 40 = .ok (.iload_n 1, 1) := by decide +kernel
theorem dX8_back_41 : decode cX8_back 41 = .ok (.ifCond .ne 7, 3) := by decide +kernel
theorem dX8_back_44 : decode cX8_back 44 = .ok (.iconst 1, 1) := by decide +kernel
theorem dX8_back_45 : decode cX8_back 45 = .ok (.goto 4, 3) := by decide +kernel
theorem dX8_back_48 : decode cX8_back 48 = .ok (.iconst 0, 1) := by decide +kernel
theorem dX8_back_49 : decode cX8_back 49 = .ok (.isub, 1) := by decide +kernel
theorem dX8_back_50 : decode cX8_back 50 = .ok (.putfield 146, 3) := by decide +kernel
theorem dX8_back_53 : decode cX8_back 53 = .ok (.aload_n 0, 1) := by decide +kernel
theorem dX8_back_54 : decode cX8_back 54 = .ok (.dup, 1) := by decide +kernel
theorem dX8_back_55 : decode cX8_back 55 = .ok (.getfield 149, 3) := by decide +kernel
theorem dX8_back_58 : decode cX8_back 58 = .ok (.iload_n 1, 1) := by decide +kernel
theorem dX8_back_59 : decode cX8_back 59 = .ok (.iconst 1, 1) := by decide +kernel
theorem dX8_back_60 : decode cX8_back 60 = .ok (.if_icmp .ne 7, 3) := by decide +kernel
theorem dX8_back_63 : decode cX8_back 63 = .ok (.iconst 1, 1) := by decide +kernel
theorem dX8_back_64 : decode cX8_back 64 = .ok (.goto 4, 3) := by decide +kernel
theorem dX8_back_67 : decode cX8_back 67 = .ok (.iconst 0, 1) := by decide +kernel
theorem dX8_back_68 : decode cX8_back 68 = .ok (.isub, 1) := by decide +kernel
theorem dX8_back_69 : decode cX8_back 69 = .ok (.putfield 149, 3) := by decide +kernel
theorem dX8_back_72 : decode cX8_back 72 = .ok (.iload_n 2, 1) := by decide +kernel
theorem dX8_back_73 : decode cX8_back 73 = .ok (.iconst 1, 1) := by decide +kernel
theorem dX8_back_74 : decode cX8_back 74 = .ok (.isub, 1) := by decide +kernel
theorem dX8_back_75 : decode cX8_back 75 = .ok (.ireturn, 1) := by decide +kernel
theorem dX8_read_0 : decode cX8_read 0 = .ok (.iload_n 1, 1) := by decide +kernel
theorem dX8_read_1 : decode cX8_read 1 = .ok (.invokestatic 152, 3) := by decide +kernel
theorem dX8_read_4 : decode cX8_read 4 = .ok (.ifCond .ne 6, 3) := by decide +kernel
theorem dX8_read_7 : decode cX8_read 7 = .ok (.bipush (-2), 2) := by decide +kernel
theorem dX8_read_9 : decode cX8_read 9 = .ok (.ireturn, 1) := by decide +kernel
theorem dX8_read_10 : decode cX8_read 10 = .ok (.aload_n 0, 1) := by decide +kernel
theorem dX8_read_11 : decode cX8_read 11 = .ok (.getfield 76, 3) := by decide +kernel
theorem dX8_read_14 : decode cX8_read 14 = .ok (.iload_n 1, 1) := by decide +kernel
theorem dX8_read_15 : decode cX8_read 15 = .ok (.baload, 1) := by decide +kernel
theorem dX8_read_16 : decode cX8_read 16 = .ok (.ifCond .ne 9, 3) := by decide +kernel
theorem dX8_read_19 : decode cX8_read 19 = .ok (.aload_n 0, 1) := by decide +kernel
theorem dX8_read_20 : decode cX8_read 20 = .ok (.iconst 1, 1) := by decide +kernel
theorem dX8_read_21 : decode cX8_read 21 = .ok (.invokevirtual 155, 3) := by decide +kernel
theorem dX8_read_24 : decode cX8_read 24 = .ok (.ireturn, 1) := by decide +kernel
theorem dX8_read_25 : decode cX8_read 25 = .ok (.iconst 0, 1) := by decide +kernel
theorem dX8_read_26 : decode cX8_read 26 = .ok (.istore_n 2, 1) := by decide +kernel
theorem dX8_read_27 : decode cX8_read 27 = .ok (.iload_n 2, 1) := by decide +kernel
theorem dX8_read_28 : decode cX8_read 28 = .ok (.aload_n 0, 1) := by decide +kernel
theorem dX8_read_29 : decode cX8_read 29 = .ok (.getfield 83, 3) := by decide +kernel
theorem dX8_read_32 : decode cX8_read 32 = .ok (.iload_n 1, 1) := by decide +kernel
theorem dX8_read_33 : decode cX8_read 33 = .ok (.iaload, 1) := by decide +kernel
theorem dX8_read_34 : decode cX8_read 34 = .ok (.if_icmp .ge 27, 3) := by decide +kernel
theorem dX8_read_37 : decode cX8_read 37 = .ok (.aload_n 0, 1) := by decide +kernel
theorem dX8_read_38 : decode cX8_read 38 = .ok (.aload_n 0, 1) := by decide +kernel
theorem dX8_read_39 : decode cX8_read 39 = .ok (.getfield 86, 3) := by decide +kernel
theorem dX8_read_42 : decode cX8_read 42 = .ok (.bipush 60, 2) := by decide +kernel
theorem dX8_read_44 : decode cX8_read 44 = .ok (.iload_n 1, 1) := by decide +kernel
theorem dX8_read_45 : decode cX8_read 45 = .ok (.imul, 1) := by decide +kernel
theorem dX8_read_46 : decode cX8_read 46 = .ok (.iload_n 2, 1) := by decide +kernel
theorem dX8_read_47 : decode cX8_read 47 = .ok (.iadd, 1) := by decide +kernel
theorem dX8_read_48 : decode cX8_read 48 = .ok (.iaload, 1) := by decide +kernel
theorem dX8_read_49 : decode cX8_read 49 = .ok (.invokevirtual 158, 3) := by decide +kernel
theorem dX8_read_52 : decode cX8_read 52 = .ok (.ifCond .le 9, 3) := by decide +kernel
theorem dX8_read_55 : decode cX8_read 55 = .ok (.iinc 2 1, 3) := by decide +kernel
theorem dX8_read_58 : decode cX8_read 58 = .ok (.goto (-31), 3) := by decide +kernel
theorem dX8_read_61 : decode cX8_read 61 = .ok (.iload_n 2, 1) := by decide +kernel
theorem dX8_read_62 : decode cX8_read 62 = .ok (.ireturn, 1) := by decide +kernel
theorem dX8_asTold_0 : decode cX8_asTold 0 = .ok (.aload_n 0, 1) := by decide +kernel
theorem dX8_asTold_1 : decode cX8_asTold 1 = .ok (.invokevirtual 131, 3) := by decide +kernel
theorem dX8_asTold_4 : decode cX8_asTold 4 = .ok (.iconst 0, 1) := by decide +kernel
theorem dX8_asTold_5 : decode cX8_asTold 5 = .ok (.istore_n 1, 1) := by decide +kernel
theorem dX8_asTold_6 : decode cX8_asTold 6 = .ok (.iload_n 1, 1) := by decide +kernel
theorem dX8_asTold_7 : decode cX8_asTold 7 = .ok (.bipush 40, 2) := by decide +kernel
theorem dX8_asTold_9 : decode cX8_asTold 9 = .ok (.if_icmp .ge 21, 3) := by decide +kernel
theorem dX8_asTold_12 : decode cX8_asTold 12 = .ok (.aload_n 0, 1) := by decide +kernel
theorem dX8_asTold_13 : decode cX8_asTold 13 = .ok (.getfield 40, 3) := by decide +kernel
theorem dX8_asTold_16 : decode cX8_asTold 16 = .ok (.iload_n 1, 1) := by decide +kernel
theorem dX8_asTold_17 : decode cX8_asTold 17 = .ok (.aload_n 0, 1) := by decide +kernel
theorem dX8_asTold_18 : decode cX8_asTold 18 = .ok (.getfield 16, 3) := by decide +kernel
theorem dX8_asTold_21 : decode cX8_asTold 21 = .ok (.iload_n 1, 1) := by decide +kernel
theorem dX8_asTold_22 : decode cX8_asTold 22 = .ok (.iaload, 1) := by decide +kernel
theorem dX8_asTold_23 : decode cX8_asTold 23 = .ok (.iastore, 1) := by decide +kernel
theorem dX8_asTold_24 : decode cX8_asTold 24 = .ok (.iinc 1 1, 3) := by decide +kernel
theorem dX8_asTold_27 : decode cX8_asTold 27 = .ok (.goto (-21), 3) := by decide +kernel
theorem dX8_asTold_30 : decode cX8_asTold 30 = .ok (.aload_n 0, 1) := by decide +kernel
theorem dX8_asTold_31 : decode cX8_asTold 31 = .ok (.iconst 0, 1) := by decide +kernel
theorem dX8_asTold_32 : decode cX8_asTold 32 = .ok (.putfield 161, 3) := by decide +kernel
theorem dX8_asTold_35 : decode cX8_asTold 35 = .ok (.aload_n 0, 1) := by decide +kernel
theorem dX8_asTold_36 : decode cX8_asTold 36 = .ok (.aload_n 0, 1) := by decide +kernel
theorem dX8_asTold_37 : decode cX8_asTold 37 = .ok (.getfield 149, 3) := by decide +kernel
theorem dX8_asTold_40 : decode cX8_asTold 40 = .ok (.putfield 164, 3) := by decide +kernel
theorem dX8_asTold_43 : decode cX8_asTold 43 = .ok (.aload_n 0, 1) := by decide +kernel
theorem dX8_asTold_44 : decode cX8_asTold 44 = .ok (.aload_n 0, 1) := by decide +kernel
theorem dX8_asTold_45 : decode cX8_asTold 45 = .ok (.getfield 114, 3) := by decide +kernel
theorem dX8_asTold_48 : decode cX8_asTold 48 = .ok (.putfield 167, 3) := by decide +kernel
theorem dX8_asTold_51 : decode cX8_asTold 51 = .ok (.iconst 0, 1) := by decide +kernel
theorem dX8_asTold_52 : decode cX8_asTold 52 = .ok (.istore_n 1, 1) := by decide +kernel
theorem dX8_asTold_53 : decode cX8_asTold 53 = .ok (.iload_n 1, 1) := by decide +kernel
theorem dX8_asTold_54 : decode cX8_asTold 54 = .ok (.aload_n 0, 1) := by decide +kernel
theorem dX8_asTold_55 : decode cX8_asTold 55 = .ok (.getfield 114, 3) := by decide +kernel
theorem dX8_asTold_58 : decode cX8_asTold 58 = .ok (.if_icmp .ge 16, 3) := by decide +kernel
theorem dX8_asTold_61 : decode cX8_asTold 61 = .ok (.aload_n 0, 1) := by decide +kernel
theorem dX8_asTold_62 : decode cX8_asTold 62 = .ok (.getfield 43, 3) := by decide +kernel
theorem dX8_asTold_65 : decode cX8_asTold 65 = .ok (.iload_n 1, 1) := by decide +kernel
theorem dX8_asTold_66 : decode cX8_asTold 66 = .ok (.iload_n 1, 1) := by decide +kernel
theorem dX8_asTold_67 : decode cX8_asTold 67 = .ok (.iastore, 1) := by decide +kernel
theorem dX8_asTold_68 : decode cX8_asTold 68 = .ok (.iinc 1 1, 3) := by decide +kernel
theorem dX8_asTold_71 : decode cX8_asTold 71 = .ok (.goto (-18), 3) := by decide +kernel
theorem dX8_asTold_74 : decode cX8_asTold 74 = .ok (.aload_n 0, 1) := by decide +kernel
theorem dX8_asTold_75 : decode cX8_asTold 75 = .ok (.aload_n 0, 1) := by decide +kernel
theorem dX8_asTold_76 : decode cX8_asTold 76 = .ok (.getfield 31, 3) := by decide +kernel
theorem dX8_asTold_79 : decode cX8_asTold 79 = .ok (.iconst 0, 1) := by decide +kernel
theorem dX8_asTold_80 : decode cX8_asTold 80 = .ok (.iaload, 1) := by decide +kernel
theorem dX8_asTold_81 : decode cX8_asTold 81 = .ok (.putfield 170, 3) := by decide +kernel
theorem dX8_asTold_84 : decode cX8_asTold 84 = .ok (.aload_n 0, 1) := by decide +kernel
theorem dX8_asTold_85 : decode cX8_asTold 85 = .ok (.aload_n 0, 1) := by decide +kernel
theorem dX8_asTold_86 : decode cX8_asTold 86 = .ok (.getfield 31, 3) := by decide +kernel
theorem dX8_asTold_89 : decode cX8_asTold 89 = .ok (.iconst 1, 1) := by decide +kernel
theorem dX8_asTold_90 : decode cX8_asTold 90 = .ok (.iaload, 1) := by decide +kernel
theorem dX8_asTold_91 : decode cX8_asTold 91 = .ok (.putfield 173, 3) := by decide +kernel
theorem dX8_asTold_94 : decode cX8_asTold 94 = .ok (.return_, 1) := by decide +kernel
theorem dX8_fills_0 : decode cX8_fills 0 = .ok (.aload_n 0, 1) := by decide +kernel
theorem dX8_fills_1 : decode cX8_fills 1 = .ok (.getfield 40, 3) := by decide +kernel
theorem dX8_fills_4 : decode cX8_fills 4 = .ok (.iload_n 1, 1) := by decide +kernel
theorem dX8_fills_5 : decode cX8_fills 5 = .ok (.iaload, 1) := by decide +kernel
theorem dX8_fills_6 : decode cX8_fills 6 = .ok (.aload_n 0, 1) := by decide +kernel
theorem dX8_fills_7 : decode cX8_fills 7 = .ok (.getfield 176, 3) := by decide +kernel
theorem dX8_fills_10 : decode cX8_fills 10 = .ok (.isub, 1) := by decide +kernel
theorem dX8_fills_11 : decode cX8_fills 11 = .ok (.istore_n 2, 1) := by decide +kernel
theorem dX8_fills_12 : decode cX8_fills 12 = .ok (.aload_n 0, 1) := by decide +kernel
theorem dX8_fills_13 : decode cX8_fills 13 = .ok (.dup, 1) := by decide +kernel
theorem dX8_fills_14 : decode cX8_fills 14 = .ok (.getfield 176, 3) := by decide +kernel
theorem dX8_fills_17 : decode cX8_fills 17 = .ok (.iload_n 2, 1) := by decide +kernel
theorem dX8_fills_18 : decode cX8_fills 18 = .ok (.ifCond .gt 7, 3) := by decide +kernel
theorem dX8_fills_21 : decode cX8_fills 21 = .ok (.iconst 0, 1) := by decide +kernel
theorem dX8_fills_22 : decode cX8_fills 22 = .ok (.goto 19, 3) := by decide +kernel
theorem dX8_fills_25 : decode cX8_fills 25 = .ok (.iload_n 2, 1) := by decide +kernel
theorem dX8_fills_26 : decode cX8_fills 26 = .ok (.aload_n 0, 1) := by decide +kernel
theorem dX8_fills_27 : decode cX8_fills 27 = .ok (.getfield 173, 3) := by decide +kernel
theorem dX8_fills_30 : decode cX8_fills 30 = .ok (.if_icmp .ge 7, 3) := by decide +kernel
theorem dX8_fills_33 : decode cX8_fills 33 = .ok (.iload_n 2, 1) := by decide +kernel
theorem dX8_fills_34 : decode cX8_fills 34 = .ok (.goto 7, 3) := by decide +kernel
theorem dX8_fills_37 : decode cX8_fills 37 = .ok (.aload_n 0, 1) := by decide +kernel
theorem dX8_fills_38 : decode cX8_fills 38 = .ok (.getfield 173, 3) := by decide +kernel
theorem dX8_fills_41 : decode cX8_fills 41 = .ok (.iadd, 1) := by decide +kernel
theorem dX8_fills_42 : decode cX8_fills 42 = .ok (.putfield 176, 3) := by decide +kernel
theorem dX8_fills_45 : decode cX8_fills 45 = .ok (.iconst 0, 1) := by decide +kernel
theorem dX8_fills_46 : decode cX8_fills 46 = .ok (.istore_n 3, 1) := by decide +kernel
theorem dX8_fills_47 : decode cX8_fills 47 = .ok (.iload_n 3, 1) := by decide +kernel
theorem dX8_fills_48 : decode cX8_fills 48 = .ok (.aload_n 0, 1) := by decide +kernel
theorem dX8_fills_49 : decode cX8_fills 49 = .ok (.getfield 146, 3) := by decide +kernel
theorem dX8_fills_52 : decode cX8_fills 52 = .ok (.if_icmp .ge 44, 3) := by decide +kernel
theorem dX8_fills_55 : decode cX8_fills 55 = .ok (.aload_n 0, 1) := by decide +kernel
theorem dX8_fills_56 : decode cX8_fills 56 = .ok (.dup, 1) := by decide +kernel
theorem dX8_fills_57 : decode cX8_fills 57 = .ok (.getfield 176, 3) := by decide +kernel
theorem dX8_fills_60 : decode cX8_fills 60 = .ok (.aload_n 0, 1) := by decide +kernel
theorem dX8_fills_61 : decode cX8_fills 61 = .ok (.getfield 34, 3) := by decide +kernel
theorem dX8_fills_64 : decode cX8_fills 64 = .ok (.iload_n 3, 1) := by decide +kernel
theorem dX8_fills_65 : decode cX8_fills 65 = .ok (.iaload, 1) := by decide +kernel
theorem dX8_fills_66 : decode cX8_fills 66 = .ok (.iload_n 1, 1) := by decide +kernel
theorem dX8_fills_67 : decode cX8_fills 67 = .ok (.if_icmp .ne 18, 3) := by decide +kernel
theorem dX8_fills_70 : decode cX8_fills 70 = .ok (.aload_n 0, 1) := by decide +kernel
theorem dX8_fills_71 : decode cX8_fills 71 = .ok (.getfield 161, 3) := by decide +kernel
theorem dX8_fills_74 : decode cX8_fills 74 = .ok (.iload_n 3, 1) := by decide +kernel
theorem dX8_fills_75 : decode cX8_fills 75 = .ok (.invokestatic 179, 3) := by decide +kernel
theorem dX8_fills_78 : decode cX8_fills 78 = .ok (.ifCond .ne 7, 3) := by decide +kernel
theorem dX8_fills_81 : decode cX8_fills 81 = .ok (.iconst 3, 1) := by decide +kernel
theorem dX8_fills_82 : decode cX8_fills 82 = .ok (.goto 4, 3) := by decide +kernel
theorem dX8_fills_85 : decode cX8_fills 85 = .ok (.iconst 0, 1) := by decide +kernel
theorem dX8_fills_86 : decode cX8_fills 86 = .ok (.iadd, 1) := by decide +kernel
theorem dX8_fills_87 : decode cX8_fills 87 = .ok (.putfield 176, 3) := by decide +kernel
theorem dX8_fills_90 : decode cX8_fills 90 = .ok (.iinc 3 1, 3) := by decide +kernel
theorem dX8_fills_93 : decode cX8_fills 93 = .ok (.goto (-46), 3) := by decide +kernel
theorem dX8_fills_96 : decode cX8_fills 96 = .ok (.aload_n 0, 1) := by decide +kernel
theorem dX8_fills_97 : decode cX8_fills 97 = .ok (.dup, 1) := by decide +kernel
theorem dX8_fills_98 : decode cX8_fills 98 = .ok (.getfield 182, 3) := by decide +kernel
theorem dX8_fills_101 : decode cX8_fills 101 = .ok (.aload_n 0, 1) := by decide +kernel
theorem dX8_fills_102 : decode cX8_fills 102 = .ok (.getfield 176, 3) := by decide +kernel
theorem dX8_fills_105 : decode cX8_fills 105 = .ok (.bipush 20, 2) := by decide +kernel
theorem dX8_fills_107 : decode cX8_fills 107 = .ok (.if_icmp .le 13, 3) := by decide +kernel
theorem dX8_fills_110 : decode cX8_fills 110 = .ok (.aload_n 0, 1) := by decide +kernel
theorem dX8_fills_111 : decode cX8_fills 111 = .ok (.getfield 176, 3) := by decide +kernel
theorem dX8_fills_114 : decode cX8_fills 114 = .ok (.bipush 20, 2) := by decide +kernel
theorem dX8_fills_116 : decode cX8_fills 116 = .ok (.isub, 1) := by decide +kernel
theorem dX8_fills_117 : decode cX8_fills 117 = .ok (.goto 4, 3) := by decide +kernel
theorem dX8_fills_120 : decode cX8_fills 120 = .ok (.iconst 0, 1) := by decide +kernel
theorem dX8_fills_121 : decode cX8_fills 121 = .ok (.iadd, 1) := by decide +kernel
theorem dX8_fills_122 : decode cX8_fills 122 = .ok (.putfield 182, 3) := by decide +kernel
theorem dX8_fills_125 : decode cX8_fills 125 = .ok (.aload_n 0, 1) := by decide +kernel
theorem dX8_fills_126 : decode cX8_fills 126 = .ok (.aload_n 0, 1) := by decide +kernel
theorem dX8_fills_127 : decode cX8_fills 127 = .ok (.getfield 176, 3) := by decide +kernel
theorem dX8_fills_130 : decode cX8_fills 130 = .ok (.bipush 20, 2) := by decide +kernel
theorem dX8_fills_132 : decode cX8_fills 132 = .ok (.if_icmp .le 8, 3) := by decide +kernel
theorem dX8_fills_135 : decode cX8_fills 135 = .ok (.bipush 20, 2) := by decide +kernel
theorem dX8_fills_137 : decode cX8_fills 137 = .ok (.goto 7, 3) := by decide +kernel
theorem dX8_fills_140 : decode cX8_fills 140 = .ok (.aload_n 0, 1) := by decide +kernel
theorem dX8_fills_141 : decode cX8_fills 141 = .ok (.getfield 176, 3) := by decide +kernel
theorem dX8_fills_144 : decode cX8_fills 144 = .ok (.putfield 176, 3) := by decide +kernel
theorem dX8_fills_147 : decode cX8_fills 147 = .ok (.aload_n 0, 1) := by decide +kernel
theorem dX8_fills_148 : decode cX8_fills 148 = .ok (.aload_n 0, 1) := by decide +kernel
theorem dX8_fills_149 : decode cX8_fills 149 = .ok (.getfield 176, 3) := by decide +kernel
theorem dX8_fills_152 : decode cX8_fills 152 = .ok (.aload_n 0, 1) := by decide +kernel
theorem dX8_fills_153 : decode cX8_fills 153 = .ok (.getfield 31, 3) := by decide +kernel
theorem dX8_fills_156 : decode cX8_fills 156 = .ok (.iconst 2, 1) := by decide +kernel
theorem dX8_fills_157 : decode cX8_fills 157 = .ok (.iaload, 1) := by decide +kernel
theorem dX8_fills_158 : decode cX8_fills 158 = .ok (.if_icmp .le 17, 3) := by decide +kernel
theorem dX8_fills_161 : decode cX8_fills 161 = .ok (.aload_n 0, 1) := by decide +kernel
theorem dX8_fills_162 : decode cX8_fills 162 = .ok (.getfield 176, 3) := by decide +kernel
theorem dX8_fills_165 : decode cX8_fills 165 = .ok (.aload_n 0, 1) := by decide +kernel
theorem dX8_fills_166 : decode cX8_fills 166 = .ok (.getfield 31, 3) := by decide +kernel
theorem dX8_fills_169 : decode cX8_fills 169 = .ok (.iconst 2, 1) := by decide +kernel
theorem dX8_fills_170 : decode cX8_fills 170 = .ok (.iaload, 1) := by decide +kernel
theorem dX8_fills_171 : decode cX8_fills 171 = .ok (.isub, 1) := by decide +kernel
theorem dX8_fills_172 : decode cX8_fills 172 = .ok (.goto 4, 3) := by decide +kernel
theorem dX8_fills_175 : decode cX8_fills 175 = .ok (.iconst 0, 1) := by decide +kernel
theorem dX8_fills_176 : decode cX8_fills 176 = .ok (.putfield 176, 3) := by decide +kernel
theorem dX8_fills_179 : decode cX8_fills 179 = .ok (.return_, 1) := by decide +kernel
theorem dX8_isDressed_0 : decode cX8_isDressed 0 = .ok (.iconst 0, 1) := by decide +kernel
theorem dX8_isDressed_1 : decode cX8_isDressed 1 = .ok (.istore_n 2, 1) := by decide +kernel
theorem dX8_isDressed_2 : decode cX8_isDressed 2 = .ok (.iconst 0, 1) := by decide +kernel
theorem dX8_isDressed_3 : decode cX8_isDressed 3 = .ok (.istore_n 3, 1) := by decide +kernel
theorem dX8_isDressed_4 : decode cX8_isDressed 4 = .ok (.iload_n 3, 1) := by decide +kernel
theorem dX8_isDressed_5 : decode cX8_isDressed 5 = .ok (.aload_n 0, 1) := by decide +kernel
theorem dX8_isDressed_6 : decode cX8_isDressed 6 = .ok (.getfield 164, 3) := by decide +kernel
theorem dX8_isDressed_9 : decode cX8_isDressed 9 = .ok (.if_icmp .ge 29, 3) := by decide +kernel
theorem dX8_isDressed_12 : decode cX8_isDressed 12 = .ok (.iload_n 2, 1) := by decide +kernel
theorem dX8_isDressed_13 : decode cX8_isDressed 13 = .ok (.ifCond .ne 13, 3) := by decide +kernel
theorem dX8_isDressed_16 : decode cX8_isDressed 16 = .ok (.aload_n 0, 1) := by decide +kernel
theorem dX8_isDressed_17 : decode cX8_isDressed 17 = .ok (.getfield 37, 3) := by decide +kernel
theorem dX8_isDressed_20 : decode cX8_isDressed 20 = .ok (.iload_n 3, 1) := by decide +kernel
theorem dX8_isDressed_21 : decode cX8_isDressed 21 = .ok (.iaload, 1) := by decide +kernel
theorem dX8_isDressed_22 : decode cX8_isDressed 22 = .ok (.iload_n 1, 1) := by decide +kernel
theorem dX8_isDressed_23 : decode cX8_isDressed 23 = .ok (.if_icmp .ne 7, 3) := by decide +kernel
theorem dX8_isDressed_26 : decode cX8_isDressed 26 = .ok (.iconst 1, 1) := by decide +kernel
theorem dX8_isDressed_27 : decode cX8_isDressed 27 = .ok (.goto 4, 3) := by decide +kernel
theorem dX8_isDressed_30 : decode cX8_isDressed 30 = .ok (.iconst 0, 1) := by decide +kernel
theorem dX8_isDressed_31 : decode cX8_isDressed 31 = .ok (.istore_n 2, 1) := by decide +kernel
theorem dX8_isDressed_32 : decode cX8_isDressed 32 = .ok (.iinc 3 1, 3) := by decide +kernel
theorem dX8_isDressed_35 : decode cX8_isDressed 35 = .ok (.goto (-31), 3) := by decide +kernel
theorem dX8_isDressed_38 : decode cX8_isDressed 38 = .ok (.iload_n 2, 1) := by decide +kernel
theorem dX8_isDressed_39 : decode cX8_isDressed 39 = .ok (.ireturn, 1) := by decide +kernel
theorem dX8_grinds_0 : decode cX8_grinds 0 = .ok (.aload_n 0, 1) := by decide +kernel
theorem dX8_grinds_1 : decode cX8_grinds 1 = .ok (.getfield 43, 3) := by decide +kernel
theorem dX8_grinds_4 : decode cX8_grinds 4 = .ok (.aload_n 0, 1) := by decide +kernel
theorem dX8_grinds_5 : decode cX8_grinds 5 = .ok (.getfield 185, 3) := by decide +kernel
theorem dX8_grinds_8 : decode cX8_grinds 8 = .ok (.iaload, 1) := by decide +kernel
theorem dX8_grinds_9 : decode cX8_grinds 9 = .ok (.istore_n 2, 1) := by decide +kernel
theorem dX8_grinds_10 : decode cX8_grinds 10 = .ok (.aload_n 0, 1) := by decide +kernel
theorem dX8_grinds_11 : decode cX8_grinds 11 = .ok (.getfield 31, 3) := by decide +kernel
theorem dX8_grinds_14 : decode cX8_grinds 14 = .ok (.iconst 3, 1) := by decide +kernel
theorem dX8_grinds_15 : decode cX8_grinds 15 = .ok (.iaload, 1) := by decide +kernel
theorem dX8_grinds_16 : decode cX8_grinds 16 = .ok (.iconst 2, 1) := by decide +kernel
theorem dX8_grinds_17 : decode cX8_grinds 17 = .ok (.aload_n 0, 1) := by decide +kernel
theorem dX8_grinds_18 : decode cX8_grinds 18 = .ok (.getfield 19, 3) := by decide +kernel
theorem dX8_grinds_21 : decode cX8_grinds 21 = .ok (.iload_n 2, 1) := by decide +kernel
theorem dX8_grinds_22 : decode cX8_grinds 22 = .ok (.iaload, 1) := by decide +kernel
theorem dX8_grinds_23 : decode cX8_grinds 23 = .ok (.isub, 1) := by decide +kernel
theorem dX8_grinds_24 : decode cX8_grinds 24 = .ok (.iadd, 1) := by decide +kernel
theorem dX8_grinds_25 : decode cX8_grinds 25 = .ok (.aload_n 0, 1) := by decide +kernel
theorem dX8_grinds_26 : decode cX8_grinds 26 = .ok (.getfield 188, 3) := by decide +kernel
theorem dX8_grinds_29 : decode cX8_grinds 29 = .ok (.aload_n 0, 1) := by decide +kernel
theorem dX8_grinds_30 : decode cX8_grinds 30 = .ok (.getfield 31, 3) := by decide +kernel
theorem dX8_grinds_33 : decode cX8_grinds 33 = .ok (.iconst 4, 1) := by decide +kernel
theorem dX8_grinds_34 : decode cX8_grinds 34 = .ok (.iaload, 1) := by decide +kernel
theorem dX8_grinds_35 : decode cX8_grinds 35 = .ok (.idiv, 1) := by decide +kernel
