theorem dX7_init_0 : decode cX7_init 0 = .ok (.aload_n 0, 1) := by decide +kernel
theorem dX7_init_1 : decode cX7_init 1 = .ok (.invokespecial 1, 3) := by decide +kernel
theorem dX7_init_4 : decode cX7_init 4 = .ok (.aload_n 0, 1) := by decide +kernel
theorem dX7_init_5 : decode cX7_init 5 = .ok (.iconst 2, 1) := by decide +kernel
theorem dX7_init_6 : decode cX7_init 6 = .ok (.anewarray 7, 3) := by decide +kernel
theorem dX7_init_9 : decode cX7_init 9 = .ok (.dup, 1) := by decide +kernel
theorem dX7_init_10 : decode cX7_init 10 = .ok (.iconst 0, 1) := by decide +kernel
theorem dX7_init_11 : decode cX7_init 11 = .ok (.new 7, 3) := by decide +kernel
theorem dX7_init_14 : decode cX7_init 14 = .ok (.dup, 1) := by decide +kernel
theorem dX7_init_15 : decode cX7_init 15 = .ok (.bipush 40, 2) := by decide +kernel
theorem dX7_init_17 : decode cX7_init 17 = .ok (.invokespecial 11, 3) := by decide +kernel
theorem dX7_init_20 : decode cX7_init 20 = .ok (.aastore, 1) := by decide +kernel
theorem dX7_init_21 : decode cX7_init 21 = .ok (.dup, 1) := by decide +kernel
theorem dX7_init_22 : decode cX7_init 22 = .ok (.iconst 1, 1) := by decide +kernel
theorem dX7_init_23 : decode cX7_init 23 = .ok (.new 7, 3) := by decide +kernel
theorem dX7_init_26 : decode cX7_init 26 = .ok (.dup, 1) := by decide +kernel
theorem dX7_init_27 : decode cX7_init 27 = .ok (.bipush 47, 2) := by decide +kernel
theorem dX7_init_29 : decode cX7_init 29 = .ok (.invokespecial 11, 3) := by decide +kernel
theorem dX7_init_32 : decode cX7_init 32 = .ok (.aastore, 1) := by decide +kernel
theorem dX7_init_33 : decode cX7_init 33 = .ok (.putfield 14, 3) := by decide +kernel
theorem dX7_init_36 : decode cX7_init 36 = .ok (.aload_n 0, 1) := by decide +kernel
theorem dX7_init_37 : decode cX7_init 37 = .ok (.new 7, 3) := by decide +kernel
theorem dX7_init_40 : decode cX7_init 40 = .ok (.dup, 1) := by decide +kernel
theorem dX7_init_41 : decode cX7_init 41 = .ok (.bipush 6, 2) := by decide +kernel
theorem dX7_init_43 : decode cX7_init 43 = .ok (.invokespecial 11, 3) := by decide +kernel
theorem dX7_init_46 : decode cX7_init 46 = .ok (.putfield 18, 3) := by decide +kernel
theorem dX7_init_49 : decode cX7_init 49 = .ok (.aload_n 0, 1) := by decide +kernel
theorem dX7_init_50 : decode cX7_init 50 = .ok (.new 7, 3) := by decide +kernel
theorem dX7_init_53 : decode cX7_init 53 = .ok (.dup, 1) := by decide +kernel
theorem dX7_init_54 : decode cX7_init 54 = .ok (.bipush 6, 2) := by decide +kernel
theorem dX7_init_56 : decode cX7_init 56 = .ok (.invokespecial 11, 3) := by decide +kernel
theorem dX7_init_59 : decode cX7_init 59 = .ok (.putfield 22, 3) := by decide +kernel
theorem dX7_init_62 : decode cX7_init 62 = .ok (.aload_n 0, 1) := by decide +kernel
theorem dX7_init_63 : decode cX7_init 63 = .ok (.new 7, 3) := by decide +kernel
theorem dX7_init_66 : decode cX7_init 66 = .ok (.dup, 1) := by decide +kernel
theorem dX7_init_67 : decode cX7_init 67 = .ok (.bipush 8, 2) := by decide +kernel
theorem dX7_init_69 : decode cX7_init 69 = .ok (.invokespecial 11, 3) := by decide +kernel
theorem dX7_init_72 : decode cX7_init 72 = .ok (.putfield 25, 3) := by decide +kernel
theorem dX7_init_75 : decode cX7_init 75 = .ok (.aload_n 0, 1) := by decide +kernel
theorem dX7_init_76 : decode cX7_init 76 = .ok (.new 7, 3) := by decide +kernel
theorem dX7_init_79 : decode cX7_init 79 = .ok (.dup, 1) := by decide +kernel
theorem dX7_init_80 : decode cX7_init 80 = .ok (.bipush 8, 2) := by decide +kernel
theorem dX7_init_82 : decode cX7_init 82 = .ok (.invokespecial 11, 3) := by decide +kernel
theorem dX7_init_85 : decode cX7_init 85 = .ok (.putfield 28, 3) := by decide +kernel
theorem dX7_init_88 : decode cX7_init 88 = .ok (.aload_n 0, 1) := by decide +kernel
theorem dX7_init_89 : decode cX7_init 89 = .ok (.iconst 4, 1) := by decide +kernel
theorem dX7_init_90 : decode cX7_init 90 = .ok (.anewarray 31, 3) := by decide +kernel
theorem dX7_init_93 : decode cX7_init 93 = .ok (.dup, 1) := by decide +kernel
theorem dX7_init_94 : decode cX7_init 94 = .ok (.iconst 0, 1) := by decide +kernel
theorem dX7_init_95 : decode cX7_init 95 = .ok (.new 31, 3) := by decide +kernel
theorem dX7_init_98 : decode cX7_init 98 = .ok (.dup, 1) := by decide +kernel
theorem dX7_init_99 : decode cX7_init 99 = .ok (.invokespecial 33, 3) := by decide +kernel
theorem dX7_init_102 : decode cX7_init 102 = .ok (.aastore, 1) := by decide +kernel
theorem dX7_init_103 : decode cX7_init 103 = .ok (.dup, 1) := by decide +kernel
theorem dX7_init_104 : decode cX7_init 104 = .ok (.iconst 1, 1) := by decide +kernel
theorem dX7_init_105 : decode cX7_init 105 = .ok (.new 31, 3) := by decide +kernel
theorem dX7_init_108 : decode cX7_init 108 = .ok (.dup, 1) := by decide +kernel
theorem dX7_init_109 : decode cX7_init 109 = .ok (.invokespecial 33, 3) := by decide +kernel
theorem dX7_init_112 : decode cX7_init 112 = .ok (.aastore, 1) := by decide +kernel
theorem dX7_init_113 : decode cX7_init 113 = .ok (.dup, 1) := by decide +kernel
theorem dX7_init_114 : decode cX7_init 114 = .ok (.iconst 2, 1) := by decide +kernel
theorem dX7_init_115 : decode cX7_init 115 = .ok (.new 31, 3) := by decide +kernel
theorem dX7_init_118 : decode cX7_init 118 = .ok (.dup, 1) := by decide +kernel
theorem dX7_init_119 : decode cX7_init 119 = .ok (.invokespecial 33, 3) := by decide +kernel
theorem dX7_init_122 : decode cX7_init 122 = .ok (.aastore, 1) := by decide +kernel
theorem dX7_init_123 : decode cX7_init 123 = .ok (.dup, 1) := by decide +kernel
theorem dX7_init_124 : decode cX7_init 124 = .ok (.iconst 3, 1) := by decide +kernel
theorem dX7_init_125 : decode cX7_init 125 = .ok (.new 31, 3) := by decide +kernel
theorem dX7_init_128 : decode cX7_init 128 = .ok (.dup, 1) := by decide +kernel
theorem dX7_init_129 : decode cX7_init 129 = .ok (.invokespecial 33, 3) := by decide +kernel
theorem dX7_init_132 : decode cX7_init 132 = .ok (.aastore, 1) := by decide +kernel
theorem dX7_init_133 : decode cX7_init 133 = .ok (.putfield 34, 3) := by decide +kernel
theorem dX7_init_136 : decode cX7_init 136 = .ok (.aload_n 0, 1) := by decide +kernel
theorem dX7_init_137 : decode cX7_init 137 = .ok (.new 38, 3) := by decide +kernel
theorem dX7_init_140 : decode cX7_init 140 = .ok (.dup, 1) := by decide +kernel
theorem dX7_init_141 : decode cX7_init 141 = .ok (.invokespecial 40, 3) := by decide +kernel
theorem dX7_init_144 : decode cX7_init 144 = .ok (.putfield 41, 3) := by decide +kernel
theorem dX7_init_147 : decode cX7_init 147 = .ok (.aload_n 0, 1) := by decide +kernel
theorem dX7_init_148 : decode cX7_init 148 = .ok (.getstatic 45, 3) := by decide +kernel
theorem dX7_init_151 : decode cX7_init 151 = .ok (.invokevirtual 49, 3) := by decide +kernel
theorem dX7_init_154 : decode cX7_init 154 = .ok (.checkcast 50, 3) := by decide +kernel
theorem dX7_init_157 : decode cX7_init 157 = .ok (.putfield 54, 3) := by decide +kernel
theorem dX7_init_160 : decode cX7_init 160 = .ok (.aload_n 0, 1) := by decide +kernel
theorem dX7_init_161 : decode cX7_init 161 = .ok (.new 57, 3) := by decide +kernel
theorem dX7_init_164 : decode cX7_init 164 = .ok (.dup, 1) := by decide +kernel
theorem dX7_init_165 : decode cX7_init 165 = .ok (.aload_n 0, 1) := by decide +kernel
theorem dX7_init_166 : decode cX7_init 166 = .ok (.getfield 41, 3) := by decide +kernel
theorem dX7_init_169 : decode cX7_init 169 = .ok (.invokespecial 59, 3) := by decide +kernel
theorem dX7_init_172 : decode cX7_init 172 = .ok (.putfield 62, 3) := by decide +kernel
theorem dX7_init_175 : decode cX7_init 175 = .ok (.aload_n 0, 1) := by decide +kernel
theorem dX7_init_176 : decode cX7_init 176 = .ok (.new 66, 3) := by decide +kernel
theorem dX7_init_179 : decode cX7_init 179 = .ok (.dup, 1) := by decide +kernel
theorem dX7_init_180 : decode cX7_init 180 = .ok (.invokespecial 68, 3) := by decide +kernel
theorem dX7_init_183 : decode cX7_init 183 = .ok (.putfield 69, 3) := by decide +kernel
theorem dX7_init_186 : decode cX7_init 186 = .ok (.aload_n 0, 1) := by decide +kernel
theorem dX7_init_187 : decode cX7_init 187 = .ok (.new 57, 3) := by decide +kernel
theorem dX7_init_190 : decode cX7_init 190 = .ok (.dup, 1) := by decide +kernel
theorem dX7_init_191 : decode cX7_init 191 = .ok (.aload_n 0, 1) := by decide +kernel
theorem dX7_init_192 : decode cX7_init 192 = .ok (.getfield 41, 3) := by decide +kernel
theorem dX7_init_195 : decode cX7_init 195 = .ok (.invokespecial 59, 3) := by decide +kernel
theorem dX7_init_198 : decode cX7_init 198 = .ok (.putfield 73, 3) := by decide +kernel
theorem dX7_init_201 : decode cX7_init 201 = .ok (.aload_n 0, 1) := by decide +kernel
theorem dX7_init_202 : decode cX7_init 202 = .ok (.new 66, 3) := by decide +kernel
theorem dX7_init_205 : decode cX7_init 205 = .ok (.dup, 1) := by decide +kernel
theorem dX7_init_206 : decode cX7_init 206 = .ok (.invokespecial 68, 3) := by decide +kernel
theorem dX7_init_209 : decode cX7_init 209 = .ok (.putfield 76, 3) := by decide +kernel
theorem dX7_init_212 : decode cX7_init 212 = .ok (.aload_n 0, 1) := by decide +kernel
theorem dX7_init_213 : decode cX7_init 213 = .ok (.new 79, 3) := by decide +kernel
theorem dX7_init_216 : decode cX7_init 216 = .ok (.dup, 1) := by decide +kernel
theorem dX7_init_217 : decode cX7_init 217 = .ok (.invokespecial 81, 3) := by decide +kernel
theorem dX7_init_220 : decode cX7_init 220 = .ok (.putfield 82, 3) := by decide +kernel
theorem dX7_init_223 : decode cX7_init 223 = .ok (.aload_n 0, 1) := by decide +kernel
theorem dX7_init_224 : decode cX7_init 224 = .ok (.bipush 8, 2) := by decide +kernel
theorem dX7_init_226 : decode cX7_init 226 = .ok (.newarray .long, 2) := by decide +kernel
theorem dX7_init_228 : decode cX7_init 228 = .ok (.putfield 86, 3) := by decide +kernel
theorem dX7_init_231 : decode cX7_init 231 = .ok (.aload_n 0, 1) := by decide +kernel
theorem dX7_init_232 : decode cX7_init 232 = .ok (.sipush 840, 3) := by decide +kernel
theorem dX7_init_235 : decode cX7_init 235 = .ok (.newarray .int, 2) := by decide +kernel
theorem dX7_init_237 : decode cX7_init 237 = .ok (.putfield 90, 3) := by decide +kernel
theorem dX7_init_240 : decode cX7_init 240 = .ok (.aload_n 0, 1) := by decide +kernel
theorem dX7_init_241 : decode cX7_init 241 = .ok (.iconst (-1), 1) := by decide +kernel
theorem dX7_init_242 : decode cX7_init 242 = .ok (.putfield 93, 3) := by decide +kernel
theorem dX7_init_245 : decode cX7_init 245 = .ok (.return_, 1) := by decide +kernel
theorem dX7_type_0 : decode cX7_type 0 = .ok (.iload_n 1, 1) := by decide +kernel
theorem dX7_type_1 : decode cX7_type 1 = .ok (.iconst 0, 1) := by decide +kernel
theorem dX7_type_2 : decode cX7_type 2 = .ok (.iconst 1, 1) := by decide +kernel
theorem dX7_type_3 : decode cX7_type 3 = .ok (.invokestatic 97, 3) := by decide +kernel
theorem dX7_type_6 : decode cX7_type 6 = .ok (.ifCond .eq 14, 3) := by decide +kernel
theorem dX7_type_9 : decode cX7_type 9 = .ok (.iload_n 2, 1) := by decide +kernel
theorem dX7_type_10 : decode cX7_type 10 = .ok (.iconst 0, 1) := by decide +kernel
theorem dX7_type_11 : decode cX7_type 11 = .ok (.sipush 255, 3) := by decide +kernel
theorem dX7_type_14 : decode cX7_type 14 = .ok (.invokestatic 97, 3) := by decide +kernel
theorem dX7_type_17 : decode cX7_type 17 = .ok (.ifCond .ne 6, 3) := by decide +kernel
theorem dX7_type_20 : decode cX7_type 20 = .ok (.bipush (-2), 2) := by decide +kernel
theorem dX7_type_22 : decode cX7_type 22 = .ok (.ireturn, 1) := by decide +kernel
theorem dX7_type_23 : decode cX7_type 23 = .ok (.aload_n 0, 1) := by decide +kernel
theorem dX7_type_24 : decode cX7_type 24 = .ok (.aload_n 0, 1) := by decide +kernel
theorem dX7_type_25 : decode cX7_type 25 = .ok (.getfield 14, 3) := by decide +kernel
theorem dX7_type_28 : decode cX7_type 28 = .ok (.iload_n 1, 1) := by decide +kernel
theorem dX7_type_29 : decode cX7_type 29 = .ok (.aaload, 1) := by decide +kernel
theorem dX7_type_30 : decode cX7_type 30 = .ok (.iload_n 2, 1) := by decide +kernel
theorem dX7_type_31 : decode cX7_type 31 = .ok (.invokevirtual 101, 3) := by decide +kernel
theorem dX7_type_34 : decode cX7_type 34 = .ok (.ireturn, 1) := by decide +kernel
theorem dX7_wipe_0 : decode cX7_wipe 0 = .ok (.iload_n 1, 1) := by decide +kernel
theorem dX7_wipe_1 : decode cX7_wipe 1 = .ok (.iconst 0, 1) := by decide +kernel
theorem dX7_wipe_2 : decode cX7_wipe 2 = .ok (.iconst 1, 1) := by decide +kernel
theorem dX7_wipe_3 : decode cX7_wipe 3 = .ok (.invokestatic 97, 3) := by decide +kernel
theorem dX7_wipe_6 : decode cX7_wipe 6 = .ok (.ifCond .ne 6, 3) := by decide +kernel
theorem dX7_wipe_9 : decode cX7_wipe 9 = .ok (.bipush (-2), 2) := by decide +kernel
theorem dX7_wipe_11 : decode cX7_wipe 11 = .ok (.ireturn, 1) := by decide +kernel
theorem dX7_wipe_12 : decode cX7_wipe 12 = .ok (.aload_n 0, 1) := by decide +kernel
theorem dX7_wipe_13 : decode cX7_wipe 13 = .ok (.getfield 14, 3) := by decide +kernel
theorem dX7_wipe_16 : decode cX7_wipe 16 = .ok (.iload_n 1, 1) := by decide +kernel
theorem dX7_wipe_17 : decode cX7_wipe 17 = .ok (.aaload, 1) := by decide +kernel
theorem dX7_wipe_18 : decode cX7_wipe 18 = .ok (.getfield 105, 3) := by decide +kernel
theorem dX7_wipe_21 : decode cX7_wipe 21 = .ok (.istore_n 2, 1) := by decide +kernel
theorem dX7_wipe_22 : decode cX7_wipe 22 = .ok (.aload_n 0, 1) := by decide +kernel
theorem dX7_wipe_23 : decode cX7_wipe 23 = .ok (.getfield 14, 3) := by decide +kernel
theorem dX7_wipe_26 : decode cX7_wipe 26 = .ok (.iload_n 1, 1) := by decide +kernel
theorem dX7_wipe_27 : decode cX7_wipe 27 = .ok (.aaload, 1) := by decide +kernel
theorem dX7_wipe_28 : decode cX7_wipe 28 = .ok (.iconst 0, 1) := by decide +kernel
theorem dX7_wipe_29 : decode cX7_wipe 29 = .ok (.putfield 105, 3) := by decide +kernel
theorem dX7_wipe_32 : decode cX7_wipe 32 = .ok (.aload_n 0, 1) := by decide +kernel
theorem dX7_wipe_33 : decode cX7_wipe 33 = .ok (.invokevirtual 108, 3) := by decide +kernel
theorem dX7_wipe_36 : decode cX7_wipe 36 = .ok (.iload_n 2, 1) := by decide +kernel
theorem dX7_wipe_37 : decode cX7_wipe 37 = .ok (.ireturn, 1) := by decide +kernel
theorem dX7_undo_0 : decode cX7_undo 0 = .ok (.iload_n 1, 1) := by decide +kernel
theorem dX7_undo_1 : decode cX7_undo 1 = .ok (.iconst 0, 1) := by decide +kernel
theorem dX7_undo_2 : decode cX7_undo 2 = .ok (.iconst 1, 1) := by decide +kernel
theorem dX7_undo_3 : decode cX7_undo 3 = .ok (.invokestatic 97, 3) := by decide +kernel
theorem dX7_undo_6 : decode cX7_undo 6 = .ok (.ifCond .ne 6, 3) := by decide +kernel
theorem dX7_undo_9 : decode cX7_undo 9 = .ok (.bipush (-2), 2) := by decide +kernel
theorem dX7_undo_11 : decode cX7_undo 11 = .ok (.ireturn, 1) := by decide +kernel
theorem dX7_undo_12 : decode cX7_undo 12 = .ok (.aload_n 0, 1) := by decide +kernel
theorem dX7_undo_13 : decode cX7_undo 13 = .ok (.aload_n 0, 1) := by decide +kernel
theorem dX7_undo_14 : decode cX7_undo 14 = .ok (.getfield 14, 3) := by decide +kernel
theorem dX7_undo_17 : decode cX7_undo 17 = .ok (.iload_n 1, 1) := by decide +kernel
theorem dX7_undo_18 : decode cX7_undo 18 = .ok (.aaload, 1) := by decide +kernel
theorem dX7_undo_19 : decode cX7_undo 19 = .ok (.invokevirtual 111, 3) := by decide +kernel
theorem dX7_undo_22 : decode cX7_undo 22 = .ok (.ireturn, 1) := by decide +kernel
theorem dX7_fault_0 : decode cX7_fault 0 = .ok (.iload_n 1, 1) := by decide +kernel
theorem dX7_fault_1 : decode cX7_fault 1 = .ok (.iconst 0, 1) := by decide +kernel
theorem dX7_fault_2 : decode cX7_fault 2 = .ok (.iconst 1, 1) := by decide +kernel
theorem dX7_fault_3 : decode cX7_fault 3 = .ok (.invokestatic 97, 3) := by decide +kernel
theorem dX7_fault_6 : decode cX7_fault 6 = .ok (.ifCond .ne 6, 3) := by decide +kernel
theorem dX7_fault_9 : decode cX7_fault 9 = .ok (.bipush (-2), 2) := by decide +kernel
theorem dX7_fault_11 : decode cX7_fault 11 = .ok (.ireturn, 1) := by decide +kernel
theorem dX7_fault_12 : decode cX7_fault 12 = .ok (.iload_n 1, 1) := by decide +kernel
theorem dX7_fault_13 : decode cX7_fault 13 = .ok (.ifCond .ne 15, 3) := by decide +kernel
theorem dX7_fault_16 : decode cX7_fault 16 = .ok (.aload_n 0, 1) := by decide +kernel
theorem dX7_fault_17 : decode cX7_fault 17 = .ok (.getfield 14, 3) := by decide +kernel
theorem dX7_fault_20 : decode cX7_fault 20 = .ok (.iconst 0, 1) := by decide +kernel
theorem dX7_fault_21 : decode cX7_fault 21 = .ok (.aaload, 1) := by decide +kernel
theorem dX7_fault_22 : decode cX7_fault 22 = .ok (.invokestatic 115, 3) := by decide +kernel
theorem dX7_fault_25 : decode cX7_fault 25 = .ok (.goto 12, 3) := by decide +kernel
theorem dX7_fault_28 : decode cX7_fault 28 = .ok (.aload_n 0, 1) := by decide +kernel
theorem dX7_fault_29 : decode cX7_fault 29 = .ok (.getfield 14, 3) := by decide +kernel
theorem dX7_fault_32 : decode cX7_fault 32 = .ok (.iconst 1, 1) := by decide +kernel
theorem dX7_fault_33 : decode cX7_fault 33 = .ok (.aaload, 1) := by decide +kernel
theorem dX7_fault_34 : decode cX7_fault 34 = .ok (.invokestatic 118, 3) := by decide +kernel
theorem dX7_fault_37 : decode cX7_fault 37 = .ok (.ireturn, 1) := by decide +kernel
theorem dX7_sea_0 : decode cX7_sea 0 = .ok (.iload_n 1, 1) := by decide +kernel
theorem dX7_sea_1 : decode cX7_sea 1 = .ok (.invokestatic 121, 3) := by decide +kernel
theorem dX7_sea_4 : decode cX7_sea 4 = .ok (.ifCond .ne 6, 3) := by decide +kernel
theorem dX7_sea_7 : decode cX7_sea 7 = .ok (.bipush (-2), 2) := by decide +kernel
theorem dX7_sea_9 : decode cX7_sea 9 = .ok (.ireturn, 1) := by decide +kernel
theorem dX7_sea_10 : decode cX7_sea 10 = .ok (.aload_n 0, 1) := by decide +kernel
theorem dX7_sea_11 : decode cX7_sea 11 = .ok (.invokevirtual 125, 3) := by decide +kernel
theorem dX7_sea_14 : decode cX7_sea 14 = .ok (.aload_n 0, 1) := by decide +kernel
theorem dX7_sea_15 : decode cX7_sea 15 = .ok (.getfield 62, 3) := by decide +kernel
theorem dX7_sea_18 : decode cX7_sea 18 = .ok (.getfield 128, 3) := by decide +kernel
theorem dX7_sea_21 : decode cX7_sea 21 = .ok (.iload_n 1, 1) := by decide +kernel
theorem dX7_sea_22 : decode cX7_sea 22 = .ok (.iaload, 1) := by decide +kernel
theorem dX7_sea_23 : decode cX7_sea 23 = .ok (.ireturn, 1) := by decide +kernel
theorem dX7_order_0 : decode cX7_order 0 = .ok (.aload_n 0, 1) := by decide +kernel
theorem dX7_order_1 : decode cX7_order 1 = .ok (.iload_n 1, 1) := by decide +kernel
theorem dX7_order_2 : decode cX7_order 2 = .ok (.invokevirtual 131, 3) := by decide +kernel
theorem dX7_order_5 : decode cX7_order 5 = .ok (.ifCond .eq 12, 3) := by decide +kernel
theorem dX7_order_8 : decode cX7_order 8 = .ok (.iload_n 2, 1) := by decide +kernel
theorem dX7_order_9 : decode cX7_order 9 = .ok (.iconst 0, 1) := by decide +kernel
theorem dX7_order_10 : decode cX7_order 10 = .ok (.iconst 3, 1) := by decide +kernel
theorem dX7_order_11 : decode cX7_order 11 = .ok (.invokestatic 97, 3) := by decide +kernel
theorem dX7_order_14 : decode cX7_order 14 = .ok (.ifCond .ne 6, 3) := by decide +kernel
theorem dX7_order_17 : decode cX7_order 17 = .ok (.bipush (-2), 2) := by decide +kernel
theorem dX7_order_19 : decode cX7_order 19 = .ok (.ireturn, 1) := by decide +kernel
theorem dX7_order_20 : decode cX7_order 20 = .ok (.iload_n 2, 1) := by decide +kernel
theorem dX7_order_21 : decode cX7_order 21 = .ok (.tableswitch 57 0 2 #[27, 37, 47], 27) := by decide +kernel
theorem dX7_order_48 : decode cX7_order 48 = .ok (.aload_n 0, 1) := by decide +kernel
theorem dX7_order_49 : decode cX7_order 49 = .ok (.getfield 41, 3) := by decide +kernel
theorem dX7_order_52 : decode cX7_order 52 = .ok (.getfield 134, 3) := by decide +kernel
theorem dX7_order_55 : decode cX7_order 55 = .ok (.iload_n 1, 1) := by decide +kernel
theorem dX7_order_56 : decode cX7_order 56 = .ok (.iaload, 1) := by decide +kernel
theorem dX7_order_57 : decode cX7_order 57 = .ok (.ireturn, 1) := by decide +kernel
theorem dX7_order_58 : decode cX7_order 58 = .ok (.aload_n 0, 1) := by decide +kernel
theorem dX7_order_59 : decode cX7_order 59 = .ok (.getfield 41, 3) := by decide +kernel
theorem dX7_order_62 : decode cX7_order 62 = .ok (.getfield 137, 3) := by decide +kernel
theorem dX7_order_65 : decode cX7_order 65 = .ok (.iload_n 1, 1) := by decide +kernel
theorem dX7_order_66 : decode cX7_order 66 = .ok (.iaload, 1) := by decide +kernel
theorem dX7_order_67 : decode cX7_order 67 = .ok (.ireturn, 1) := by decide +kernel
theorem dX7_order_68 : decode cX7_order 68 = .ok (.aload_n 0, 1) := by decide +kernel
theorem dX7_order_69 : decode cX7_order 69 = .ok (.getfield 41, 3) := by decide +kernel
theorem dX7_order_72 : decode cX7_order 72 = .ok (.getfield 140, 3) := by decide +kernel
theorem dX7_order_75 : decode cX7_order 75 = .ok (.iload_n 1, 1) := by decide +kernel
theorem dX7_order_76 : decode cX7_order 76 = .ok (.iaload, 1) := by decide +kernel
theorem dX7_order_77 : decode cX7_order 77 = .ok (.ireturn, 1) := by decide +kernel
theorem dX7_order_78 : decode cX7_order 78 = .ok (.aload_n 0, 1) := by decide +kernel
theorem dX7_order_79 : decode cX7_order 79 = .ok (.getfield 41, 3) := by decide +kernel
theorem dX7_order_82 : decode cX7_order 82 = .ok (.getfield 143, 3) := by decide +kernel
theorem dX7_order_85 : decode cX7_order 85 = .ok (.iload_n 1, 1) := by decide +kernel
theorem dX7_order_86 : decode cX7_order 86 = .ok (.iaload, 1) := by decide +kernel
theorem dX7_order_87 : decode cX7_order 87 = .ok (.ireturn, 1) := by decide +kernel
theorem dX7_set_0 : decode cX7_set 0 = .ok (.iload_n 1, 1) := by decide +kernel
theorem dX7_set_1 : decode cX7_set 1 = .ok (.iconst 0, 1) := by decide +kernel
theorem dX7_set_2 : decode cX7_set 2 = .ok (.iconst 4, 1) := by decide +kernel
theorem dX7_set_3 : decode cX7_set 3 = .ok (.invokestatic 97, 3) := by decide +kernel
theorem dX7_set_6 : decode cX7_set 6 = .ok (.ifCond .eq 20, 3) := by decide +kernel
theorem dX7_set_9 : decode cX7_set 9 = .ok (.iload_n 2, 1) := by decide +kernel
theorem dX7_set_10 : decode cX7_set 10 = .ok (.getstatic 146, 3) := by decide +kernel
theorem dX7_set_13 : decode cX7_set 13 = .ok (.iload_n 1, 1) := by decide +kernel
theorem dX7_set_14 : decode cX7_set 14 = .ok (.iaload, 1) := by decide +kernel
theorem dX7_set_15 : decode cX7_set 15 = .ok (.getstatic 149, 3) := by decide +kernel
theorem dX7_set_18 : decode cX7_set 18 = .ok (.iload_n 1, 1) := by decide +kernel
theorem dX7_set_19 : decode cX7_set 19 = .ok (.iaload, 1) := by decide +kernel
theorem dX7_set_20 : decode cX7_set 20 = .ok (.invokestatic 97, 3) := by decide +kernel
theorem dX7_set_23 : decode cX7_set 23 = .ok (.ifCond .ne 6, 3) := by decide +kernel
theorem dX7_set_26 : decode cX7_set 26 = .ok (.bipush (-2), 2) := by decide +kernel
theorem dX7_set_28 : decode cX7_set 28 = .ok (.ireturn, 1) := by decide +kernel
theorem dX7_set_29 : decode cX7_set 29 = .ok (.aload_n 0, 1) := by decide +kernel
theorem dX7_set_30 : decode cX7_set 30 = .ok (.getfield 54, 3) := by decide +kernel
theorem dX7_set_33 : decode cX7_set 33 = .ok (.iload_n 1, 1) := by decide +kernel
theorem dX7_set_34 : decode cX7_set 34 = .ok (.iaload, 1) := by decide +kernel
theorem dX7_set_35 : decode cX7_set 35 = .ok (.istore_n 3, 1) := by decide +kernel
theorem dX7_set_36 : decode cX7_set 36 = .ok (.aload_n 0, 1) := by decide +kernel
theorem dX7_set_37 : decode cX7_set 37 = .ok (.getfield 54, 3) := by decide +kernel
theorem dX7_set_40 : decode cX7_set 40 = .ok (.iload_n 1, 1) := by decide +kernel
theorem dX7_set_41 : decode cX7_set 41 = .ok (.iload_n 2, 1) := by decide +kernel
theorem dX7_set_42 : decode cX7_set 42 = .ok (.iastore, 1) := by decide +kernel
theorem dX7_set_43 : decode cX7_set 43 = .ok (.aload_n 0, 1) := by decide +kernel
theorem dX7_set_44 : decode cX7_set 44 = .ok (.invokevirtual 108, 3) := by decide +kernel
theorem dX7_set_47 : decode cX7_set 47 = .ok (.iload_n 3, 1) := by decide +kernel
theorem dX7_set_48 : decode cX7_set 48 = .ok (.ireturn, 1) := by decide +kernel
theorem dX7_rain_0 : decode cX7_rain 0 = .ok (.iload_n 1, 1) := by decide +kernel
theorem dX7_rain_1 : decode cX7_rain 1 = .ok (.invokestatic 121, 3) := by decide +kernel
theorem dX7_rain_4 : decode cX7_rain 4 = .ok (.ifCond .eq 15, 3) := by decide +kernel
theorem dX7_rain_7 : decode cX7_rain 7 = .ok (.aload_n 0, 1) := by decide +kernel
theorem dX7_rain_8 : decode cX7_rain 8 = .ok (.aload_n 0, 1) := by decide +kernel
theorem dX7_rain_9 : decode cX7_rain 9 = .ok (.getfield 18, 3) := by decide +kernel
theorem dX7_rain_12 : decode cX7_rain 12 = .ok (.iload_n 1, 1) := by decide +kernel
theorem dX7_rain_13 : decode cX7_rain 13 = .ok (.invokevirtual 101, 3) := by decide +kernel
theorem dX7_rain_16 : decode cX7_rain 16 = .ok (.goto 5, 3) := by decide +kernel
theorem dX7_rain_19 : decode cX7_rain 19 = .ok (.bipush (-2), 2) := by decide +kernel
theorem dX7_rain_21 : decode cX7_rain 21 = .ok (.ireturn, 1) := by decide +kernel
theorem dX7_dressing_0 : decode cX7_dressing 0 = .ok (.iload_n 1, 1) := by decide +kernel
theorem dX7_dressing_1 : decode cX7_dressing 1 = .ok (.invokestatic 121, 3) := by decide +kernel
theorem dX7_dressing_4 : decode cX7_dressing 4 = .ok (.ifCond .eq 15, 3) := by decide +kernel
theorem dX7_dressing_7 : decode cX7_dressing 7 = .ok (.aload_n 0, 1) := by decide +kernel
theorem dX7_dressing_8 : decode cX7_dressing 8 = .ok (.aload_n 0, 1) := by decide +kernel
theorem dX7_dressing_9 : decode cX7_dressing 9 = .ok (.getfield 22, 3) := by decide +kernel
theorem dX7_dressing_12 : decode cX7_dressing 12 = .ok (.iload_n 1, 1) := by decide +kernel
theorem dX7_dressing_13 : decode cX7_dressing 13 = .ok (.invokevirtual 101, 3) := by decide +kernel
theorem dX7_dressing_16 : decode cX7_dressing 16 = .ok (.goto 5, 3) := by decide +kernel
theorem dX7_dressing_19 : decode cX7_dressing 19 = .ok (.bipush (-2), 2) := by decide +kernel
theorem dX7_dressing_21 : decode cX7_dressing 21 = .ok (.ireturn, 1) := by decide +kernel
theorem dX7_back_0 : decode cX7_back 0 = .ok (.iload_n 1, 1) := by decide +kernel
theorem dX7_back_1 : decode cX7_back 1 = .ok (.iconst 0, 1) := by decide +kernel
theorem dX7_back_2 : decode cX7_back 2 = .ok (.iconst 1, 1) := by decide +kernel
theorem dX7_back_3 : decode cX7_back 3 = .ok (.invokestatic 97, 3) := by decide +kernel
theorem dX7_back_6 : decode cX7_back 6 = .ok (.ifCond .ne 6, 3) := by decide +kernel
theorem dX7_back_9 : decode cX7_back 9 = .ok (.bipush (-2), 2) := by decide +kernel
theorem dX7_back_11 : decode cX7_back 11 = .ok (.ireturn, 1) := by decide +kernel
theorem dX7_back_12 : decode cX7_back 12 = .ok (.aload_n 0, 1) := by decide +kernel
theorem dX7_back_13 : decode cX7_back 13 = .ok (.iload_n 1, 1) := by decide +kernel
theorem dX7_back_14 : decode cX7_back 14 = .ok (.ifCond .ne 10, 3) := by decide +kernel
theorem dX7_back_17 : decode cX7_back 17 = .ok (.aload_n 0, 1) := by decide +kernel
theorem dX7_back_18 : decode cX7_back 18 = .ok (.getfield 18, 3) := by decide +kernel
theorem dX7_back_21 : decode cX7_back 21 = .ok (.goto 7, 3) := by decide +kernel
theorem dX7_back_24 : decode cX7_back 24 = .ok (.aload_n 0, 1) := by decide +kernel
theorem dX7_back_25 : decode cX7_back 25 = .ok (.getfield 22, 3) := by decide +kernel
theorem dX7_back_28 : decode cX7_back 28 = .ok (.invokevirtual 111, 3) := by decide +kernel
theorem dX7_back_31 : decode cX7_back 31 = .ok (.ireturn, 1) := by decide +kernel
theorem dX7_read_0 : decode cX7_read 0 = .ok (.iload_n 1, 1) := by decide +kernel
theorem dX7_read_1 : decode cX7_read 1 = .ok (.invokestatic 152, 3) := by decide +kernel
theorem dX7_read_4 : decode cX7_read 4 = .ok (.ifCond .ne 6, 3) := by decide +kernel
theorem dX7_read_7 : decode cX7_read 7 = .ok (.bipush (-2), 2) := by decide +kernel
theorem dX7_read_9 : decode cX7_read 9 = .ok (.ireturn, 1) := by decide +kernel
theorem dX7_read_10 : decode cX7_read 10 = .ok (.aload_n 0, 1) := by decide +kernel
theorem dX7_read_11 : decode cX7_read 11 = .ok (.getfield 34, 3) := by decide +kernel
theorem dX7_read_14 : decode cX7_read 14 = .ok (.iload_n 1, 1) := by decide +kernel
theorem dX7_read_15 : decode cX7_read 15 = .ok (.aaload, 1) := by decide +kernel
theorem dX7_read_16 : decode cX7_read 16 = .ok (.astore_n 2, 1) := by decide +kernel
theorem dX7_read_17 : decode cX7_read 17 = .ok (.aload_n 2, 1) := by decide +kernel
theorem dX7_read_18 : decode cX7_read 18 = .ok (.invokevirtual 155, 3) := by decide +kernel
theorem dX7_read_21 : decode cX7_read 21 = .ok (.ifCond .eq 9, 3) := by decide +kernel
theorem dX7_read_24 : decode cX7_read 24 = .ok (.aload_n 0, 1) := by decide +kernel
theorem dX7_read_25 : decode cX7_read 25 = .ok (.iconst 1, 1) := by decide +kernel
theorem dX7_read_26 : decode cX7_read 26 = .ok (.invokevirtual 159, 3) := by decide +kernel
theorem dX7_read_29 : decode cX7_read 29 = .ok (.ireturn, 1) := by decide +kernel
theorem dX7_read_30 : decode cX7_read 30 = .ok (.iconst 0, 1) := by decide +kernel
theorem dX7_read_31 : decode cX7_read 31 = .ok (.istore_n 3, 1) := by decide +kernel
theorem dX7_read_32 : decode cX7_read 32 = .ok (.iload_n 3, 1) := by decide +kernel
theorem dX7_read_33 : decode cX7_read 33 = .ok (.aload_n 2, 1) := by decide +kernel
theorem dX7_read_34 : decode cX7_read 34 = .ok (.getfield 163, 3) := by decide +kernel
theorem dX7_read_37 : decode cX7_read 37 = .ok (.if_icmp .ge 44, 3) := by decide +kernel
theorem dX7_read_40 : decode cX7_read 40 = .ok (.aload_n 2, 1) := by decide +kernel
theorem dX7_read_41 : decode cX7_read 41 = .ok (.getfield 164, 3) := by decide +kernel
theorem dX7_read_44 : decode cX7_read 44 = .ok (.iload_n 3, 1) := by decide +kernel
theorem dX7_read_45 : decode cX7_read 45 = .ok (.iaload, 1) := by decide +kernel
theorem dX7_read_46 : decode cX7_read 46 = .ok (.invokestatic 121, 3) := by decide +kernel
theorem dX7_read_49 : decode cX7_read 49 = .ok (.ifCond .eq 32, 3) := by decide +kernel
theorem dX7_read_52 : decode cX7_read 52 = .ok (.aload_n 0, 1) := by decide +kernel
theorem dX7_read_53 : decode cX7_read 53 = .ok (.getfield 18, 3) := by decide +kernel
theorem dX7_read_56 : decode cX7_read 56 = .ok (.invokevirtual 167, 3) := by decide +kernel
theorem dX7_read_59 : decode cX7_read 59 = .ok (.ifCond .ne 22, 3) := by decide +kernel
theorem dX7_read_62 : decode cX7_read 62 = .ok (.aload_n 0, 1) := by decide +kernel
theorem dX7_read_63 : decode cX7_read 63 = .ok (.getfield 18, 3) := by decide +kernel
theorem dX7_read_66 : decode cX7_read 66 = .ok (.aload_n 2, 1) := by decide +kernel
theorem dX7_read_67 : decode cX7_read 67 = .ok (.getfield 164, 3) := by decide +kernel
theorem dX7_read_70 : decode cX7_read 70 = .ok (.iload_n 3, 1) := by decide +kernel
theorem dX7_read_71 : decode cX7_read 71 = .ok (.iaload, 1) := by decide +kernel
theorem dX7_read_72 : decode cX7_read 72 = .ok (.invokevirtual 170, 3) := by decide +kernel
theorem dX7_read_75 : decode cX7_read 75 = .ok (.iinc 3 1, 3) := by decide +kernel
theorem dX7_read_78 : decode cX7_read 78 = .ok (.goto (-46), 3) := by decide +kernel
theorem dX7_read_81 : decode cX7_read 81 = .ok (.aload_n 0, 1) := by decide +kernel
theorem dX7_read_82 : decode cX7_read 82 = .ok (.invokevirtual 108, 3) := by decide +kernel
theorem dX7_read_85 : decode cX7_read 85 = .ok (.iload_n 3, 1) := by decide +kernel
theorem dX7_read_86 : decode cX7_read 86 = .ok (.ireturn, 1) := by decide +kernel
theorem dX7_at_0 : decode cX7_at 0 = .ok (.iload_n 1, 1) := by decide +kernel
theorem dX7_at_1 : decode cX7_at 1 = .ok (.invokestatic 121, 3) := by decide +kernel
theorem dX7_at_4 : decode cX7_at 4 = .ok (.ifCond .eq 12, 3) := by decide +kernel
theorem dX7_at_7 : decode cX7_at 7 = .ok (.iload_n 2, 1) := by decide +kernel
theorem dX7_at_8 : decode cX7_at 8 = .ok (.iconst 0, 1) := by decide +kernel
theorem dX7_at_9 : decode cX7_at 9 = .ok (.iconst 4, 1) := by decide +kernel
theorem dX7_at_10 : decode cX7_at 10 = .ok (.invokestatic 97, 3) := by decide +kernel
theorem dX7_at_13 : decode cX7_at 13 = .ok (.ifCond .ne 6, 3) := by decide +kernel
theorem dX7_at_16 : decode cX7_at 16 = .ok (.bipush (-2), 2) := by decide +kernel
theorem dX7_at_18 : decode cX7_at 18 = .ok (.ireturn, 1) := by decide +kernel
theorem dX7_at_19 : decode cX7_at 19 = .ok (.aload_n 0, 1) := by decide +kernel
theorem dX7_at_20 : decode cX7_at 20 = .ok (.invokevirtual 125, 3) := by decide +kernel
theorem dX7_at_23 : decode cX7_at 23 = .ok (.iload_n 2, 1) := by decide +kernel
theorem dX7_at_24 : decode cX7_at 24 = .ok (.tableswitch 72 0 3 #[32, 42, 52, 62], 32) := by decide +kernel
theorem dX7_at_56 : decode cX7_at 56 = .ok (.aload_n 0, 1) := by decide +kernel
theorem dX7_at_57 : decode cX7_at 57 = .ok (.getfield 69, 3) := by decide +kernel
theorem dX7_at_60 : decode cX7_at 60 = .ok (.getfield 173, 3) := by decide +kernel
theorem dX7_at_63 : decode cX7_at 63 = .ok (.iload_n 1, 1) := by decide +kernel
theorem dX7_at_64 : decode cX7_at 64 = .ok (.iaload, 1) := by decide +kernel
theorem dX7_at_65 : decode cX7_at 65 = .ok (.ireturn, 1) := by decide +kernel
theorem dX7_at_66 : decode cX7_at 66 = .ok (.aload_n 0, 1) := by decide +kernel
theorem dX7_at_67 : decode cX7_at 67 = .ok (.getfield 69, 3) := by decide +kernel
theorem dX7_at_70 : decode cX7_at 70 = .ok (.getfield 176, 3) := by decide +kernel
theorem dX7_at_73 : decode cX7_at 73 = .ok (.iload_n 1, 1) := by decide +kernel
theorem dX7_at_74 : decode cX7_at 74 = .ok (.iaload, 1) := by decide +kernel
theorem dX7_at_75 : decode cX7_at 75 = .ok (.ireturn, 1) := by decide +kernel
theorem dX7_at_76 : decode cX7_at 76 = .ok (.aload_n 0, 1) := by decide +kernel
theorem dX7_at_77 : decode cX7_at 77 = .ok (.getfield 69, 3) := by decide +kernel
theorem dX7_at_80 : decode cX7_at 80 = .ok (.getfield 177, 3) := by decide +kernel
theorem dX7_at_83 : decode cX7_at 83 = .ok (.iload_n 1, 1) := by decide +kernel
theorem dX7_at_84 : decode cX7_at 84 = .ok (.iaload, 1) := by decide +kernel
theorem dX7_at_85 : decode cX7_at 85 = .ok (.ireturn, 1) := by decide +kernel
theorem dX7_at_86 : decode cX7_at 86 = .ok (.aload_n 0, 1) := by decide +kernel
theorem dX7_at_87 : decode cX7_at 87 = .ok (.getfield 69, 3) := by decide +kernel
theorem dX7_at_90 : decode cX7_at 90 = .ok (.getfield 180, 3) := by decide +kernel
theorem dX7_at_93 : decode cX7_at 93 = .ok (.iload_n 1, 1) := by decide +kernel
theorem dX7_at_94 : decode cX7_at 94 = .ok (.iaload, 1) := by decide +kernel
theorem dX7_at_95 : decode cX7_at 95 = .ok (.ireturn, 1) := by decide +kernel
theorem dX7_at_96 : decode cX7_at 96 = .ok (.aload_n 0, 1) := by decide +kernel
theorem dX7_at_97 : decode cX7_at 97 = .ok (.getfield 69, 3) := by decide +kernel
theorem dX7_at_100 : decode cX7_at 100 = .ok (.getfield 183, 3) := by decide +kernel
theorem dX7_at_103 : decode cX7_at 103 = .ok (.iload_n 1, 1) := by decide +kernel
theorem dX7_at_104 : decode cX7_at 104 = .ok (.iaload, 1) := by decide +kernel
theorem dX7_at_105 : decode cX7_at 105 = .ok (.ireturn, 1) := by decide +kernel
theorem dX7_ends_0 : decode cX7_ends 0 = .ok (.aload_n 0, 1) := by decide +kernel
theorem dX7_ends_1 : decode cX7_ends 1 = .ok (.iload_n 1, 1) := by decide +kernel
theorem dX7_ends_2 : decode cX7_ends 2 = .ok (.invokevirtual 131, 3) := by decide +kernel
theorem dX7_ends_5 : decode cX7_ends 5 = .ok (.ifCond .eq 15, 3) := by decide +kernel
theorem dX7_ends_8 : decode cX7_ends 8 = .ok (.aload_n 0, 1) := by decide +kernel
theorem dX7_ends_9 : decode cX7_ends 9 = .ok (.getfield 69, 3) := by decide +kernel
theorem dX7_ends_12 : decode cX7_ends 12 = .ok (.getfield 186, 3) := by decide +kernel
theorem dX7_ends_15 : decode cX7_ends 15 = .ok (.iload_n 1, 1) := by decide +kernel
theorem dX7_ends_16 : decode cX7_ends 16 = .ok (.iaload, 1) := by decide +kernel
theorem dX7_ends_17 : decode cX7_ends 17 = .ok (.goto 5, 3) := by decide +kernel
theorem dX7_ends_20 : decode cX7_ends 20 = .ok (.bipush (-2), 2) := by decide +kernel
theorem dX7_ends_22 : decode cX7_ends 22 = .ok (.ireturn, 1) := by decide +kernel
theorem dX7_paid_0 : decode cX7_paid 0 = .ok (.aload_n 0, 1) := by decide +kernel
theorem dX7_paid_1 : decode cX7_paid 1 = .ok (.invokevirtual 125, 3) := by decide +kernel
theorem dX7_paid_4 : decode cX7_paid 4 = .ok (.aload_n 0, 1) := by decide +kernel
theorem dX7_paid_5 : decode cX7_paid 5 = .ok (.getfield 69, 3) := by decide +kernel
theorem dX7_paid_8 : decode cX7_paid 8 = .ok (.aload_n 0, 1) := by decide +kernel
theorem dX7_paid_9 : decode cX7_paid 9 = .ok (.getfield 41, 3) := by decide +kernel
theorem dX7_paid_12 : decode cX7_paid 12 = .ok (.invokevirtual 189, 3) := by decide +kernel
theorem dX7_paid_15 : decode cX7_paid 15 = .ok (.ireturn, 1) := by decide +kernel
theorem dX7_spilt_0 : decode cX7_spilt 0 = .ok (.aload_n 0, 1) := by decide +kernel
theorem dX7_spilt_1 : decode cX7_spilt 1 = .ok (.invokevirtual 125, 3) := by decide +kernel
theorem dX7_spilt_4 : decode cX7_spilt 4 = .ok (.aload_n 0, 1) := by decide +kernel
theorem dX7_spilt_5 : decode cX7_spilt 5 = .ok (.getfield 69, 3) := by decide +kernel
theorem dX7_spilt_8 : decode cX7_spilt 8 = .ok (.getfield 193, 3) := by decide +kernel
theorem dX7_spilt_11 : decode cX7_spilt 11 = .ok (.getfield 197, 3) := by decide +kernel
theorem dX7_spilt_14 : decode cX7_spilt 14 = .ok (.ireturn, 1) := by decide +kernel
theorem dX7_idle_0 : decode cX7_idle 0 = .ok (.aload_n 0, 1) := by decide +kernel
theorem dX7_idle_1 : decode cX7_idle 1 = .ok (.invokevirtual 125, 3) := by decide +kernel
theorem dX7_idle_4 : decode cX7_idle 4 = .ok (.aload_n 0, 1) := by decide +kernel
theorem dX7_idle_5 : decode cX7_idle 5 = .ok (.getfield 69, 3) := by decide +kernel
theorem dX7_idle_8 : decode cX7_idle 8 = .ok (.getfield 202, 3) := by decide +kernel
theorem dX7_idle_11 : decode cX7_idle 11 = .ok (.ireturn, 1) := by decide +kernel
theorem dX7_late_0 : decode cX7_late 0 = .ok (.aload_n 0, 1) := by decide +kernel
theorem dX7_late_1 : decode cX7_late 1 = .ok (.invokevirtual 125, 3) := by decide +kernel
theorem dX7_late_4 : decode cX7_late 4 = .ok (.iconst 0, 1) := by decide +kernel
theorem dX7_late_5 : decode cX7_late 5 = .ok (.istore_n 1, 1) := by decide +kernel
theorem dX7_late_6 : decode cX7_late 6 = .ok (.iconst 0, 1) := by decide +kernel
theorem dX7_late_7 : decode cX7_late 7 = .ok (.istore_n 2, 1) := by decide +kernel
theorem dX7_late_8 : decode cX7_late 8 = .ok (.iload_n 2, 1) := by decide +kernel
theorem dX7_late_9 : decode cX7_late 9 = .ok (.aload_n 0, 1) := by decide +kernel
theorem dX7_late_10 : decode cX7_late 10 = .ok (.getfield 41, 3) := by decide +kernel
theorem dX7_late_13 : decode cX7_late 13 = .ok (.getfield 205, 3) := by decide +kernel
theorem dX7_late_16 : decode cX7_late 16 = .ok (.if_icmp .ge 30, 3) := by decide +kernel
theorem dX7_late_19 : decode cX7_late 19 = .ok (.aload_n 0, 1) := by decide +kernel
theorem dX7_late_20 : decode cX7_late 20 = .ok (.getfield 69, 3) := by decide +kernel
theorem dX7_late_23 : decode cX7_late 23 = .ok (.aload_n 0, 1) := by decide +kernel
theorem dX7_late_24 : decode cX7_late 24 = .ok (.getfield 41, 3) := by decide +kernel
theorem dX7_late_27 : decode cX7_late 27 = .ok (.iload_n 2, 1) := by decide +kernel
theorem dX7_late_28 : decode cX7_late 28 = .ok (.invokevirtual 206, 3) := by decide +kernel
theorem dX7_late_31 : decode cX7_late 31 = .ok (.ifCond .ne 9, 3) := by decide +kernel
theorem dX7_late_34 : decode cX7_late 34 = .ok (.iload_n 1, 1) := by decide +kernel
theorem dX7_late_35 : decode cX7_late 35 = .ok (.iconst 1, 1) := by decide +kernel
theorem dX7_late_36 : decode cX7_late 36 = .ok (.iload_n 2, 1) := by decide +kernel
theorem dX7_late_37 : decode cX7_late 37 = .ok (.ishl, 1) := by decide +kernel
theorem dX7_late_38 : decode cX7_late 38 = .ok (.ior, 1) := by decide +kernel
theorem dX7_late_39 : decode cX7_late 39 = .ok (.istore_n 1, 1) := by decide +kernel
theorem dX7_late_40 : decode cX7_late 40 = .ok (.iinc 2 1, 3) := by decide +kernel
theorem dX7_late_43 : decode cX7_late 43 = .ok (.goto (-35), 3) := by decide +kernel
theorem dX7_late_46 : decode cX7_late 46 = .ok (.iload_n 1, 1) := by decide +kernel
theorem dX7_late_47 : decode cX7_late 47 = .ok (.ireturn, 1) := by decide +kernel
theorem dX7_row_0 : decode cX7_row 0 = .ok (.iload_n 1, 1) := by decide +kernel
theorem dX7_row_1 : decode cX7_row 1 = .ok (.iconst 0, 1) := by decide +kernel
theorem dX7_row_2 : decode cX7_row 2 = .ok (.bipush 8, 2) := by decide +kernel
theorem dX7_row_4 : decode cX7_row 4 = .ok (.invokestatic 97, 3) := by decide +kernel
theorem dX7_row_7 : decode cX7_row 7 = .ok (.ifCond .ne 6, 3) := by decide +kernel
theorem dX7_row_10 : decode cX7_row 10 = .ok (.bipush (-2), 2) := by decide +kernel
theorem dX7_row_12 : decode cX7_row 12 = .ok (.ireturn, 1) := by decide +kernel
theorem dX7_row_13 : decode cX7_row 13 = .ok (.aload_n 0, 1) := by decide +kernel
theorem dX7_row_14 : decode cX7_row 14 = .ok (.invokevirtual 125, 3) := by decide +kernel
theorem dX7_row_17 : decode cX7_row 17 = .ok (.iload_n 1, 1) := by decide +kernel
theorem dX7_row_18 : decode cX7_row 18 = .ok (.aload_n 0, 1) := by decide +kernel
theorem dX7_row_19 : decode cX7_row 19 = .ok (.getfield 41, 3) := by decide +kernel
theorem dX7_row_22 : decode cX7_row 22 = .ok (.getfield 205, 3) := by decide +kernel
theorem dX7_row_25 : decode cX7_row 25 = .ok (.if_icmp .gt 13, 3) := by decide +kernel
theorem dX7_row_28 : decode cX7_row 28 = .ok (.aload_n 0, 1) := by decide +kernel
theorem dX7_row_29 : decode cX7_row 29 = .ok (.getfield 41, 3) := by decide +kernel
theorem dX7_row_32 : decode cX7_row 32 = .ok (.getfield 205, 3) := by decide +kernel
theorem dX7_row_35 : decode cX7_row 35 = .ok (.ifCond .ne 5, 3) := by decide +kernel
theorem dX7_row_38 : decode cX7_row 38 = .ok (.iconst (-1), 1) := by decide +kernel
theorem dX7_row_39 : decode cX7_row 39 = .ok (.ireturn, 1) := by decide +kernel
theorem dX7_row_40 : decode cX7_row 40 = .ok (.aload_n 0, 1) := by decide +kernel
theorem dX7_row_41 : decode cX7_row 41 = .ok (.getfield 210, 3) := by decide +kernel
theorem dX7_row_44 : decode cX7_row 44 = .ok (.ifCond .ne 19, 3) := by decide +kernel
theorem dX7_row_47 : decode cX7_row 47 = .ok (.aload_n 0, 1) := by decide +kernel
theorem dX7_row_48 : decode cX7_row 48 = .ok (.getfield 82, 3) := by decide +kernel
theorem dX7_row_51 : decode cX7_row 51 = .ok (.aload_n 0, 1) := by decide +kernel
theorem dX7_row_52 : decode cX7_row 52 = .ok (.getfield 62, 3) := by decide +kernel
theorem dX7_row_55 : decode cX7_row 55 = .ok (.invokevirtual 214, 3) := by decide +kernel
theorem dX7_row_58 : decode cX7_row 58 = .ok (.aload_n 0, 1) := by decide +kernel
theorem dX7_row_59 : decode cX7_row 59 = .ok (.iconst 1, 1) := by decide +kernel
theorem dX7_row_60 : decode cX7_row 60 = .ok (.putfield 210, 3) := by decide +kernel
theorem dX7_row_63 : decode cX7_row 63 = .ok (.iload_n 1, 1) := by decide +kernel
theorem dX7_row_64 : decode cX7_row 64 = .ok (.ifCond .ne 13, 3) := by decide +kernel
theorem dX7_row_67 : decode cX7_row 67 = .ok (.aload_n 0, 1) := by decide +kernel
theorem dX7_row_68 : decode cX7_row 68 = .ok (.getfield 82, 3) := by decide +kernel
theorem dX7_row_71 : decode cX7_row 71 = .ok (.getfield 218, 3) := by decide +kernel
theorem dX7_row_74 : decode cX7_row 74 = .ok (.goto 14, 3) := by decide +kernel
theorem dX7_row_77 : decode cX7_row 77 = .ok (.aload_n 0, 1) := by decide +kernel
theorem dX7_row_78 : decode cX7_row 78 = .ok (.getfield 82, 3) := by decide +kernel
theorem dX7_row_81 : decode cX7_row 81 = .ok (.getfield 221, 3) := by decide +kernel
theorem dX7_row_84 : decode cX7_row 84 = .ok (.iload_n 1, 1) := by decide +kernel
theorem dX7_row_85 : decode cX7_row 85 = .ok (.iconst 1, 1) := by decide +kernel
theorem dX7_row_86 : decode cX7_row 86 = .ok (.isub, 1) := by decide +kernel
theorem dX7_row_87 : decode cX7_row 87 = .ok (.iaload, 1) := by decide +kernel
theorem dX7_row_88 : decode cX7_row 88 = .ok (.ireturn, 1) := by decide +kernel
theorem dX7_dress_0 : decode cX7_dress 0 = .ok (.iload_n 1, 1) := by decide +kernel
theorem dX7_dress_1 : decode cX7_dress 1 = .ok (.iconst 0, 1) := by decide +kernel
theorem dX7_dress_2 : decode cX7_dress 2 = .ok (.iconst 1, 1) := by decide +kernel
theorem dX7_dress_3 : decode cX7_dress 3 = .ok (.invokestatic 97, 3) := by decide +kernel
theorem dX7_dress_6 : decode cX7_dress 6 = .ok (.ifCond .ne 6, 3) := by decide +kernel
theorem dX7_dress_9 : decode cX7_dress 9 = .ok (.bipush (-2), 2) := by decide +kernel
theorem dX7_dress_11 : decode cX7_dress 11 = .ok (.ireturn, 1) := by decide +kernel
theorem dX7_dress_12 : decode cX7_dress 12 = .ok (.aload_n 0, 1) := by decide +kernel
theorem dX7_dress_13 : decode cX7_dress 13 = .ok (.invokevirtual 125, 3) := by decide +kernel
theorem dX7_dress_16 : decode cX7_dress 16 = .ok (.iconst 0, 1) := by decide +kernel
theorem dX7_dress_17 : decode cX7_dress 17 = .ok (.istore_n 2, 1) := by decide +kernel
theorem dX7_dress_18 : decode cX7_dress 18 = .ok (.iconst (-1), 1) := by decide +kernel
theorem dX7_dress_19 : decode cX7_dress 19 = .ok (.istore_n 3, 1) := by decide +kernel
theorem dX7_dress_20 : decode cX7_dress 20 = .ok (.iconst 0, 1) := by decide +kernel
theorem dX7_dress_21 : decode cX7_dress 21 = .ok (.istore 4, 2) := by decide +kernel
theorem dX7_dress_23 : decode cX7_dress 23 = .ok (.iload 4, 2) := by decide +kernel
theorem dX7_dress_25 : decode cX7_dress 25 = .ok (.bipush 40, 2) := by decide +kernel
theorem dX7_dress_27 : decode cX7_dress 27 = .ok (.if_icmp .ge 67, 3) := by decide +kernel
theorem dX7_dress_30 : decode cX7_dress 30 = .ok (.aload_n 0, 1) := by decide +kernel
theorem dX7_dress_31 : decode cX7_dress 31 = .ok (.getfield 73, 3) := by decide +kernel
theorem dX7_dress_34 : decode cX7_dress 34 = .ok (.aload_n 0, 1) := by decide +kernel
theorem dX7_dress_35 : decode cX7_dress 35 = .ok (.getfield 62, 3) := by decide +kernel
theorem dX7_dress_38 : decode cX7_dress 38 = .ok (.invokevirtual 224, 3) := by decide +kernel
theorem dX7_dress_41 : decode cX7_dress 41 = .ok (.aload_n 0, 1) := by decide +kernel
theorem dX7_dress_42 : decode cX7_dress 42 = .ok (.getfield 73, 3) := by decide +kernel
theorem dX7_dress_45 : decode cX7_dress 45 = .ok (.getfield 227, 3) := by decide +kernel
theorem dX7_dress_48 : decode cX7_dress 48 = .ok (.iload 4, 2) := by decide +kernel
theorem dX7_dress_50 : decode cX7_dress 50 = .ok (.dup2, 1) := by decide +kernel
theorem dX7_dress_51 : decode cX7_dress 51 = .ok (.iaload, 1) := by decide +kernel
theorem dX7_dress_52 : decode cX7_dress 52 = .ok (.iconst 1, 1) := by decide +kernel
theorem dX7_dress_53 : decode cX7_dress 53 = .ok (.iadd, 1) := by decide +kernel
theorem dX7_dress_54 : decode cX7_dress 54 = .ok (.iastore, 1) := by decide +kernel
theorem dX7_dress_55 : decode cX7_dress 55 = .ok (.aload_n 0, 1) := by decide +kernel
theorem dX7_dress_56 : decode cX7_dress 56 = .ok (.getfield 76, 3) := by decide +kernel
theorem dX7_dress_59 : decode cX7_dress 59 = .ok (.aload_n 0, 1) := by decide +kernel
theorem dX7_dress_60 : decode cX7_dress 60 = .ok (.getfield 73, 3) := by decide +kernel
theorem dX7_dress_63 : decode cX7_dress 63 = .ok (.invokevirtual 229, 3) := by decide +kernel
theorem dX7_dress_66 : decode cX7_dress 66 = .ok (.aload_n 0, 1) := by decide +kernel
theorem dX7_dress_67 : decode cX7_dress 67 = .ok (.getfield 76, 3) := by decide +kernel
theorem dX7_dress_70 : decode cX7_dress 70 = .ok (.invokevirtual 232, 3) := by decide +kernel
theorem dX7_dress_73 : decode cX7_dress 73 = .ok (.iload_n 3, 1) := by decide +kernel
theorem dX7_dress_74 : decode cX7_dress 74 = .ok (.if_icmp .le 14, 3) := by decide +kernel
theorem dX7_dress_77 : decode cX7_dress 77 = .ok (.iload 4, 2) := by decide +kernel
theorem dX7_dress_79 : decode cX7_dress 79 = .ok (.istore_n 2, 1) := by decide +kernel
theorem dX7_dress_80 : decode cX7_dress 80 = .ok (.aload_n 0, 1) := by decide +kernel
theorem dX7_dress_81 : decode cX7_dress 81 = .ok (.getfield 76, 3) := by decide +kernel
theorem dX7_dress_84 : decode cX7_dress 84 = .ok (.invokevirtual 232, 3) := by decide +kernel
theorem dX7_dress_87 : decode cX7_dress 87 = .ok (.istore_n 3, 1) := by decide +kernel
theorem dX7_dress_88 : decode cX7_dress 88 = .ok (.iinc 4 1, 3) := by decide +kernel
theorem dX7_dress_91 : decode cX7_dress 91 = .ok (.goto (-68), 3) := by decide +kernel
theorem dX7_dress_94 : decode cX7_dress 94 = .ok (.iload_n 1, 1) := by decide +kernel
theorem dX7_dress_95 : decode cX7_dress 95 = .ok (.ifCond .ne 7, 3) := by decide +kernel
theorem dX7_dress_98 : decode cX7_dress 98 = .ok (.iload_n 2, 1) := by decide +kernel
theorem dX7_dress_99 : decode cX7_dress 99 = .ok (.goto 4, 3) := by decide +kernel
theorem dX7_dress_102 : decode cX7_dress 102 = .ok (.iload_n 3, 1) := by decide +kernel
theorem dX7_dress_103 : decode cX7_dress 103 = .ok (.ireturn, 1) := by decide +kernel
theorem dX7_least_0 : decode cX7_least 0 = .ok (.aload_n 0, 1) := by decide +kernel
theorem dX7_least_1 : decode cX7_least 1 = .ok (.invokevirtual 125, 3) := by decide +kernel
theorem dX7_least_4 : decode cX7_least 4 = .ok (.aload_n 0, 1) := by decide +kernel
theorem dX7_least_5 : decode cX7_least 5 = .ok (.getfield 73, 3) := by decide +kernel
theorem dX7_least_8 : decode cX7_least 8 = .ok (.aload_n 0, 1) := by decide +kernel
theorem dX7_least_9 : decode cX7_least 9 = .ok (.getfield 62, 3) := by decide +kernel
theorem dX7_least_12 : decode cX7_least 12 = .ok (.invokevirtual 224, 3) := by decide +kernel
theorem dX7_least_15 : decode cX7_least 15 = .ok (.iconst 0, 1) := by decide +kernel
theorem dX7_least_16 : decode cX7_least 16 = .ok (.istore_n 1, 1) := by decide +kernel
theorem dX7_least_17 : decode cX7_least 17 = .ok (.iload_n 1, 1) := by decide +kernel
theorem dX7_least_18 : decode cX7_least 18 = .ok (.bipush 20, 2) := by decide +kernel
theorem dX7_least_20 : decode cX7_least 20 = .ok (.if_icmp .gt 46, 3) := by decide +kernel
theorem dX7_least_23 : decode cX7_least 23 = .ok (.aload_n 0, 1) := by decide +kernel
theorem dX7_least_24 : decode cX7_least 24 = .ok (.getfield 73, 3) := by decide +kernel
theorem dX7_least_27 : decode cX7_least 27 = .ok (.getfield 236, 3) := by decide +kernel
theorem dX7_least_30 : decode cX7_least 30 = .ok (.iconst 0, 1) := by decide +kernel
theorem dX7_least_31 : decode cX7_least 31 = .ok (.iload_n 1, 1) := by decide +kernel
theorem dX7_least_32 : decode cX7_least 32 = .ok (.iastore, 1) := by decide +kernel
theorem dX7_least_33 : decode cX7_least 33 = .ok (.aload_n 0, 1) := by decide +kernel
theorem dX7_least_34 : decode cX7_least 34 = .ok (.getfield 76, 3) := by decide +kernel
theorem dX7_least_37 : decode cX7_least 37 = .ok (.aload_n 0, 1) := by decide +kernel
theorem dX7_least_38 : decode cX7_least 38 = .ok (.getfield 73, 3) := by decide +kernel
theorem dX7_least_41 : decode cX7_least 41 = .ok (.invokevirtual 229, 3) := by decide +kernel
theorem dX7_least_44 : decode cX7_least 44 = .ok (.aload_n 0, 1) := by decide +kernel
theorem dX7_least_45 : decode cX7_least 45 = .ok (.getfield 76, 3) := by decide +kernel
theorem dX7_least_48 : decode cX7_least 48 = .ok (.aload_n 0, 1) := by decide +kernel
theorem dX7_least_49 : decode cX7_least 49 = .ok (.getfield 41, 3) := by decide +kernel
theorem dX7_least_52 : decode cX7_least 52 = .ok (.invokevirtual 237, 3) := by decide +kernel
theorem dX7_least_55 : decode cX7_least 55 = .ok (.ifCond .eq 5, 3) := by decide +kernel
theorem dX7_least_58 : decode cX7_least 58 = .ok (.iload_n 1, 1) := by decide +kernel
theorem dX7_least_59 : decode cX7_least 59 = .ok (.ireturn, 1) := by decide +kernel
theorem dX7_least_60 : decode cX7_least 60 = .ok (.iinc 1 1, 3) := by decide +kernel
theorem dX7_least_63 : decode cX7_least 63 = .ok (.goto (-46), 3) := by decide +kernel
theorem dX7_least_66 : decode cX7_least 66 = .ok (.iconst (-1), 1) := by decide +kernel
theorem dX7_least_67 : decode cX7_least 67 = .ok (.ireturn, 1) := by decide +kernel
theorem dX7_send_0 : decode cX7_send 0 = .ok (.iload_n 1, 1) := by decide +kernel
theorem dX7_send_1 : decode cX7_send 1 = .ok (.iconst 0, 1) := by decide +kernel
theorem dX7_send_2 : decode cX7_send 2 = .ok (.iconst 1, 1) := by decide +kernel
theorem dX7_send_3 : decode cX7_send 3 = .ok (.invokestatic 97, 3) := by decide +kernel
theorem dX7_send_6 : decode cX7_send 6 = .ok (.ifCond .ne 6, 3) := by decide +kernel
theorem dX7_send_9 : decode cX7_send 9 = .ok (.bipush (-2), 2) := by decide +kernel
theorem dX7_send_11 : decode cX7_send 11 = .ok (.ireturn, 1) := by decide +kernel
theorem dX7_send_12 : decode cX7_send 12 = .ok (.aload_n 0, 1) := by decide +kernel
theorem dX7_send_13 : decode cX7_send 13 = .ok (.invokevirtual 125, 3) := by decide +kernel
theorem dX7_send_16 : decode cX7_send 16 = .ok (.iconst (-1), 1) := by decide +kernel
theorem dX7_send_17 : decode cX7_send 17 = .ok (.istore_n 2, 1) := by decide +kernel
theorem dX7_send_18 : decode cX7_send 18 = .ok (.iconst (-1), 1) := by decide +kernel
theorem dX7_send_19 : decode cX7_send 19 = .ok (.istore_n 3, 1) := by decide +kernel
theorem dX7_send_20 : decode cX7_send 20 = .ok (.iconst 0, 1) := by decide +kernel
theorem dX7_send_21 : decode cX7_send 21 = .ok (.istore 4, 2) := by decide +kernel
theorem dX7_send_23 : decode cX7_send 23 = .ok (.iload 4, 2) := by decide +kernel
theorem dX7_send_25 : decode cX7_send 25 = .ok (.aload_n 0, 1) := by decide +kernel
theorem dX7_send_26 : decode cX7_send 26 = .ok (.getfield 41, 3) := by decide +kernel
theorem dX7_send_29 : decode cX7_send 29 = .ok (.getfield 205, 3) := by decide +kernel
theorem dX7_send_32 : decode cX7_send 32 = .ok (.if_icmp .ge 65, 3) := by decide +kernel
theorem dX7_send_35 : decode cX7_send 35 = .ok (.aload_n 0, 1) := by decide +kernel
theorem dX7_send_36 : decode cX7_send 36 = .ok (.getfield 73, 3) := by decide +kernel
theorem dX7_send_39 : decode cX7_send 39 = .ok (.aload_n 0, 1) := by decide +kernel
theorem dX7_send_40 : decode cX7_send 40 = .ok (.getfield 62, 3) := by decide +kernel
theorem dX7_send_43 : decode cX7_send 43 = .ok (.invokevirtual 224, 3) := by decide +kernel
theorem dX7_send_46 : decode cX7_send 46 = .ok (.aload_n 0, 1) := by decide +kernel
theorem dX7_send_47 : decode cX7_send 47 = .ok (.getfield 73, 3) := by decide +kernel
theorem dX7_send_50 : decode cX7_send 50 = .ok (.iload 4, 2) := by decide +kernel
theorem dX7_send_52 : decode cX7_send 52 = .ok (.invokevirtual 241, 3) := by decide +kernel
theorem dX7_send_55 : decode cX7_send 55 = .ok (.aload_n 0, 1) := by decide +kernel
theorem dX7_send_56 : decode cX7_send 56 = .ok (.getfield 76, 3) := by decide +kernel
theorem dX7_send_59 : decode cX7_send 59 = .ok (.aload_n 0, 1) := by decide +kernel
theorem dX7_send_60 : decode cX7_send 60 = .ok (.getfield 73, 3) := by decide +kernel
theorem dX7_send_63 : decode cX7_send 63 = .ok (.invokevirtual 229, 3) := by decide +kernel
theorem dX7_send_66 : decode cX7_send 66 = .ok (.aload_n 0, 1) := by decide +kernel
theorem dX7_send_67 : decode cX7_send 67 = .ok (.getfield 76, 3) := by decide +kernel
theorem dX7_send_70 : decode cX7_send 70 = .ok (.aload_n 0, 1) := by decide +kernel
theorem dX7_send_71 : decode cX7_send 71 = .ok (.getfield 41, 3) := by decide +kernel
theorem dX7_send_74 : decode cX7_send 74 = .ok (.invokevirtual 189, 3) := by decide +kernel
theorem dX7_send_77 : decode cX7_send 77 = .ok (.istore 5, 2) := by decide +kernel
theorem dX7_send_79 : decode cX7_send 79 = .ok (.iload 5, 2) := by decide +kernel
theorem dX7_send_81 : decode cX7_send 81 = .ok (.iload_n 3, 1) := by decide +kernel
theorem dX7_send_82 : decode cX7_send 82 = .ok (.if_icmp .le 9, 3) := by decide +kernel
theorem dX7_send_85 : decode cX7_send 85 = .ok (.iload 4, 2) := by decide +kernel
theorem dX7_send_87 : decode cX7_send 87 = .ok (.istore_n 2, 1) := by decide +kernel
theorem dX7_send_88 : decode cX7_send 88 = .ok (.iload 5, 2) := by decide +kernel
theorem dX7_send_90 : decode cX7_send 90 = .ok (.istore_n 3, 1) := by decide +kernel
theorem dX7_send_91 : decode cX7_send 91 = .ok (.iinc 4 1, 3) := by decide +kernel
theorem dX7_send_94 : decode cX7_send 94 = .ok (.goto (-71), 3) := by decide +kernel
theorem dX7_send_97 : decode cX7_send 97 = .ok (.iload_n 1, 1) := by decide +kernel
theorem dX7_send_98 : decode cX7_send 98 = .ok (.ifCond .ne 7, 3) := by decide +kernel
theorem dX7_send_101 : decode cX7_send 101 = .ok (.iload_n 2, 1) := by decide +kernel
theorem dX7_send_102 : decode cX7_send 102 = .ok (.goto 4, 3) := by decide +kernel
theorem dX7_send_105 : decode cX7_send 105 = .ok (.iload_n 3, 1) := by decide +kernel
theorem dX7_send_106 : decode cX7_send 106 = .ok (.ireturn, 1) := by decide +kernel
theorem dX7_seen_0 : decode cX7_seen 0 = .ok (.iload_n 1, 1) := by decide +kernel
theorem dX7_seen_1 : decode cX7_seen 1 = .ok (.invokestatic 121, 3) := by decide +kernel
theorem dX7_seen_4 : decode cX7_seen 4 = .ok (.ifCond .eq 13, 3) := by decide +kernel
theorem dX7_seen_7 : decode cX7_seen 7 = .ok (.iload_n 2, 1) := by decide +kernel
theorem dX7_seen_8 : decode cX7_seen 8 = .ok (.iconst 0, 1) := by decide +kernel
theorem dX7_seen_9 : decode cX7_seen 9 = .ok (.bipush 20, 2) := by decide +kernel
theorem dX7_seen_11 : decode cX7_seen 11 = .ok (.invokestatic 97, 3) := by decide +kernel
theorem dX7_seen_14 : decode cX7_seen 14 = .ok (.ifCond .ne 6, 3) := by decide +kernel
theorem dX7_seen_17 : decode cX7_seen 17 = .ok (.bipush (-2), 2) := by decide +kernel
theorem dX7_seen_19 : decode cX7_seen 19 = .ok (.ireturn, 1) := by decide +kernel
theorem dX7_seen_20 : decode cX7_seen 20 = .ok (.aload_n 0, 1) := by decide +kernel
theorem dX7_seen_21 : decode cX7_seen 21 = .ok (.getfield 25, 3) := by decide +kernel
theorem dX7_seen_24 : decode cX7_seen 24 = .ok (.invokevirtual 167, 3) := by decide +kernel
theorem dX7_seen_27 : decode cX7_seen 27 = .ok (.ifCond .eq 6, 3) := by decide +kernel
theorem dX7_seen_30 : decode cX7_seen 30 = .ok (.bipush (-4), 2) := by decide +kernel
theorem dX7_seen_32 : decode cX7_seen 32 = .ok (.ireturn, 1) := by decide +kernel
theorem dX7_seen_33 : decode cX7_seen 33 = .ok (.aload_n 0, 1) := by decide +kernel
theorem dX7_seen_34 : decode cX7_seen 34 = .ok (.getfield 25, 3) := by decide +kernel
theorem dX7_seen_37 : decode cX7_seen 37 = .ok (.iload_n 1, 1) := by decide +kernel
theorem dX7_seen_38 : decode cX7_seen 38 = .ok (.invokevirtual 170, 3) := by decide +kernel
theorem dX7_seen_41 : decode cX7_seen 41 = .ok (.aload_n 0, 1) := by decide +kernel
theorem dX7_seen_42 : decode cX7_seen 42 = .ok (.getfield 28, 3) := by decide +kernel
theorem dX7_seen_45 : decode cX7_seen 45 = .ok (.iload_n 2, 1) := by decide +kernel
theorem dX7_seen_46 : decode cX7_seen 46 = .ok (.invokevirtual 170, 3) := by decide +kernel
theorem dX7_seen_49 : decode cX7_seen 49 = .ok (.aload_n 0, 1) := by decide +kernel
theorem dX7_seen_50 : decode cX7_seen 50 = .ok (.getfield 25, 3) := by decide +kernel
theorem dX7_seen_53 : decode cX7_seen 53 = .ok (.getfield 105, 3) := by decide +kernel
theorem dX7_seen_56 : decode cX7_seen 56 = .ok (.ireturn, 1) := by decide +kernel
theorem dX7_forget_0 : decode cX7_forget 0 = .ok (.aload_n 0, 1) := by decide +kernel
theorem dX7_forget_1 : decode cX7_forget 1 = .ok (.getfield 25, 3) := by decide +kernel
theorem dX7_forget_4 : decode cX7_forget 4 = .ok (.getfield 105, 3) := by decide +kernel
theorem dX7_forget_7 : decode cX7_forget 7 = .ok (.istore_n 1, 1) := by decide +kernel
theorem dX7_forget_8 : decode cX7_forget 8 = .ok (.aload_n 0, 1) := by decide +kernel
theorem dX7_forget_9 : decode cX7_forget 9 = .ok (.getfield 25, 3) := by decide +kernel
theorem dX7_forget_12 : decode cX7_forget 12 = .ok (.iconst 0, 1) := by decide +kernel
theorem dX7_forget_13 : decode cX7_forget 13 = .ok (.putfield 105, 3) := by decide +kernel
theorem dX7_forget_16 : decode cX7_forget 16 = .ok (.aload_n 0, 1) := by decide +kernel
theorem dX7_forget_17 : decode cX7_forget 17 = .ok (.getfield 28, 3) := by decide +kernel
theorem dX7_forget_20 : decode cX7_forget 20 = .ok (.iconst 0, 1) := by decide +kernel
theorem dX7_forget_21 : decode cX7_forget 21 = .ok (.putfield 105, 3) := by decide +kernel
theorem dX7_forget_24 : decode cX7_forget 24 = .ok (.iload_n 1, 1) := by decide +kernel
theorem dX7_forget_25 : decode cX7_forget 25 = .ok (.ireturn, 1) := by decide +kernel
theorem dX7_never_0 : decode cX7_never 0 = .ok (.aload_n 0, 1) := by decide +kernel
theorem dX7_never_1 : decode cX7_never 1 = .ok (.invokevirtual 125, 3) := by decide +kernel
theorem dX7_never_4 : decode cX7_never 4 = .ok (.iconst 0, 1) := by decide +kernel
theorem dX7_never_5 : decode cX7_never 5 = .ok (.istore_n 1, 1) := by decide +kernel
theorem dX7_never_6 : decode cX7_never 6 = .ok (.iconst 0, 1) := by decide +kernel
theorem dX7_never_7 : decode cX7_never 7 = .ok (.istore_n 2, 1) := by decide +kernel
theorem dX7_never_8 : decode cX7_never 8 = .ok (.iload_n 2, 1) := by decide +kernel
theorem dX7_never_9 : decode cX7_never 9 = .ok (.aload_n 0, 1) := by decide +kernel
theorem dX7_never_10 : decode cX7_never 10 = .ok (.getfield 18, 3) := by decide +kernel
theorem dX7_never_13 : decode cX7_never 13 = .ok (.getfield 105, 3) := by decide +kernel
theorem dX7_never_16 : decode cX7_never 16 = .ok (.if_icmp .ge 54, 3) := by decide +kernel
theorem dX7_never_19 : decode cX7_never 19 = .ok (.aload_n 0, 1) := by decide +kernel
theorem dX7_never_20 : decode cX7_never 20 = .ok (.getfield 73, 3) := by decide +kernel
theorem dX7_never_23 : decode cX7_never 23 = .ok (.aload_n 0, 1) := by decide +kernel
theorem dX7_never_24 : decode cX7_never 24 = .ok (.getfield 62, 3) := by decide +kernel
theorem dX7_never_27 : decode cX7_never 27 = .ok (.invokevirtual 224, 3) := by decide +kernel
theorem dX7_never_30 : decode cX7_never 30 = .ok (.aload_n 0, 1) := by decide +kernel
theorem dX7_never_31 : decode cX7_never 31 = .ok (.getfield 73, 3) := by decide +kernel
theorem dX7_never_34 : decode cX7_never 34 = .ok (.getfield 244, 3) := by decide +kernel
theorem dX7_never_37 : decode cX7_never 37 = .ok (.aload_n 0, 1) := by decide +kernel
theorem dX7_never_38 : decode cX7_never 38 = .ok (.getfield 18, 3) := by decide +kernel
theorem dX7_never_41 : decode cX7_never 41 = .ok (.getfield 246, 3) := by decide +kernel
theorem dX7_never_44 : decode cX7_never 44 = .ok (.iload_n 2, 1) := by decide +kernel
theorem dX7_never_45 : decode cX7_never 45 = .ok (.iaload, 1) := by decide +kernel
theorem dX7_never_46 : decode cX7_never 46 = .ok (.dup2, 1) := by decide +kernel
theorem dX7_never_47 : decode cX7_never 47 = .ok (.iaload, 1) := by decide +kernel
theorem dX7_never_48 : decode cX7_never 48 = .ok (.iconst 1, 1) := by decide +kernel
theorem dX7_never_49 : decode cX7_never 49 = .ok (.isub, 1) := by decide +kernel
theorem dX7_never_50 : decode cX7_never 50 = .ok (.iastore, 1) := by decide +kernel
theorem dX7_never_51 : decode cX7_never 51 = .ok (.aload_n 0, 1) := by decide +kernel
theorem dX7_never_52 : decode cX7_never 52 = .ok (.invokevirtual 247, 3) := by decide +kernel
theorem dX7_never_55 : decode cX7_never 55 = .ok (.ifCond .eq 9, 3) := by decide +kernel
theorem dX7_never_58 : decode cX7_never 58 = .ok (.iload_n 1, 1) := by decide +kernel
theorem dX7_never_59 : decode cX7_never 59 = .ok (.iconst 1, 1) := by decide +kernel
theorem dX7_never_60 : decode cX7_never 60 = .ok (.iload_n 2, 1) := by decide +kernel
theorem dX7_never_61 : decode cX7_never 61 = .ok (.ishl, 1) := by decide +kernel
theorem dX7_never_62 : decode cX7_never 62 = .ok (.ior, 1) := by decide +kernel
theorem dX7_never_63 : decode cX7_never 63 = .ok (.istore_n 1, 1) := by decide +kernel
theorem dX7_never_64 : decode cX7_never 64 = .ok (.iinc 2 1, 3) := by decide +kernel
theorem dX7_never_67 : decode cX7_never 67 = .ok (.goto (-59), 3) := by decide +kernel
theorem dX7_never_70 : decode cX7_never 70 = .ok (.iload_n 1, 1) := by decide +kernel
theorem dX7_never_71 : decode cX7_never 71 = .ok (.ireturn, 1) := by decide +kernel
theorem dX7_was_0 : decode cX7_was 0 = .ok (.iload_n 1, 1) := by decide +kernel
theorem dX7_was_1 : decode cX7_was 1 = .ok (.iconst 0, 1) := by decide +kernel
theorem dX7_was_2 : decode cX7_was 2 = .ok (.iconst 1, 1) := by decide +kernel
theorem dX7_was_3 : decode cX7_was 3 = .ok (.invokestatic 97, 3) := by decide +kernel
theorem dX7_was_6 : decode cX7_was 6 = .ok (.ifCond .ne 6, 3) := by decide +kernel
theorem dX7_was_9 : decode cX7_was 9 = .ok (.bipush (-2), 2) := by decide +kernel
theorem dX7_was_11 : decode cX7_was 11 = .ok (.ireturn, 1) := by decide +kernel
theorem dX7_was_12 : decode cX7_was 12 = .ok (.iload_n 1, 1) := by decide +kernel
theorem dX7_was_13 : decode cX7_was 13 = .ok (.ifCond .ne 7, 3) := by decide +kernel
theorem dX7_was_16 : decode cX7_was 16 = .ok (.iconst 1, 1) := by decide +kernel
theorem dX7_was_17 : decode cX7_was 17 = .ok (.goto 4, 3) := by decide +kernel
theorem dX7_was_20 : decode cX7_was 20 = .ok (.iconst 0, 1) := by decide +kernel
theorem dX7_was_21 : decode cX7_was 21 = .ok (.istore_n 2, 1) := by decide +kernel
theorem dX7_was_22 : decode cX7_was 22 = .ok (.aload_n 0, 1) := by decide +kernel
theorem dX7_was_23 : decode cX7_was 23 = .ok (.invokevirtual 125, 3) := by decide +kernel
theorem dX7_was_26 : decode cX7_was 26 = .ok (.aload_n 0, 1) := by decide +kernel
theorem dX7_was_27 : decode cX7_was 27 = .ok (.getfield 73, 3) := by decide +kernel
theorem dX7_was_30 : decode cX7_was 30 = .ok (.aload_n 0, 1) := by decide +kernel
theorem dX7_was_31 : decode cX7_was 31 = .ok (.getfield 62, 3) := by decide +kernel
theorem dX7_was_34 : decode cX7_was 34 = .ok (.invokevirtual 224, 3) := by decide +kernel
theorem dX7_was_37 : decode cX7_was 37 = .ok (.iconst 0, 1) := by decide +kernel
theorem dX7_was_38 : decode cX7_was 38 = .ok (.istore_n 3, 1) := by decide +kernel
theorem dX7_was_39 : decode cX7_was 39 = .ok (.getstatic 146, 3) := by decide +kernel
theorem dX7_was_42 : decode cX7_was 42 = .ok (.iload_n 2, 1) := by decide +kernel
theorem dX7_was_43 : decode cX7_was 43 = .ok (.iaload, 1) := by decide +kernel
theorem dX7_was_44 : decode cX7_was 44 = .ok (.istore 4, 2) := by decide +kernel
theorem dX7_was_46 : decode cX7_was 46 = .ok (.iload 4, 2) := by decide +kernel
theorem dX7_was_48 : decode cX7_was 48 = .ok (.getstatic 149, 3) := by decide +kernel
theorem dX7_was_51 : decode cX7_was 51 = .ok (.iload_n 2, 1) := by decide +kernel
theorem dX7_was_52 : decode cX7_was 52 = .ok (.iaload, 1) := by decide +kernel
theorem dX7_was_53 : decode cX7_was 53 = .ok (.if_icmp .gt 34, 3) := by decide +kernel
theorem dX7_was_56 : decode cX7_was 56 = .ok (.aload_n 0, 1) := by decide +kernel
theorem dX7_was_57 : decode cX7_was 57 = .ok (.getfield 73, 3) := by decide +kernel
theorem dX7_was_60 : decode cX7_was 60 = .ok (.getfield 236, 3) := by decide +kernel
theorem dX7_was_63 : decode cX7_was 63 = .ok (.iload_n 2, 1) := by decide +kernel
theorem dX7_was_64 : decode cX7_was 64 = .ok (.iload 4, 2) := by decide +kernel
theorem dX7_was_66 : decode cX7_was 66 = .ok (.iastore, 1) := by decide +kernel
theorem dX7_was_67 : decode cX7_was 67 = .ok (.aload_n 0, 1) := by decide +kernel
theorem dX7_was_68 : decode cX7_was 68 = .ok (.invokevirtual 247, 3) := by decide +kernel
theorem dX7_was_71 : decode cX7_was 71 = .ok (.ifCond .eq 10, 3) := by decide +kernel
theorem dX7_was_74 : decode cX7_was 74 = .ok (.iload_n 3, 1) := by decide +kernel
theorem dX7_was_75 : decode cX7_was 75 = .ok (.iconst 1, 1) := by decide +kernel
theorem dX7_was_76 : decode cX7_was 76 = .ok (.iload 4, 2) := by decide +kernel
theorem dX7_was_78 : decode cX7_was 78 = .ok (.ishl, 1) := by decide +kernel
theorem dX7_was_79 : decode cX7_was 79 = .ok (.ior, 1) := by decide +kernel
theorem dX7_was_80 : decode cX7_was 80 = .ok (.istore_n 3, 1) := by decide +kernel
theorem dX7_was_81 : decode cX7_was 81 = .ok (.iinc 4 1, 3) := by decide +kernel
theorem dX7_was_84 : decode cX7_was 84 = .ok (.goto (-38), 3) := by decide +kernel
theorem dX7_was_87 : decode cX7_was 87 = .ok (.iload_n 3, 1) := by decide +kernel
theorem dX7_was_88 : decode cX7_was 88 = .ok (.ireturn, 1) := by decide +kernel
theorem dX7_ask_0 : decode cX7_ask 0 = .ok (.aload_n 0, 1) := by decide +kernel
theorem dX7_ask_1 : decode cX7_ask 1 = .ok (.invokevirtual 125, 3) := by decide +kernel
theorem dX7_ask_4 : decode cX7_ask 4 = .ok (.aload_n 0, 1) := by decide +kernel
theorem dX7_ask_5 : decode cX7_ask 5 = .ok (.invokevirtual 250, 3) := by decide +kernel
theorem dX7_ask_8 : decode cX7_ask 8 = .ok (.iconst 0, 1) := by decide +kernel
theorem dX7_ask_9 : decode cX7_ask 9 = .ok (.istore_n 1, 1) := by decide +kernel
theorem dX7_ask_10 : decode cX7_ask 10 = .ok (.aload_n 0, 1) := by decide +kernel
theorem dX7_ask_11 : decode cX7_ask 11 = .ok (.iconst 0, 1) := by decide +kernel
theorem dX7_ask_12 : decode cX7_ask 12 = .ok (.invokevirtual 253, 3) := by decide +kernel
theorem dX7_ask_15 : decode cX7_ask 15 = .ok (.istore_n 2, 1) := by decide +kernel
theorem dX7_ask_16 : decode cX7_ask 16 = .ok (.iconst 1, 1) := by decide +kernel
theorem dX7_ask_17 : decode cX7_ask 17 = .ok (.istore_n 3, 1) := by decide +kernel
theorem dX7_ask_18 : decode cX7_ask 18 = .ok (.iload_n 3, 1) := by decide +kernel
theorem dX7_ask_19 : decode cX7_ask 19 = .ok (.bipush 40, 2) := by decide +kernel
theorem dX7_ask_21 : decode cX7_ask 21 = .ok (.if_icmp .ge 27, 3) := by decide +kernel
theorem dX7_ask_24 : decode cX7_ask 24 = .ok (.aload_n 0, 1) := by decide +kernel
theorem dX7_ask_25 : decode cX7_ask 25 = .ok (.iload_n 3, 1) := by decide +kernel
theorem dX7_ask_26 : decode cX7_ask 26 = .ok (.invokevirtual 253, 3) := by decide +kernel
theorem dX7_ask_29 : decode cX7_ask 29 = .ok (.istore 4, 2) := by decide +kernel
theorem dX7_ask_31 : decode cX7_ask 31 = .ok (.iload 4, 2) := by decide +kernel
theorem dX7_ask_33 : decode cX7_ask 33 = .ok (.iload_n 2, 1) := by decide +kernel
theorem dX7_ask_34 : decode cX7_ask 34 = .ok (.if_icmp .ge 8, 3) := by decide +kernel
theorem dX7_ask_37 : decode cX7_ask 37 = .ok (.iload_n 3, 1) := by decide +kernel
theorem dX7_ask_38 : decode cX7_ask 38 = .ok (.istore_n 1, 1) := by decide +kernel
theorem dX7_ask_39 : decode cX7_ask 39 = .ok (.iload 4, 2) := by decide +kernel
theorem dX7_ask_41 : decode cX7_ask 41 = .ok (.istore_n 2, 1) := by decide +kernel
theorem dX7_ask_42 : decode cX7_ask 42 = .ok (.iinc 3 1, 3) := by decide +kernel
theorem dX7_ask_45 : decode cX7_ask 45 = .ok (.goto (-27), 3) := by decide +kernel
theorem dX7_ask_48 : decode cX7_ask 48 = .ok (.iload_n 1, 1) := by decide +kernel
theorem dX7_ask_49 : decode cX7_ask 49 = .ok (.ireturn, 1) := by decide +kernel
theorem dX7_shower_0 : decode cX7_shower 0 = .ok (.iload_n 1, 1) := by decide +kernel
theorem dX7_shower_1 : decode cX7_shower 1 = .ok (.iconst 0, 1) := by decide +kernel
theorem dX7_shower_2 : decode cX7_shower 2 = .ok (.bipush 16, 2) := by decide +kernel
theorem dX7_shower_4 : decode cX7_shower 4 = .ok (.invokestatic 97, 3) := by decide +kernel
theorem dX7_shower_7 : decode cX7_shower 7 = .ok (.ifCond .eq 20, 3) := by decide +kernel
theorem dX7_shower_10 : decode cX7_shower 10 = .ok (.aload_n 0, 1) := by decide +kernel
theorem dX7_shower_11 : decode cX7_shower 11 = .ok (.iload_n 2, 1) := by decide +kernel
theorem dX7_shower_12 : decode cX7_shower 12 = .ok (.invokevirtual 131, 3) := by decide +kernel
theorem dX7_shower_15 : decode cX7_shower 15 = .ok (.ifCond .eq 12, 3) := by decide +kernel
theorem dX7_shower_18 : decode cX7_shower 18 = .ok (.iload_n 3, 1) := by decide +kernel
theorem dX7_shower_19 : decode cX7_shower 19 = .ok (.iconst 0, 1) := by decide +kernel
theorem dX7_shower_20 : decode cX7_shower 20 = .ok (.iconst 1, 1) := by decide +kernel
theorem dX7_shower_21 : decode cX7_shower 21 = .ok (.invokestatic 97, 3) := by decide +kernel
theorem dX7_shower_24 : decode cX7_shower 24 = .ok (.ifCond .ne 7, 3) := by decide +kernel
theorem dX7_shower_27 : decode cX7_shower 27 = .ok (.ldc2_w 256, 3) := by decide +kernel
theorem dX7_shower_30 : decode cX7_shower 30 = .ok (.lreturn, 1) := by decide +kernel
theorem dX7_shower_31 : decode cX7_shower 31 = .ok (.aload_n 0, 1) := by decide +kernel
theorem dX7_shower_32 : decode cX7_shower 32 = .ok (.getfield 93, 3) := by decide +kernel
theorem dX7_shower_35 : decode cX7_shower 35 = .ok (.iload_n 1, 1) := by decide +kernel
theorem dX7_shower_36 : decode cX7_shower 36 = .ok (.if_icmp .eq 13, 3) := by decide +kernel
theorem dX7_shower_39 : decode cX7_shower 39 = .ok (.aload_n 0, 1) := by decide +kernel
theorem dX7_shower_40 : decode cX7_shower 40 = .ok (.iload_n 1, 1) := by decide +kernel
theorem dX7_shower_41 : decode cX7_shower 41 = .ok (.invokevirtual 258, 3) := by decide +kernel
theorem dX7_shower_44 : decode cX7_shower 44 = .ok (.aload_n 0, 1) := by decide +kernel
theorem dX7_shower_45 : decode cX7_shower 45 = .ok (.iload_n 1, 1) := by decide +kernel
theorem dX7_shower_46 : decode cX7_shower 46 = .ok (.putfield 93, 3) := by decide +kernel
theorem dX7_shower_49 : decode cX7_shower 49 = .ok (.aload_n 0, 1) := by decide +kernel
theorem dX7_shower_50 : decode cX7_shower 50 = .ok (.getfield 86, 3) := by decide +kernel
theorem dX7_shower_53 : decode cX7_shower 53 = .ok (.iload_n 2, 1) := by decide +kernel
theorem dX7_shower_54 : decode cX7_shower 54 = .ok (.laload, 1) := by decide +kernel
theorem dX7_shower_55 : decode cX7_shower 55 = .ok (.lstore 4, 2) := by decide +kernel
theorem dX7_shower_57 : decode cX7_shower 57 = .ok (.bipush 16, 2) := by decide +kernel
theorem dX7_shower_59 : decode cX7_shower 59 = .ok (.aload_n 0, 1) := by decide +kernel
theorem dX7_shower_60 : decode cX7_shower 60 = .ok (.getfield 18, 3) := by decide +kernel
theorem dX7_shower_63 : decode cX7_shower 63 = .ok (.getfield 105, 3) := by decide +kernel
theorem dX7_shower_66 : decode cX7_shower 66 = .ok (.invokestatic 261, 3) := by decide +kernel
theorem dX7_shower_69 : decode cX7_shower 69 = .ok (.lstore 6, 2) := by decide +kernel
theorem dX7_shower_71 : decode cX7_shower 71 = .ok (.iconst 0, 1) := by decide +kernel
theorem dX7_shower_72 : decode cX7_shower 72 = .ok (.istore 8, 2) := by decide +kernel
theorem dX7_shower_74 : decode cX7_shower 74 = .ok (.iload 8, 2) := by decide +kernel
theorem dX7_shower_76 : decode cX7_shower 76 = .ok (.iconst 4, 1) := by decide +kernel
theorem dX7_shower_77 : decode cX7_shower 77 = .ok (.aload_n 0, 1) := by decide +kernel
theorem dX7_shower_78 : decode cX7_shower 78 = .ok (.getfield 18, 3) := by decide +kernel
theorem dX7_shower_81 : decode cX7_shower 81 = .ok (.getfield 105, 3) := by decide +kernel
theorem dX7_shower_84 : decode cX7_shower 84 = .ok (.imul, 1) := by decide +kernel
theorem dX7_shower_85 : decode cX7_shower 85 = .ok (.if_icmp .ge 36, 3) := by decide +kernel
theorem dX7_shower_88 : decode cX7_shower 88 = .ok (.lload 4, 2) := by decide +kernel
theorem dX7_shower_90 : decode cX7_shower 90 = .ok (.ldc2_w 265, 3) := by decide +kernel
theorem dX7_shower_93 : decode cX7_shower 93 = .ok (.lrem, 1) := by decide +kernel
theorem dX7_shower_94 : decode cX7_shower 94 = .ok (.lconst 0, 1) := by decide +kernel
theorem dX7_shower_95 : decode cX7_shower 95 = .ok (.lcmp, 1) := by decide +kernel
theorem dX7_shower_96 : decode cX7_shower 96 = .ok (.ifCond .ne 25, 3) := by decide +kernel
theorem dX7_shower_99 : decode cX7_shower 99 = .ok (.lload 4, 2) := by decide +kernel
theorem dX7_shower_101 : decode cX7_shower 101 = .ok (.ldc2_w 265, 3) := by decide +kernel
theorem dX7_shower_104 : decode cX7_shower 104 = .ok (.ldiv, 1) := by decide +kernel
theorem dX7_shower_105 : decode cX7_shower 105 = .ok (.lstore 4, 2) := by decide +kernel
theorem dX7_shower_107 : decode cX7_shower 107 = .ok (.lload 6, 2) := by decide +kernel
theorem dX7_shower_109 : decode cX7_shower 109 = .ok (.ldc2_w 265, 3) := by decide +kernel
theorem dX7_shower_112 : decode cX7_shower 112 = .ok (.ldiv, 1) := by decide +kernel
theorem dX7_shower_113 : decode cX7_shower 113 = .ok (.lstore 6, 2) := by decide +kernel
theorem dX7_shower_115 : decode cX7_shower 115 = .ok (.iinc 8 1, 3) := by decide +kernel
theorem dX7_shower_118 : decode cX7_shower 118 = .ok (.goto (-44), 3) := by decide +kernel
theorem dX7_shower_121 : decode cX7_shower 121 = .ok (.iload_n 3, 1) := by decide +kernel
theorem dX7_shower_122 : decode cX7_shower 122 = .ok (.ifCond .ne 8, 3) := by decide +kernel
theorem dX7_shower_125 : decode cX7_shower 125 = .ok (.lload 4, 2) := by decide +kernel
theorem dX7_shower_127 : decode cX7_shower 127 = .ok (.goto 5, 3) := by decide +kernel
theorem dX7_shower_130 : decode cX7_shower 130 = .ok (.lload 6, 2) := by decide +kernel
theorem dX7_shower_132 : decode cX7_shower 132 = .ok (.lreturn, 1) := by decide +kernel
theorem dX7_moon_0 : decode cX7_moon 0 = .ok (.iload_n 2, 1) := by decide +kernel
theorem dX7_moon_1 : decode cX7_moon 1 = .ok (.iconst 0, 1) := by decide +kernel
theorem dX7_moon_2 : decode cX7_moon 2 = .ok (.bipush 40, 2) := by decide +kernel
theorem dX7_moon_4 : decode cX7_moon 4 = .ok (.invokestatic 97, 3) := by decide +kernel
theorem dX7_moon_7 : decode cX7_moon 7 = .ok (.ifCond .eq 12, 3) := by decide +kernel
theorem dX7_moon_10 : decode cX7_moon 10 = .ok (.iload_n 3, 1) := by decide +kernel
theorem dX7_moon_11 : decode cX7_moon 11 = .ok (.iconst 0, 1) := by decide +kernel
theorem dX7_moon_12 : decode cX7_moon 12 = .ok (.iconst 1, 1) := by decide +kernel
theorem dX7_moon_13 : decode cX7_moon 13 = .ok (.invokestatic 97, 3) := by decide +kernel
theorem dX7_moon_16 : decode cX7_moon 16 = .ok (.ifCond .ne 6, 3) := by decide +kernel
theorem dX7_moon_19 : decode cX7_moon 19 = .ok (.bipush (-2), 2) := by decide +kernel
theorem dX7_moon_21 : decode cX7_moon 21 = .ok (.ireturn, 1) := by decide +kernel
theorem dX7_moon_22 : decode cX7_moon 22 = .ok (.aload_n 0, 1) := by decide +kernel
theorem dX7_moon_23 : decode cX7_moon 23 = .ok (.invokevirtual 125, 3) := by decide +kernel
theorem dX7_moon_26 : decode cX7_moon 26 = .ok (.aload_n 0, 1) := by decide +kernel
theorem dX7_moon_27 : decode cX7_moon 27 = .ok (.getfield 73, 3) := by decide +kernel
theorem dX7_moon_30 : decode cX7_moon 30 = .ok (.aload_n 0, 1) := by decide +kernel
theorem dX7_moon_31 : decode cX7_moon 31 = .ok (.getfield 62, 3) := by decide +kernel
theorem dX7_moon_34 : decode cX7_moon 34 = .ok (.invokevirtual 224, 3) := by decide +kernel
theorem dX7_moon_37 : decode cX7_moon 37 = .ok (.iload_n 1, 1) := by decide +kernel
theorem dX7_moon_38 : decode cX7_moon 38 = .ok (.istore 4, 2) := by decide +kernel
theorem dX7_moon_40 : decode cX7_moon 40 = .ok (.iconst 0, 1) := by decide +kernel
theorem dX7_moon_41 : decode cX7_moon 41 = .ok (.istore 5, 2) := by decide +kernel
theorem dX7_moon_43 : decode cX7_moon 43 = .ok (.iload 5, 2) := by decide +kernel
theorem dX7_moon_45 : decode cX7_moon 45 = .ok (.bipush 40, 2) := by decide +kernel
theorem dX7_moon_47 : decode cX7_moon 47 = .ok (.if_icmp .ge 51, 3) := by decide +kernel
theorem dX7_moon_50 : decode cX7_moon 50 = .ok (.ldc_w 267, 3) := by decide +kernel
theorem dX7_moon_53 : decode cX7_moon 53 = .ok (.iload 4, 2) := by decide +kernel
theorem dX7_moon_55 : decode cX7_moon 55 = .ok (.imul, 1) := by decide +kernel
theorem dX7_moon_56 : decode cX7_moon 56 = .ok (.sipush 12345, 3) := by decide +kernel
theorem dX7_moon_59 : decode cX7_moon 59 = .ok (.iadd, 1) := by decide +kernel
theorem dX7_moon_60 : decode cX7_moon 60 = .ok (.istore 4, 2) := by decide +kernel
theorem dX7_moon_62 : decode cX7_moon 62 = .ok (.aload_n 0, 1) := by decide +kernel
theorem dX7_moon_63 : decode cX7_moon 63 = .ok (.getfield 73, 3) := by decide +kernel
theorem dX7_moon_66 : decode cX7_moon 66 = .ok (.getfield 128, 3) := by decide +kernel
theorem dX7_moon_69 : decode cX7_moon 69 = .ok (.iload 5, 2) := by decide +kernel
theorem dX7_moon_71 : decode cX7_moon 71 = .ok (.iload 5, 2) := by decide +kernel
theorem dX7_moon_73 : decode cX7_moon 73 = .ok (.iload_n 2, 1) := by decide +kernel
theorem dX7_moon_74 : decode cX7_moon 74 = .ok (.if_icmp .ge 16, 3) := by decide +kernel
theorem dX7_moon_77 : decode cX7_moon 77 = .ok (.iconst 2, 1) := by decide +kernel
theorem dX7_moon_78 : decode cX7_moon 78 = .ok (.iload 4, 2) := by decide +kernel
theorem dX7_moon_80 : decode cX7_moon 80 = .ok (.bipush 16, 2) := by decide +kernel
theorem dX7_moon_82 : decode cX7_moon 82 = .ok (.iushr, 1) := by decide +kernel
theorem dX7_moon_83 : decode cX7_moon 83 = .ok (.bipush 10, 2) := by decide +kernel
theorem dX7_moon_85 : decode cX7_moon 85 = .ok (.irem, 1) := by decide +kernel
theorem dX7_moon_86 : decode cX7_moon 86 = .ok (.imul, 1) := by decide +kernel
theorem dX7_moon_87 : decode cX7_moon 87 = .ok (.goto 4, 3) := by decide +kernel
theorem dX7_moon_90 : decode cX7_moon 90 = .ok (.iconst 0, 1) := by decide +kernel
theorem dX7_moon_91 : decode cX7_moon 91 = .ok (.iastore, 1) := by decide +kernel
theorem dX7_moon_92 : decode cX7_moon 92 = .ok (.iinc 5 1, 3) := by decide +kernel
theorem dX7_moon_95 : decode cX7_moon 95 = .ok (.goto (-52), 3) := by decide +kernel
theorem dX7_moon_98 : decode cX7_moon 98 = .ok (.aload_n 0, 1) := by decide +kernel
theorem dX7_moon_99 : decode cX7_moon 99 = .ok (.getfield 76, 3) := by decide +kernel
theorem dX7_moon_102 : decode cX7_moon 102 = .ok (.aload_n 0, 1) := by decide +kernel
theorem dX7_moon_103 : decode cX7_moon 103 = .ok (.getfield 73, 3) := by decide +kernel
theorem dX7_moon_106 : decode cX7_moon 106 = .ok (.invokevirtual 229, 3) := by decide +kernel
theorem dX7_moon_109 : decode cX7_moon 109 = .ok (.iload_n 3, 1) := by decide +kernel
theorem dX7_moon_110 : decode cX7_moon 110 = .ok (.ifCond .ne 13, 3) := by decide +kernel
theorem dX7_moon_113 : decode cX7_moon 113 = .ok (.aload_n 0, 1) := by decide +kernel
theorem dX7_moon_114 : decode cX7_moon 114 = .ok (.getfield 76, 3) := by decide +kernel
theorem dX7_moon_117 : decode cX7_moon 117 = .ok (.invokevirtual 232, 3) := by decide +kernel
theorem dX7_moon_120 : decode cX7_moon 120 = .ok (.goto 14, 3) := by decide +kernel
theorem dX7_moon_123 : decode cX7_moon 123 = .ok (.aload_n 0, 1) := by decide +kernel
theorem dX7_moon_124 : decode cX7_moon 124 = .ok (.getfield 76, 3) := by decide +kernel
theorem dX7_moon_127 : decode cX7_moon 127 = .ok (.aload_n 0, 1) := by decide +kernel
theorem dX7_moon_128 : decode cX7_moon 128 = .ok (.getfield 41, 3) := by decide +kernel
theorem dX7_moon_131 : decode cX7_moon 131 = .ok (.invokevirtual 189, 3) := by decide +kernel
theorem dX7_moon_134 : decode cX7_moon 134 = .ok (.ireturn, 1) := by decide +kernel
theorem dX7_sheet_0 : decode cX7_sheet 0 = .ok (.iload_n 1, 1) := by decide +kernel
theorem dX7_sheet_1 : decode cX7_sheet 1 = .ok (.invokestatic 152, 3) := by decide +kernel
theorem dX7_sheet_4 : decode cX7_sheet 4 = .ok (.ifCond .eq 16, 3) := by decide +kernel
theorem dX7_sheet_7 : decode cX7_sheet 7 = .ok (.iload_n 2, 1) := by decide +kernel
theorem dX7_sheet_8 : decode cX7_sheet 8 = .ok (.invokestatic 268, 3) := by decide +kernel
theorem dX7_sheet_11 : decode cX7_sheet 11 = .ok (.ifCond .eq 9, 3) := by decide +kernel
theorem dX7_sheet_14 : decode cX7_sheet 14 = .ok (.iload_n 3, 1) := by decide +kernel
theorem dX7_sheet_15 : decode cX7_sheet 15 = .ok (.bipush 60, 2) := by decide +kernel
theorem dX7_sheet_17 : decode cX7_sheet 17 = .ok (.if_icmp .le 6, 3) := by decide +kernel
theorem dX7_sheet_20 : decode cX7_sheet 20 = .ok (.bipush (-2), 2) := by decide +kernel
theorem dX7_sheet_22 : decode cX7_sheet 22 = .ok (.ireturn, 1) := by decide +kernel
theorem dX7_sheet_23 : decode cX7_sheet 23 = .ok (.iload_n 3, 1) := by decide +kernel
theorem dX7_sheet_24 : decode cX7_sheet 24 = .ok (.ifCond .ge 9, 3) := by decide +kernel
theorem dX7_sheet_27 : decode cX7_sheet 27 = .ok (.aload_n 0, 1) := by decide +kernel
theorem dX7_sheet_28 : decode cX7_sheet 28 = .ok (.iconst 5, 1) := by decide +kernel
theorem dX7_sheet_29 : decode cX7_sheet 29 = .ok (.invokevirtual 159, 3) := by decide +kernel
theorem dX7_sheet_32 : decode cX7_sheet 32 = .ok (.ireturn, 1) := by decide +kernel
theorem dX7_sheet_33 : decode cX7_sheet 33 = .ok (.aload_n 0, 1) := by decide +kernel
theorem dX7_sheet_34 : decode cX7_sheet 34 = .ok (.getfield 34, 3) := by decide +kernel
theorem dX7_sheet_37 : decode cX7_sheet 37 = .ok (.iload_n 1, 1) := by decide +kernel
theorem dX7_sheet_38 : decode cX7_sheet 38 = .ok (.aaload, 1) := by decide +kernel
theorem dX7_sheet_39 : decode cX7_sheet 39 = .ok (.iload_n 2, 1) := by decide +kernel
theorem dX7_sheet_40 : decode cX7_sheet 40 = .ok (.iload_n 3, 1) := by decide +kernel
theorem dX7_sheet_41 : decode cX7_sheet 41 = .ok (.invokevirtual 271, 3) := by decide +kernel
theorem dX7_sheet_44 : decode cX7_sheet 44 = .ok (.iload_n 3, 1) := by decide +kernel
theorem dX7_sheet_45 : decode cX7_sheet 45 = .ok (.ireturn, 1) := by decide +kernel
theorem dX7_lose_0 : decode cX7_lose 0 = .ok (.iload_n 1, 1) := by decide +kernel
theorem dX7_lose_1 : decode cX7_lose 1 = .ok (.invokestatic 152, 3) := by decide +kernel
theorem dX7_lose_4 : decode cX7_lose 4 = .ok (.ifCond .ne 6, 3) := by decide +kernel
theorem dX7_lose_7 : decode cX7_lose 7 = .ok (.bipush (-2), 2) := by decide +kernel
theorem dX7_lose_9 : decode cX7_lose 9 = .ok (.ireturn, 1) := by decide +kernel
theorem dX7_lose_10 : decode cX7_lose 10 = .ok (.aload_n 0, 1) := by decide +kernel
theorem dX7_lose_11 : decode cX7_lose 11 = .ok (.getfield 34, 3) := by decide +kernel
theorem dX7_lose_14 : decode cX7_lose 14 = .ok (.iload_n 1, 1) := by decide +kernel
theorem dX7_lose_15 : decode cX7_lose 15 = .ok (.aaload, 1) := by decide +kernel
theorem dX7_lose_16 : decode cX7_lose 16 = .ok (.astore_n 2, 1) := by decide +kernel
theorem dX7_lose_17 : decode cX7_lose 17 = .ok (.aload_n 2, 1) := by decide +kernel
theorem dX7_lose_18 : decode cX7_lose 18 = .ok (.invokevirtual 155, 3) := by decide +kernel
