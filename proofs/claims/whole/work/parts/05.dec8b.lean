theorem dX8_grinds_36 : decode cX8_grinds 36 = .ok (.iadd, 1) := by decide +kernel
theorem dX8_grinds_37 : decode cX8_grinds 37 = .ok (.istore_n 3, 1) := by decide +kernel
theorem dX8_grinds_38 : decode cX8_grinds 38 = .ok (.aload_n 0, 1) := by decide +kernel
theorem dX8_grinds_39 : decode cX8_grinds 39 = .ok (.getfield 52, 3) := by decide +kernel
theorem dX8_grinds_42 : decode cX8_grinds 42 = .ok (.iload_n 1, 1) := by decide +kernel
theorem dX8_grinds_43 : decode cX8_grinds 43 = .ok (.iload_n 2, 1) := by decide +kernel
theorem dX8_grinds_44 : decode cX8_grinds 44 = .ok (.iastore, 1) := by decide +kernel
theorem dX8_grinds_45 : decode cX8_grinds 45 = .ok (.aload_n 0, 1) := by decide +kernel
theorem dX8_grinds_46 : decode cX8_grinds 46 = .ok (.getfield 176, 3) := by decide +kernel
theorem dX8_grinds_49 : decode cX8_grinds 49 = .ok (.aload_n 0, 1) := by decide +kernel
theorem dX8_grinds_50 : decode cX8_grinds 50 = .ok (.getfield 40, 3) := by decide +kernel
theorem dX8_grinds_53 : decode cX8_grinds 53 = .ok (.iload_n 1, 1) := by decide +kernel
theorem dX8_grinds_54 : decode cX8_grinds 54 = .ok (.iaload, 1) := by decide +kernel
theorem dX8_grinds_55 : decode cX8_grinds 55 = .ok (.isub, 1) := by decide +kernel
theorem dX8_grinds_56 : decode cX8_grinds 56 = .ok (.iload_n 3, 1) := by decide +kernel
theorem dX8_grinds_57 : decode cX8_grinds 57 = .ok (.if_icmp .ge 21, 3) := by decide +kernel
theorem dX8_grinds_60 : decode cX8_grinds 60 = .ok (.aload_n 0, 1) := by decide +kernel
theorem dX8_grinds_61 : decode cX8_grinds 61 = .ok (.getfield 55, 3) := by decide +kernel
theorem dX8_grinds_64 : decode cX8_grinds 64 = .ok (.iload_n 1, 1) := by decide +kernel
theorem dX8_grinds_65 : decode cX8_grinds 65 = .ok (.iconst 1, 1) := by decide +kernel
theorem dX8_grinds_66 : decode cX8_grinds 66 = .ok (.iastore, 1) := by decide +kernel
theorem dX8_grinds_67 : decode cX8_grinds 67 = .ok (.aload_n 0, 1) := by decide +kernel
theorem dX8_grinds_68 : decode cX8_grinds 68 = .ok (.dup, 1) := by decide +kernel
theorem dX8_grinds_69 : decode cX8_grinds 69 = .ok (.getfield 191, 3) := by decide +kernel
theorem dX8_grinds_72 : decode cX8_grinds 72 = .ok (.iconst 1, 1) := by decide +kernel
theorem dX8_grinds_73 : decode cX8_grinds 73 = .ok (.iadd, 1) := by decide +kernel
theorem dX8_grinds_74 : decode cX8_grinds 74 = .ok (.putfield 191, 3) := by decide +kernel
theorem dX8_grinds_77 : decode cX8_grinds 77 = .ok (.return_, 1) := by decide +kernel
theorem dX8_grinds_78 : decode cX8_grinds 78 = .ok (.iconst 3, 1) := by decide +kernel
theorem dX8_grinds_79 : decode cX8_grinds 79 = .ok (.aload_n 0, 1) := by decide +kernel
theorem dX8_grinds_80 : decode cX8_grinds 80 = .ok (.getfield 19, 3) := by decide +kernel
theorem dX8_grinds_83 : decode cX8_grinds 83 = .ok (.iload_n 2, 1) := by decide +kernel
theorem dX8_grinds_84 : decode cX8_grinds 84 = .ok (.iaload, 1) := by decide +kernel
theorem dX8_grinds_85 : decode cX8_grinds 85 = .ok (.isub, 1) := by decide +kernel
theorem dX8_grinds_86 : decode cX8_grinds 86 = .ok (.istore 4, 2) := by decide +kernel
theorem dX8_grinds_88 : decode cX8_grinds 88 = .ok (.aload_n 0, 1) := by decide +kernel
theorem dX8_grinds_89 : decode cX8_grinds 89 = .ok (.aload_n 0, 1) := by decide +kernel
theorem dX8_grinds_90 : decode cX8_grinds 90 = .ok (.getfield 176, 3) := by decide +kernel
theorem dX8_grinds_93 : decode cX8_grinds 93 = .ok (.iload 4, 2) := by decide +kernel
theorem dX8_grinds_95 : decode cX8_grinds 95 = .ok (.if_icmp .le 13, 3) := by decide +kernel
theorem dX8_grinds_98 : decode cX8_grinds 98 = .ok (.aload_n 0, 1) := by decide +kernel
theorem dX8_grinds_99 : decode cX8_grinds 99 = .ok (.getfield 176, 3) := by decide +kernel
theorem dX8_grinds_102 : decode cX8_grinds 102 = .ok (.iload 4, 2) := by decide +kernel
theorem dX8_grinds_104 : decode cX8_grinds 104 = .ok (.isub, 1) := by decide +kernel
theorem dX8_grinds_105 : decode cX8_grinds 105 = .ok (.goto 4, 3) := by decide +kernel
theorem dX8_grinds_108 : decode cX8_grinds 108 = .ok (.iconst 0, 1) := by decide +kernel
theorem dX8_grinds_109 : decode cX8_grinds 109 = .ok (.putfield 176, 3) := by decide +kernel
theorem dX8_grinds_112 : decode cX8_grinds 112 = .ok (.aload_n 0, 1) := by decide +kernel
theorem dX8_grinds_113 : decode cX8_grinds 113 = .ok (.dup, 1) := by decide +kernel
theorem dX8_grinds_114 : decode cX8_grinds 114 = .ok (.getfield 188, 3) := by decide +kernel
theorem dX8_grinds_117 : decode cX8_grinds 117 = .ok (.iconst 1, 1) := by decide +kernel
theorem dX8_grinds_118 : decode cX8_grinds 118 = .ok (.iadd, 1) := by decide +kernel
theorem dX8_grinds_119 : decode cX8_grinds 119 = .ok (.putfield 188, 3) := by decide +kernel
theorem dX8_grinds_122 : decode cX8_grinds 122 = .ok (.aload_n 0, 1) := by decide +kernel
theorem dX8_grinds_123 : decode cX8_grinds 123 = .ok (.dup, 1) := by decide +kernel
theorem dX8_grinds_124 : decode cX8_grinds 124 = .ok (.getfield 194, 3) := by decide +kernel
theorem dX8_grinds_127 : decode cX8_grinds 127 = .ok (.iconst 1, 1) := by decide +kernel
theorem dX8_grinds_128 : decode cX8_grinds 128 = .ok (.iadd, 1) := by decide +kernel
theorem dX8_grinds_129 : decode cX8_grinds 129 = .ok (.putfield 194, 3) := by decide +kernel
theorem dX8_grinds_132 : decode cX8_grinds 132 = .ok (.aload_n 0, 1) := by decide +kernel
theorem dX8_grinds_133 : decode cX8_grinds 133 = .ok (.dup, 1) := by decide +kernel
theorem dX8_grinds_134 : decode cX8_grinds 134 = .ok (.getfield 197, 3) := by decide +kernel
theorem dX8_grinds_137 : decode cX8_grinds 137 = .ok (.iconst 1, 1) := by decide +kernel
theorem dX8_grinds_138 : decode cX8_grinds 138 = .ok (.isub, 1) := by decide +kernel
theorem dX8_grinds_139 : decode cX8_grinds 139 = .ok (.putfield 197, 3) := by decide +kernel
theorem dX8_grinds_142 : decode cX8_grinds 142 = .ok (.aload_n 0, 1) := by decide +kernel
theorem dX8_grinds_143 : decode cX8_grinds 143 = .ok (.getfield 197, 3) := by decide +kernel
theorem dX8_grinds_146 : decode cX8_grinds 146 = .ok (.ifCond .ne 53, 3) := by decide +kernel
theorem dX8_grinds_149 : decode cX8_grinds 149 = .ok (.aload_n 0, 1) := by decide +kernel
theorem dX8_grinds_150 : decode cX8_grinds 150 = .ok (.getfield 61, 3) := by decide +kernel
theorem dX8_grinds_153 : decode cX8_grinds 153 = .ok (.iload_n 2, 1) := by decide +kernel
theorem dX8_grinds_154 : decode cX8_grinds 154 = .ok (.iload_n 1, 1) := by decide +kernel
theorem dX8_grinds_155 : decode cX8_grinds 155 = .ok (.iastore, 1) := by decide +kernel
theorem dX8_grinds_156 : decode cX8_grinds 156 = .ok (.aload_n 0, 1) := by decide +kernel
theorem dX8_grinds_157 : decode cX8_grinds 157 = .ok (.dup, 1) := by decide +kernel
theorem dX8_grinds_158 : decode cX8_grinds 158 = .ok (.getfield 185, 3) := by decide +kernel
theorem dX8_grinds_161 : decode cX8_grinds 161 = .ok (.iconst 1, 1) := by decide +kernel
theorem dX8_grinds_162 : decode cX8_grinds 162 = .ok (.iadd, 1) := by decide +kernel
theorem dX8_grinds_163 : decode cX8_grinds 163 = .ok (.putfield 185, 3) := by decide +kernel
theorem dX8_grinds_166 : decode cX8_grinds 166 = .ok (.aload_n 0, 1) := by decide +kernel
theorem dX8_grinds_167 : decode cX8_grinds 167 = .ok (.aload_n 0, 1) := by decide +kernel
theorem dX8_grinds_168 : decode cX8_grinds 168 = .ok (.getfield 185, 3) := by decide +kernel
theorem dX8_grinds_171 : decode cX8_grinds 171 = .ok (.aload_n 0, 1) := by decide +kernel
theorem dX8_grinds_172 : decode cX8_grinds 172 = .ok (.getfield 167, 3) := by decide +kernel
theorem dX8_grinds_175 : decode cX8_grinds 175 = .ok (.if_icmp .ge 20, 3) := by decide +kernel
theorem dX8_grinds_178 : decode cX8_grinds 178 = .ok (.aload_n 0, 1) := by decide +kernel
theorem dX8_grinds_179 : decode cX8_grinds 179 = .ok (.getfield 22, 3) := by decide +kernel
theorem dX8_grinds_182 : decode cX8_grinds 182 = .ok (.aload_n 0, 1) := by decide +kernel
theorem dX8_grinds_183 : decode cX8_grinds 183 = .ok (.getfield 43, 3) := by decide +kernel
theorem dX8_grinds_186 : decode cX8_grinds 186 = .ok (.aload_n 0, 1) := by decide +kernel
theorem dX8_grinds_187 : decode cX8_grinds 187 = .ok (.getfield 185, 3) := by decide +kernel
theorem dX8_grinds_190 : decode cX8_grinds 190 = .ok (.iaload, 1) := by decide +kernel
theorem dX8_grinds_191 : decode cX8_grinds 191 = .ok (.iaload, 1) := by decide +kernel
theorem dX8_grinds_192 : decode cX8_grinds 192 = .ok (.goto 4, 3) := by decide +kernel
theorem dX8_grinds_195 : decode cX8_grinds 195 = .ok (.iconst 0, 1) := by decide +kernel
theorem dX8_grinds_196 : decode cX8_grinds 196 = .ok (.putfield 197, 3) := by decide +kernel
theorem dX8_grinds_199 : decode cX8_grinds 199 = .ok (.return_, 1) := by decide +kernel
theorem dX8_goesBy_0 : decode cX8_goesBy 0 = .ok (.aload_n 0, 1) := by decide +kernel
theorem dX8_goesBy_1 : decode cX8_goesBy 1 = .ok (.iload_n 1, 1) := by decide +kernel
theorem dX8_goesBy_2 : decode cX8_goesBy 2 = .ok (.invokevirtual 200, 3) := by decide +kernel
theorem dX8_goesBy_5 : decode cX8_goesBy 5 = .ok (.aload_n 0, 1) := by decide +kernel
theorem dX8_goesBy_6 : decode cX8_goesBy 6 = .ok (.getfield 52, 3) := by decide +kernel
theorem dX8_goesBy_9 : decode cX8_goesBy 9 = .ok (.iload_n 1, 1) := by decide +kernel
theorem dX8_goesBy_10 : decode cX8_goesBy 10 = .ok (.iconst (-1), 1) := by decide +kernel
theorem dX8_goesBy_11 : decode cX8_goesBy 11 = .ok (.iastore, 1) := by decide +kernel
theorem dX8_goesBy_12 : decode cX8_goesBy 12 = .ok (.aload_n 0, 1) := by decide +kernel
theorem dX8_goesBy_13 : decode cX8_goesBy 13 = .ok (.getfield 55, 3) := by decide +kernel
theorem dX8_goesBy_16 : decode cX8_goesBy 16 = .ok (.iload_n 1, 1) := by decide +kernel
theorem dX8_goesBy_17 : decode cX8_goesBy 17 = .ok (.iconst 0, 1) := by decide +kernel
theorem dX8_goesBy_18 : decode cX8_goesBy 18 = .ok (.iastore, 1) := by decide +kernel
theorem dX8_goesBy_19 : decode cX8_goesBy 19 = .ok (.aload_n 0, 1) := by decide +kernel
theorem dX8_goesBy_20 : decode cX8_goesBy 20 = .ok (.iload_n 1, 1) := by decide +kernel
theorem dX8_goesBy_21 : decode cX8_goesBy 21 = .ok (.invokevirtual 204, 3) := by decide +kernel
theorem dX8_goesBy_24 : decode cX8_goesBy 24 = .ok (.ifCond .eq 11, 3) := by decide +kernel
theorem dX8_goesBy_27 : decode cX8_goesBy 27 = .ok (.aload_n 0, 1) := by decide +kernel
theorem dX8_goesBy_28 : decode cX8_goesBy 28 = .ok (.iconst 0, 1) := by decide +kernel
theorem dX8_goesBy_29 : decode cX8_goesBy 29 = .ok (.putfield 188, 3) := by decide +kernel
theorem dX8_goesBy_32 : decode cX8_goesBy 32 = .ok (.goto 19, 3) := by decide +kernel
theorem dX8_goesBy_35 : decode cX8_goesBy 35 = .ok (.aload_n 0, 1) := by decide +kernel
theorem dX8_goesBy_36 : decode cX8_goesBy 36 = .ok (.getfield 185, 3) := by decide +kernel
theorem dX8_goesBy_39 : decode cX8_goesBy 39 = .ok (.aload_n 0, 1) := by decide +kernel
theorem dX8_goesBy_40 : decode cX8_goesBy 40 = .ok (.getfield 167, 3) := by decide +kernel
theorem dX8_goesBy_43 : decode cX8_goesBy 43 = .ok (.if_icmp .ge 8, 3) := by decide +kernel
theorem dX8_goesBy_46 : decode cX8_goesBy 46 = .ok (.aload_n 0, 1) := by decide +kernel
theorem dX8_goesBy_47 : decode cX8_goesBy 47 = .ok (.iload_n 1, 1) := by decide +kernel
theorem dX8_goesBy_48 : decode cX8_goesBy 48 = .ok (.invokevirtual 207, 3) := by decide +kernel
theorem dX8_goesBy_51 : decode cX8_goesBy 51 = .ok (.aload_n 0, 1) := by decide +kernel
theorem dX8_goesBy_52 : decode cX8_goesBy 52 = .ok (.getfield 46, 3) := by decide +kernel
theorem dX8_goesBy_55 : decode cX8_goesBy 55 = .ok (.iload_n 1, 1) := by decide +kernel
theorem dX8_goesBy_56 : decode cX8_goesBy 56 = .ok (.aload_n 0, 1) := by decide +kernel
theorem dX8_goesBy_57 : decode cX8_goesBy 57 = .ok (.getfield 176, 3) := by decide +kernel
theorem dX8_goesBy_60 : decode cX8_goesBy 60 = .ok (.iastore, 1) := by decide +kernel
theorem dX8_goesBy_61 : decode cX8_goesBy 61 = .ok (.aload_n 0, 1) := by decide +kernel
theorem dX8_goesBy_62 : decode cX8_goesBy 62 = .ok (.getfield 49, 3) := by decide +kernel
theorem dX8_goesBy_65 : decode cX8_goesBy 65 = .ok (.iload_n 1, 1) := by decide +kernel
theorem dX8_goesBy_66 : decode cX8_goesBy 66 = .ok (.aload_n 0, 1) := by decide +kernel
theorem dX8_goesBy_67 : decode cX8_goesBy 67 = .ok (.getfield 194, 3) := by decide +kernel
theorem dX8_goesBy_70 : decode cX8_goesBy 70 = .ok (.iastore, 1) := by decide +kernel
theorem dX8_goesBy_71 : decode cX8_goesBy 71 = .ok (.aload_n 0, 1) := by decide +kernel
theorem dX8_goesBy_72 : decode cX8_goesBy 72 = .ok (.getfield 58, 3) := by decide +kernel
theorem dX8_goesBy_75 : decode cX8_goesBy 75 = .ok (.iload_n 1, 1) := by decide +kernel
theorem dX8_goesBy_76 : decode cX8_goesBy 76 = .ok (.aload_n 0, 1) := by decide +kernel
theorem dX8_goesBy_77 : decode cX8_goesBy 77 = .ok (.getfield 188, 3) := by decide +kernel
theorem dX8_goesBy_80 : decode cX8_goesBy 80 = .ok (.aload_n 0, 1) := by decide +kernel
theorem dX8_goesBy_81 : decode cX8_goesBy 81 = .ok (.getfield 31, 3) := by decide +kernel
theorem dX8_goesBy_84 : decode cX8_goesBy 84 = .ok (.iconst 4, 1) := by decide +kernel
theorem dX8_goesBy_85 : decode cX8_goesBy 85 = .ok (.iaload, 1) := by decide +kernel
theorem dX8_goesBy_86 : decode cX8_goesBy 86 = .ok (.idiv, 1) := by decide +kernel
theorem dX8_goesBy_87 : decode cX8_goesBy 87 = .ok (.iastore, 1) := by decide +kernel
theorem dX8_goesBy_88 : decode cX8_goesBy 88 = .ok (.return_, 1) := by decide +kernel
theorem dX8_runs_0 : decode cX8_runs 0 = .ok (.aload_n 0, 1) := by decide +kernel
theorem dX8_runs_1 : decode cX8_runs 1 = .ok (.aload_n 0, 1) := by decide +kernel
theorem dX8_runs_2 : decode cX8_runs 2 = .ok (.getfield 170, 3) := by decide +kernel
theorem dX8_runs_5 : decode cX8_runs 5 = .ok (.putfield 176, 3) := by decide +kernel
theorem dX8_runs_8 : decode cX8_runs 8 = .ok (.aload_n 0, 1) := by decide +kernel
theorem dX8_runs_9 : decode cX8_runs 9 = .ok (.iconst 0, 1) := by decide +kernel
theorem dX8_runs_10 : decode cX8_runs 10 = .ok (.putfield 188, 3) := by decide +kernel
theorem dX8_runs_13 : decode cX8_runs 13 = .ok (.aload_n 0, 1) := by decide +kernel
theorem dX8_runs_14 : decode cX8_runs 14 = .ok (.iconst 0, 1) := by decide +kernel
theorem dX8_runs_15 : decode cX8_runs 15 = .ok (.putfield 194, 3) := by decide +kernel
theorem dX8_runs_18 : decode cX8_runs 18 = .ok (.aload_n 0, 1) := by decide +kernel
theorem dX8_runs_19 : decode cX8_runs 19 = .ok (.iconst 0, 1) := by decide +kernel
theorem dX8_runs_20 : decode cX8_runs 20 = .ok (.putfield 182, 3) := by decide +kernel
theorem dX8_runs_23 : decode cX8_runs 23 = .ok (.aload_n 0, 1) := by decide +kernel
theorem dX8_runs_24 : decode cX8_runs 24 = .ok (.iconst 0, 1) := by decide +kernel
theorem dX8_runs_25 : decode cX8_runs 25 = .ok (.putfield 191, 3) := by decide +kernel
theorem dX8_runs_28 : decode cX8_runs 28 = .ok (.aload_n 0, 1) := by decide +kernel
theorem dX8_runs_29 : decode cX8_runs 29 = .ok (.iconst 0, 1) := by decide +kernel
theorem dX8_runs_30 : decode cX8_runs 30 = .ok (.putfield 185, 3) := by decide +kernel
theorem dX8_runs_33 : decode cX8_runs 33 = .ok (.aload_n 0, 1) := by decide +kernel
theorem dX8_runs_34 : decode cX8_runs 34 = .ok (.aload_n 0, 1) := by decide +kernel
theorem dX8_runs_35 : decode cX8_runs 35 = .ok (.getfield 167, 3) := by decide +kernel
theorem dX8_runs_38 : decode cX8_runs 38 = .ok (.ifCond .le 17, 3) := by decide +kernel
theorem dX8_runs_41 : decode cX8_runs 41 = .ok (.aload_n 0, 1) := by decide +kernel
theorem dX8_runs_42 : decode cX8_runs 42 = .ok (.getfield 22, 3) := by decide +kernel
theorem dX8_runs_45 : decode cX8_runs 45 = .ok (.aload_n 0, 1) := by decide +kernel
theorem dX8_runs_46 : decode cX8_runs 46 = .ok (.getfield 43, 3) := by decide +kernel
theorem dX8_runs_49 : decode cX8_runs 49 = .ok (.iconst 0, 1) := by decide +kernel
theorem dX8_runs_50 : decode cX8_runs 50 = .ok (.iaload, 1) := by decide +kernel
theorem dX8_runs_51 : decode cX8_runs 51 = .ok (.iaload, 1) := by decide +kernel
theorem dX8_runs_52 : decode cX8_runs 52 = .ok (.goto 4, 3) := by decide +kernel
theorem dX8_runs_55 : decode cX8_runs 55 = .ok (.iconst 0, 1) := by decide +kernel
theorem dX8_runs_56 : decode cX8_runs 56 = .ok (.putfield 197, 3) := by decide +kernel
theorem dX8_runs_59 : decode cX8_runs 59 = .ok (.iconst 0, 1) := by decide +kernel
theorem dX8_runs_60 : decode cX8_runs 60 = .ok (.istore_n 1, 1) := by decide +kernel
theorem dX8_runs_61 : decode cX8_runs 61 = .ok (.iload_n 1, 1) := by decide +kernel
theorem dX8_runs_62 : decode cX8_runs 62 = .ok (.bipush 8, 2) := by decide +kernel
theorem dX8_runs_64 : decode cX8_runs 64 = .ok (.if_icmp .ge 16, 3) := by decide +kernel
theorem dX8_runs_67 : decode cX8_runs 67 = .ok (.aload_n 0, 1) := by decide +kernel
theorem dX8_runs_68 : decode cX8_runs 68 = .ok (.getfield 61, 3) := by decide +kernel
theorem dX8_runs_71 : decode cX8_runs 71 = .ok (.iload_n 1, 1) := by decide +kernel
theorem dX8_runs_72 : decode cX8_runs 72 = .ok (.iconst (-1), 1) := by decide +kernel
theorem dX8_runs_73 : decode cX8_runs 73 = .ok (.iastore, 1) := by decide +kernel
theorem dX8_runs_74 : decode cX8_runs 74 = .ok (.iinc 1 1, 3) := by decide +kernel
theorem dX8_runs_77 : decode cX8_runs 77 = .ok (.goto (-16), 3) := by decide +kernel
theorem dX8_runs_80 : decode cX8_runs 80 = .ok (.iconst 0, 1) := by decide +kernel
theorem dX8_runs_81 : decode cX8_runs 81 = .ok (.istore_n 1, 1) := by decide +kernel
theorem dX8_runs_82 : decode cX8_runs 82 = .ok (.iload_n 1, 1) := by decide +kernel
theorem dX8_runs_83 : decode cX8_runs 83 = .ok (.bipush 40, 2) := by decide +kernel
theorem dX8_runs_85 : decode cX8_runs 85 = .ok (.if_icmp .ge 14, 3) := by decide +kernel
theorem dX8_runs_88 : decode cX8_runs 88 = .ok (.aload_n 0, 1) := by decide +kernel
theorem dX8_runs_89 : decode cX8_runs 89 = .ok (.iload_n 1, 1) := by decide +kernel
theorem dX8_runs_90 : decode cX8_runs 90 = .ok (.invokevirtual 210, 3) := by decide +kernel
theorem dX8_runs_93 : decode cX8_runs 93 = .ok (.iinc 1 1, 3) := by decide +kernel
theorem dX8_runs_96 : decode cX8_runs 96 = .ok (.goto (-14), 3) := by decide +kernel
theorem dX8_runs_99 : decode cX8_runs 99 = .ok (.return_, 1) := by decide +kernel
theorem dX8_runsTold_0 : decode cX8_runsTold 0 = .ok (.aload_n 0, 1) := by decide +kernel
theorem dX8_runsTold_1 : decode cX8_runsTold 1 = .ok (.invokevirtual 213, 3) := by decide +kernel
theorem dX8_runsTold_4 : decode cX8_runsTold 4 = .ok (.aload_n 0, 1) := by decide +kernel
theorem dX8_runsTold_5 : decode cX8_runsTold 5 = .ok (.invokevirtual 216, 3) := by decide +kernel
theorem dX8_runsTold_8 : decode cX8_runsTold 8 = .ok (.return_, 1) := by decide +kernel
theorem dX8_atOf_0 : decode cX8_atOf 0 = .ok (.aload_n 0, 1) := by decide +kernel
theorem dX8_atOf_1 : decode cX8_atOf 1 = .ok (.invokevirtual 219, 3) := by decide +kernel
theorem dX8_atOf_4 : decode cX8_atOf 4 = .ok (.iload_n 2, 1) := by decide +kernel
theorem dX8_atOf_5 : decode cX8_atOf 5 = .ok (.tableswitch 59 0 3 #[31, 38, 45, 52], 31) := by decide +kernel
theorem dX8_atOf_36 : decode cX8_atOf 36 = .ok (.aload_n 0, 1) := by decide +kernel
theorem dX8_atOf_37 : decode cX8_atOf 37 = .ok (.getfield 46, 3) := by decide +kernel
theorem dX8_atOf_40 : decode cX8_atOf 40 = .ok (.iload_n 1, 1) := by decide +kernel
theorem dX8_atOf_41 : decode cX8_atOf 41 = .ok (.iaload, 1) := by decide +kernel
theorem dX8_atOf_42 : decode cX8_atOf 42 = .ok (.ireturn, 1) := by decide +kernel
theorem dX8_atOf_43 : decode cX8_atOf 43 = .ok (.aload_n 0, 1) := by decide +kernel
theorem dX8_atOf_44 : decode cX8_atOf 44 = .ok (.getfield 49, 3) := by decide +kernel
theorem dX8_atOf_47 : decode cX8_atOf 47 = .ok (.iload_n 1, 1) := by decide +kernel
theorem dX8_atOf_48 : decode cX8_atOf 48 = .ok (.iaload, 1) := by decide +kernel
theorem dX8_atOf_49 : decode cX8_atOf 49 = .ok (.ireturn, 1) := by decide +kernel
theorem dX8_atOf_50 : decode cX8_atOf 50 = .ok (.aload_n 0, 1) := by decide +kernel
theorem dX8_atOf_51 : decode cX8_atOf 51 = .ok (.getfield 52, 3) := by decide +kernel
theorem dX8_atOf_54 : decode cX8_atOf 54 = .ok (.iload_n 1, 1) := by decide +kernel
theorem dX8_atOf_55 : decode cX8_atOf 55 = .ok (.iaload, 1) := by decide +kernel
theorem dX8_atOf_56 : decode cX8_atOf 56 = .ok (.ireturn, 1) := by decide +kernel
theorem dX8_atOf_57 : decode cX8_atOf 57 = .ok (.aload_n 0, 1) := by decide +kernel
theorem dX8_atOf_58 : decode cX8_atOf 58 = .ok (.getfield 55, 3) := by decide +kernel
theorem dX8_atOf_61 : decode cX8_atOf 61 = .ok (.iload_n 1, 1) := by decide +kernel
theorem dX8_atOf_62 : decode cX8_atOf 62 = .ok (.iaload, 1) := by decide +kernel
theorem dX8_atOf_63 : decode cX8_atOf 63 = .ok (.ireturn, 1) := by decide +kernel
theorem dX8_atOf_64 : decode cX8_atOf 64 = .ok (.aload_n 0, 1) := by decide +kernel
theorem dX8_atOf_65 : decode cX8_atOf 65 = .ok (.getfield 58, 3) := by decide +kernel
theorem dX8_atOf_68 : decode cX8_atOf 68 = .ok (.iload_n 1, 1) := by decide +kernel
theorem dX8_atOf_69 : decode cX8_atOf 69 = .ok (.iaload, 1) := by decide +kernel
theorem dX8_atOf_70 : decode cX8_atOf 70 = .ok (.ireturn, 1) := by decide +kernel
theorem dX8_at_0 : decode cX8_at 0 = .ok (.iload_n 1, 1) := by decide +kernel
theorem dX8_at_1 : decode cX8_at 1 = .ok (.invokestatic 134, 3) := by decide +kernel
theorem dX8_at_4 : decode cX8_at 4 = .ok (.ifCond .eq 21, 3) := by decide +kernel
theorem dX8_at_7 : decode cX8_at 7 = .ok (.iload_n 2, 1) := by decide +kernel
theorem dX8_at_8 : decode cX8_at 8 = .ok (.iconst 0, 1) := by decide +kernel
theorem dX8_at_9 : decode cX8_at 9 = .ok (.iconst 4, 1) := by decide +kernel
theorem dX8_at_10 : decode cX8_at 10 = .ok (.invokestatic 94, 3) := by decide +kernel
theorem dX8_at_13 : decode cX8_at 13 = .ok (.ifCond .eq 12, 3) := by decide +kernel
theorem dX8_at_16 : decode cX8_at 16 = .ok (.aload_n 0, 1) := by decide +kernel
theorem dX8_at_17 : decode cX8_at 17 = .ok (.iload_n 1, 1) := by decide +kernel
theorem dX8_at_18 : decode cX8_at 18 = .ok (.iload_n 2, 1) := by decide +kernel
theorem dX8_at_19 : decode cX8_at 19 = .ok (.invokevirtual 222, 3) := by decide +kernel
theorem dX8_at_22 : decode cX8_at 22 = .ok (.goto 5, 3) := by decide +kernel
theorem dX8_at_25 : decode cX8_at 25 = .ok (.bipush (-2), 2) := by decide +kernel
theorem dX8_at_27 : decode cX8_at 27 = .ok (.ireturn, 1) := by decide +kernel
theorem dX8_endsOf_0 : decode cX8_endsOf 0 = .ok (.aload_n 0, 1) := by decide +kernel
theorem dX8_endsOf_1 : decode cX8_endsOf 1 = .ok (.invokevirtual 219, 3) := by decide +kernel
theorem dX8_endsOf_4 : decode cX8_endsOf 4 = .ok (.aload_n 0, 1) := by decide +kernel
theorem dX8_endsOf_5 : decode cX8_endsOf 5 = .ok (.getfield 61, 3) := by decide +kernel
theorem dX8_endsOf_8 : decode cX8_endsOf 8 = .ok (.iload_n 1, 1) := by decide +kernel
theorem dX8_endsOf_9 : decode cX8_endsOf 9 = .ok (.iaload, 1) := by decide +kernel
theorem dX8_endsOf_10 : decode cX8_endsOf 10 = .ok (.ireturn, 1) := by decide +kernel
theorem dX8_ends_0 : decode cX8_ends 0 = .ok (.aload_n 0, 1) := by decide +kernel
theorem dX8_ends_1 : decode cX8_ends 1 = .ok (.iload_n 1, 1) := by decide +kernel
theorem dX8_ends_2 : decode cX8_ends 2 = .ok (.invokevirtual 140, 3) := by decide +kernel
theorem dX8_ends_5 : decode cX8_ends 5 = .ok (.ifCond .eq 11, 3) := by decide +kernel
theorem dX8_ends_8 : decode cX8_ends 8 = .ok (.aload_n 0, 1) := by decide +kernel
theorem dX8_ends_9 : decode cX8_ends 9 = .ok (.iload_n 1, 1) := by decide +kernel
theorem dX8_ends_10 : decode cX8_ends 10 = .ok (.invokevirtual 225, 3) := by decide +kernel
theorem dX8_ends_13 : decode cX8_ends 13 = .ok (.goto 5, 3) := by decide +kernel
theorem dX8_ends_16 : decode cX8_ends 16 = .ok (.bipush (-2), 2) := by decide +kernel
theorem dX8_ends_18 : decode cX8_ends 18 = .ok (.ireturn, 1) := by decide +kernel
theorem dX8_isPaid_0 : decode cX8_isPaid 0 = .ok (.aload_n 0, 1) := by decide +kernel
theorem dX8_isPaid_1 : decode cX8_isPaid 1 = .ok (.getfield 61, 3) := by decide +kernel
theorem dX8_isPaid_4 : decode cX8_isPaid 4 = .ok (.iload_n 1, 1) := by decide +kernel
theorem dX8_isPaid_5 : decode cX8_isPaid 5 = .ok (.iaload, 1) := by decide +kernel
theorem dX8_isPaid_6 : decode cX8_isPaid 6 = .ok (.iconst (-1), 1) := by decide +kernel
theorem dX8_isPaid_7 : decode cX8_isPaid 7 = .ok (.if_icmp .eq 22, 3) := by decide +kernel
theorem dX8_isPaid_10 : decode cX8_isPaid 10 = .ok (.aload_n 0, 1) := by decide +kernel
theorem dX8_isPaid_11 : decode cX8_isPaid 11 = .ok (.getfield 61, 3) := by decide +kernel
theorem dX8_isPaid_14 : decode cX8_isPaid 14 = .ok (.iload_n 1, 1) := by decide +kernel
theorem dX8_isPaid_15 : decode cX8_isPaid 15 = .ok (.iaload, 1) := by decide +kernel
theorem dX8_isPaid_16 : decode cX8_isPaid 16 = .ok (.aload_n 0, 1) := by decide +kernel
theorem dX8_isPaid_17 : decode cX8_isPaid 17 = .ok (.getfield 25, 3) := by decide +kernel
theorem dX8_isPaid_20 : decode cX8_isPaid 20 = .ok (.iload_n 1, 1) := by decide +kernel
theorem dX8_isPaid_21 : decode cX8_isPaid 21 = .ok (.iaload, 1) := by decide +kernel
theorem dX8_isPaid_22 : decode cX8_isPaid 22 = .ok (.if_icmp .gt 7, 3) := by decide +kernel
theorem dX8_isPaid_25 : decode cX8_isPaid 25 = .ok (.iconst 1, 1) := by decide +kernel
theorem dX8_isPaid_26 : decode cX8_isPaid 26 = .ok (.goto 4, 3) := by decide +kernel
theorem dX8_isPaid_29 : decode cX8_isPaid 29 = .ok (.iconst 0, 1) := by decide +kernel
theorem dX8_isPaid_30 : decode cX8_isPaid 30 = .ok (.ireturn, 1) := by decide +kernel
theorem dX8_paidNow_0 : decode cX8_paidNow 0 = .ok (.iconst 0, 1) := by decide +kernel
theorem dX8_paidNow_1 : decode cX8_paidNow 1 = .ok (.istore_n 1, 1) := by decide +kernel
theorem dX8_paidNow_2 : decode cX8_paidNow 2 = .ok (.iconst 0, 1) := by decide +kernel
theorem dX8_paidNow_3 : decode cX8_paidNow 3 = .ok (.istore_n 2, 1) := by decide +kernel
theorem dX8_paidNow_4 : decode cX8_paidNow 4 = .ok (.iload_n 2, 1) := by decide +kernel
theorem dX8_paidNow_5 : decode cX8_paidNow 5 = .ok (.aload_n 0, 1) := by decide +kernel
theorem dX8_paidNow_6 : decode cX8_paidNow 6 = .ok (.getfield 114, 3) := by decide +kernel
theorem dX8_paidNow_9 : decode cX8_paidNow 9 = .ok (.if_icmp .ge 30, 3) := by decide +kernel
theorem dX8_paidNow_12 : decode cX8_paidNow 12 = .ok (.iload_n 1, 1) := by decide +kernel
theorem dX8_paidNow_13 : decode cX8_paidNow 13 = .ok (.aload_n 0, 1) := by decide +kernel
theorem dX8_paidNow_14 : decode cX8_paidNow 14 = .ok (.iload_n 2, 1) := by decide +kernel
theorem dX8_paidNow_15 : decode cX8_paidNow 15 = .ok (.invokevirtual 228, 3) := by decide +kernel
theorem dX8_paidNow_18 : decode cX8_paidNow 18 = .ok (.ifCond .eq 12, 3) := by decide +kernel
theorem dX8_paidNow_21 : decode cX8_paidNow 21 = .ok (.aload_n 0, 1) := by decide +kernel
theorem dX8_paidNow_22 : decode cX8_paidNow 22 = .ok (.getfield 28, 3) := by decide +kernel
theorem dX8_paidNow_25 : decode cX8_paidNow 25 = .ok (.iload_n 2, 1) := by decide +kernel
theorem dX8_paidNow_26 : decode cX8_paidNow 26 = .ok (.iaload, 1) := by decide +kernel
theorem dX8_paidNow_27 : decode cX8_paidNow 27 = .ok (.goto 4, 3) := by decide +kernel
theorem dX8_paidNow_30 : decode cX8_paidNow 30 = .ok (.iconst 0, 1) := by decide +kernel
theorem dX8_paidNow_31 : decode cX8_paidNow 31 = .ok (.iadd, 1) := by decide +kernel
theorem dX8_paidNow_32 : decode cX8_paidNow 32 = .ok (.istore_n 1, 1) := by decide +kernel
theorem dX8_paidNow_33 : decode cX8_paidNow 33 = .ok (.iinc 2 1, 3) := by decide +kernel
theorem dX8_paidNow_36 : decode cX8_paidNow 36 = .ok (.goto (-32), 3) := by decide +kernel
theorem dX8_paidNow_39 : decode cX8_paidNow 39 = .ok (.iload_n 1, 1) := by decide +kernel
theorem dX8_paidNow_40 : decode cX8_paidNow 40 = .ok (.ireturn, 1) := by decide +kernel
theorem dX8_paidOf_0 : decode cX8_paidOf 0 = .ok (.aload_n 0, 1) := by decide +kernel
theorem dX8_paidOf_1 : decode cX8_paidOf 1 = .ok (.invokevirtual 219, 3) := by decide +kernel
theorem dX8_paidOf_4 : decode cX8_paidOf 4 = .ok (.aload_n 0, 1) := by decide +kernel
theorem dX8_paidOf_5 : decode cX8_paidOf 5 = .ok (.invokevirtual 231, 3) := by decide +kernel
theorem dX8_paidOf_8 : decode cX8_paidOf 8 = .ok (.ireturn, 1) := by decide +kernel
theorem dX8_paid_0 : decode cX8_paid 0 = .ok (.aload_n 0, 1) := by decide +kernel
theorem dX8_paid_1 : decode cX8_paid 1 = .ok (.invokevirtual 234, 3) := by decide +kernel
theorem dX8_paid_4 : decode cX8_paid 4 = .ok (.ireturn, 1) := by decide +kernel
theorem dX8_spiltOf_0 : decode cX8_spiltOf 0 = .ok (.aload_n 0, 1) := by decide +kernel
theorem dX8_spiltOf_1 : decode cX8_spiltOf 1 = .ok (.invokevirtual 219, 3) := by decide +kernel
theorem dX8_spiltOf_4 : decode cX8_spiltOf 4 = .ok (.aload_n 0, 1) := by decide +kernel
theorem dX8_spiltOf_5 : decode cX8_spiltOf 5 = .ok (.getfield 182, 3) := by decide +kernel
theorem dX8_spiltOf_8 : decode cX8_spiltOf 8 = .ok (.ireturn, 1) := by decide +kernel
theorem dX8_spilt_0 : decode cX8_spilt 0 = .ok (.aload_n 0, 1) := by decide +kernel
theorem dX8_spilt_1 : decode cX8_spilt 1 = .ok (.invokevirtual 237, 3) := by decide +kernel
theorem dX8_spilt_4 : decode cX8_spilt 4 = .ok (.ireturn, 1) := by decide +kernel
theorem dX8_idleOf_0 : decode cX8_idleOf 0 = .ok (.aload_n 0, 1) := by decide +kernel
theorem dX8_idleOf_1 : decode cX8_idleOf 1 = .ok (.invokevirtual 219, 3) := by decide +kernel
theorem dX8_idleOf_4 : decode cX8_idleOf 4 = .ok (.aload_n 0, 1) := by decide +kernel
theorem dX8_idleOf_5 : decode cX8_idleOf 5 = .ok (.getfield 191, 3) := by decide +kernel
theorem dX8_idleOf_8 : decode cX8_idleOf 8 = .ok (.ireturn, 1) := by decide +kernel
theorem dX8_idle_0 : decode cX8_idle 0 = .ok (.aload_n 0, 1) := by decide +kernel
theorem dX8_idle_1 : decode cX8_idle 1 = .ok (.invokevirtual 240, 3) := by decide +kernel
theorem dX8_idle_4 : decode cX8_idle 4 = .ok (.ireturn, 1) := by decide +kernel
theorem dX8_lateOf_0 : decode cX8_lateOf 0 = .ok (.aload_n 0, 1) := by decide +kernel
theorem dX8_lateOf_1 : decode cX8_lateOf 1 = .ok (.invokevirtual 219, 3) := by decide +kernel
theorem dX8_lateOf_4 : decode cX8_lateOf 4 = .ok (.iconst 0, 1) := by decide +kernel
theorem dX8_lateOf_5 : decode cX8_lateOf 5 = .ok (.istore_n 1, 1) := by decide +kernel
theorem dX8_lateOf_6 : decode cX8_lateOf 6 = .ok (.iconst 0, 1) := by decide +kernel
theorem dX8_lateOf_7 : decode cX8_lateOf 7 = .ok (.istore_n 2, 1) := by decide +kernel
theorem dX8_lateOf_8 : decode cX8_lateOf 8 = .ok (.iload_n 2, 1) := by decide +kernel
theorem dX8_lateOf_9 : decode cX8_lateOf 9 = .ok (.aload_n 0, 1) := by decide +kernel
theorem dX8_lateOf_10 : decode cX8_lateOf 10 = .ok (.getfield 114, 3) := by decide +kernel
theorem dX8_lateOf_13 : decode cX8_lateOf 13 = .ok (.if_icmp .ge 27, 3) := by decide +kernel
theorem dX8_lateOf_16 : decode cX8_lateOf 16 = .ok (.iload_n 1, 1) := by decide +kernel
theorem dX8_lateOf_17 : decode cX8_lateOf 17 = .ok (.aload_n 0, 1) := by decide +kernel
theorem dX8_lateOf_18 : decode cX8_lateOf 18 = .ok (.iload_n 2, 1) := by decide +kernel
theorem dX8_lateOf_19 : decode cX8_lateOf 19 = .ok (.invokevirtual 228, 3) := by decide +kernel
theorem dX8_lateOf_22 : decode cX8_lateOf 22 = .ok (.ifCond .eq 7, 3) := by decide +kernel
theorem dX8_lateOf_25 : decode cX8_lateOf 25 = .ok (.iconst 0, 1) := by decide +kernel
theorem dX8_lateOf_26 : decode cX8_lateOf 26 = .ok (.goto 6, 3) := by decide +kernel
theorem dX8_lateOf_29 : decode cX8_lateOf 29 = .ok (.iconst 1, 1) := by decide +kernel
theorem dX8_lateOf_30 : decode cX8_lateOf 30 = .ok (.iload_n 2, 1) := by decide +kernel
theorem dX8_lateOf_31 : decode cX8_lateOf 31 = .ok (.ishl, 1) := by decide +kernel
theorem dX8_lateOf_32 : decode cX8_lateOf 32 = .ok (.ior, 1) := by decide +kernel
theorem dX8_lateOf_33 : decode cX8_lateOf 33 = .ok (.istore_n 1, 1) := by decide +kernel
theorem dX8_lateOf_34 : decode cX8_lateOf 34 = .ok (.iinc 2 1, 3) := by decide +kernel
theorem dX8_lateOf_37 : decode cX8_lateOf 37 = .ok (.goto (-29), 3) := by decide +kernel
theorem dX8_lateOf_40 : decode cX8_lateOf 40 = .ok (.iload_n 1, 1) := by decide +kernel
theorem dX8_lateOf_41 : decode cX8_lateOf 41 = .ok (.ireturn, 1) := by decide +kernel
theorem dX8_late_0 : decode cX8_late 0 = .ok (.aload_n 0, 1) := by decide +kernel
theorem dX8_late_1 : decode cX8_late 1 = .ok (.invokevirtual 243, 3) := by decide +kernel
theorem dX8_late_4 : decode cX8_late 4 = .ok (.ireturn, 1) := by decide +kernel
theorem dX8_nextRow_0 : decode cX8_nextRow 0 = .ok (.aload_n 0, 1) := by decide +kernel
theorem dX8_nextRow_1 : decode cX8_nextRow 1 = .ok (.getfield 167, 3) := by decide +kernel
theorem dX8_nextRow_4 : decode cX8_nextRow 4 = .ok (.iconst 2, 1) := by decide +kernel
theorem dX8_nextRow_5 : decode cX8_nextRow 5 = .ok (.isub, 1) := by decide +kernel
theorem dX8_nextRow_6 : decode cX8_nextRow 6 = .ok (.istore_n 1, 1) := by decide +kernel
theorem dX8_nextRow_7 : decode cX8_nextRow 7 = .ok (.iload_n 1, 1) := by decide +kernel
theorem dX8_nextRow_8 : decode cX8_nextRow 8 = .ok (.ifCond .lt 26, 3) := by decide +kernel
theorem dX8_nextRow_11 : decode cX8_nextRow 11 = .ok (.aload_n 0, 1) := by decide +kernel
theorem dX8_nextRow_12 : decode cX8_nextRow 12 = .ok (.getfield 43, 3) := by decide +kernel
theorem dX8_nextRow_15 : decode cX8_nextRow 15 = .ok (.iload_n 1, 1) := by decide +kernel
theorem dX8_nextRow_16 : decode cX8_nextRow 16 = .ok (.iaload, 1) := by decide +kernel
theorem dX8_nextRow_17 : decode cX8_nextRow 17 = .ok (.aload_n 0, 1) := by decide +kernel
theorem dX8_nextRow_18 : decode cX8_nextRow 18 = .ok (.getfield 43, 3) := by decide +kernel
theorem dX8_nextRow_21 : decode cX8_nextRow 21 = .ok (.iload_n 1, 1) := by decide +kernel
theorem dX8_nextRow_22 : decode cX8_nextRow 22 = .ok (.iconst 1, 1) := by decide +kernel
theorem dX8_nextRow_23 : decode cX8_nextRow 23 = .ok (.iadd, 1) := by decide +kernel
theorem dX8_nextRow_24 : decode cX8_nextRow 24 = .ok (.iaload, 1) := by decide +kernel
theorem dX8_nextRow_25 : decode cX8_nextRow 25 = .ok (.if_icmp .le 9, 3) := by decide +kernel
theorem dX8_nextRow_28 : decode cX8_nextRow 28 = .ok (.iinc 1 (-1), 3) := by decide +kernel
theorem dX8_nextRow_31 : decode cX8_nextRow 31 = .ok (.goto (-24), 3) := by decide +kernel
theorem dX8_nextRow_34 : decode cX8_nextRow 34 = .ok (.iload_n 1, 1) := by decide +kernel
theorem dX8_nextRow_35 : decode cX8_nextRow 35 = .ok (.ifCond .ge 5, 3) := by decide +kernel
theorem dX8_nextRow_38 : decode cX8_nextRow 38 = .ok (.iconst 0, 1) := by decide +kernel
theorem dX8_nextRow_39 : decode cX8_nextRow 39 = .ok (.ireturn, 1) := by decide +kernel
theorem dX8_nextRow_40 : decode cX8_nextRow 40 = .ok (.aload_n 0, 1) := by decide +kernel
theorem dX8_nextRow_41 : decode cX8_nextRow 41 = .ok (.getfield 167, 3) := by decide +kernel
theorem dX8_nextRow_44 : decode cX8_nextRow 44 = .ok (.iconst 1, 1) := by decide +kernel
theorem dX8_nextRow_45 : decode cX8_nextRow 45 = .ok (.isub, 1) := by decide +kernel
theorem dX8_nextRow_46 : decode cX8_nextRow 46 = .ok (.istore_n 2, 1) := by decide +kernel
theorem dX8_nextRow_47 : decode cX8_nextRow 47 = .ok (.aload_n 0, 1) := by decide +kernel
theorem dX8_nextRow_48 : decode cX8_nextRow 48 = .ok (.getfield 43, 3) := by decide +kernel
theorem dX8_nextRow_51 : decode cX8_nextRow 51 = .ok (.iload_n 2, 1) := by decide +kernel
theorem dX8_nextRow_52 : decode cX8_nextRow 52 = .ok (.iaload, 1) := by decide +kernel
theorem dX8_nextRow_53 : decode cX8_nextRow 53 = .ok (.aload_n 0, 1) := by decide +kernel
theorem dX8_nextRow_54 : decode cX8_nextRow 54 = .ok (.getfield 43, 3) := by decide +kernel
theorem dX8_nextRow_57 : decode cX8_nextRow 57 = .ok (.iload_n 1, 1) := by decide +kernel
theorem dX8_nextRow_58 : decode cX8_nextRow 58 = .ok (.iaload, 1) := by decide +kernel
theorem dX8_nextRow_59 : decode cX8_nextRow 59 = .ok (.if_icmp .ge 9, 3) := by decide +kernel
theorem dX8_nextRow_62 : decode cX8_nextRow 62 = .ok (.iinc 2 (-1), 3) := by decide +kernel
theorem dX8_nextRow_65 : decode cX8_nextRow 65 = .ok (.goto (-18), 3) := by decide +kernel
theorem dX8_nextRow_68 : decode cX8_nextRow 68 = .ok (.aload_n 0, 1) := by decide +kernel
theorem dX8_nextRow_69 : decode cX8_nextRow 69 = .ok (.getfield 43, 3) := by decide +kernel
theorem dX8_nextRow_72 : decode cX8_nextRow 72 = .ok (.iload_n 1, 1) := by decide +kernel
theorem dX8_nextRow_73 : decode cX8_nextRow 73 = .ok (.iaload, 1) := by decide +kernel
theorem dX8_nextRow_74 : decode cX8_nextRow 74 = .ok (.istore_n 3, 1) := by decide +kernel
theorem dX8_nextRow_75 : decode cX8_nextRow 75 = .ok (.aload_n 0, 1) := by decide +kernel
theorem dX8_nextRow_76 : decode cX8_nextRow 76 = .ok (.getfield 43, 3) := by decide +kernel
theorem dX8_nextRow_79 : decode cX8_nextRow 79 = .ok (.iload_n 1, 1) := by decide +kernel
theorem dX8_nextRow_80 : decode cX8_nextRow 80 = .ok (.aload_n 0, 1) := by decide +kernel
theorem dX8_nextRow_81 : decode cX8_nextRow 81 = .ok (.getfield 43, 3) := by decide +kernel
theorem dX8_nextRow_84 : decode cX8_nextRow 84 = .ok (.iload_n 2, 1) := by decide +kernel
theorem dX8_nextRow_85 : decode cX8_nextRow 85 = .ok (.iaload, 1) := by decide +kernel
theorem dX8_nextRow_86 : decode cX8_nextRow 86 = .ok (.iastore, 1) := by decide +kernel
theorem dX8_nextRow_87 : decode cX8_nextRow 87 = .ok (.aload_n 0, 1) := by decide +kernel
theorem dX8_nextRow_88 : decode cX8_nextRow 88 = .ok (.getfield 43, 3) := by decide +kernel
theorem dX8_nextRow_91 : decode cX8_nextRow 91 = .ok (.iload_n 2, 1) := by decide +kernel
theorem dX8_nextRow_92 : decode cX8_nextRow 92 = .ok (.iload_n 3, 1) := by decide +kernel
theorem dX8_nextRow_93 : decode cX8_nextRow 93 = .ok (.iastore, 1) := by decide +kernel
theorem dX8_nextRow_94 : decode cX8_nextRow 94 = .ok (.iload_n 1, 1) := by decide +kernel
theorem dX8_nextRow_95 : decode cX8_nextRow 95 = .ok (.iconst 1, 1) := by decide +kernel
theorem dX8_nextRow_96 : decode cX8_nextRow 96 = .ok (.iadd, 1) := by decide +kernel
theorem dX8_nextRow_97 : decode cX8_nextRow 97 = .ok (.istore 4, 2) := by decide +kernel
theorem dX8_nextRow_99 : decode cX8_nextRow 99 = .ok (.aload_n 0, 1) := by decide +kernel
theorem dX8_nextRow_100 : decode cX8_nextRow 100 = .ok (.getfield 167, 3) := by decide +kernel
theorem dX8_nextRow_103 : decode cX8_nextRow 103 = .ok (.iconst 1, 1) := by decide +kernel
theorem dX8_nextRow_104 : decode cX8_nextRow 104 = .ok (.isub, 1) := by decide +kernel
theorem dX8_nextRow_105 : decode cX8_nextRow 105 = .ok (.istore 5, 2) := by decide +kernel
theorem dX8_nextRow_107 : decode cX8_nextRow 107 = .ok (.iload 4, 2) := by decide +kernel
theorem dX8_nextRow_109 : decode cX8_nextRow 109 = .ok (.iload 5, 2) := by decide +kernel
theorem dX8_nextRow_111 : decode cX8_nextRow 111 = .ok (.if_icmp .ge 44, 3) := by decide +kernel
theorem dX8_nextRow_114 : decode cX8_nextRow 114 = .ok (.aload_n 0, 1) := by decide +kernel
theorem dX8_nextRow_115 : decode cX8_nextRow 115 = .ok (.getfield 43, 3) := by decide +kernel
theorem dX8_nextRow_118 : decode cX8_nextRow 118 = .ok (.iload 4, 2) := by decide +kernel
theorem dX8_nextRow_120 : decode cX8_nextRow 120 = .ok (.iaload, 1) := by decide +kernel
theorem dX8_nextRow_121 : decode cX8_nextRow 121 = .ok (.istore 6, 2) := by decide +kernel
theorem dX8_nextRow_123 : decode cX8_nextRow 123 = .ok (.aload_n 0, 1) := by decide +kernel
theorem dX8_nextRow_124 : decode cX8_nextRow 124 = .ok (.getfield 43, 3) := by decide +kernel
theorem dX8_nextRow_127 : decode cX8_nextRow 127 = .ok (.iload 4, 2) := by decide +kernel
theorem dX8_nextRow_129 : decode cX8_nextRow 129 = .ok (.aload_n 0, 1) := by decide +kernel
theorem dX8_nextRow_130 : decode cX8_nextRow 130 = .ok (.getfield 43, 3) := by decide +kernel
theorem dX8_nextRow_133 : decode cX8_nextRow 133 = .ok (.iload 5, 2) := by decide +kernel
theorem dX8_nextRow_135 : decode cX8_nextRow 135 = .ok (.iaload, 1) := by decide +kernel
theorem dX8_nextRow_136 : decode cX8_nextRow 136 = .ok (.iastore, 1) := by decide +kernel
theorem dX8_nextRow_137 : decode cX8_nextRow 137 = .ok (.aload_n 0, 1) := by decide +kernel
theorem dX8_nextRow_138 : decode cX8_nextRow 138 = .ok (.getfield 43, 3) := by decide +kernel
theorem dX8_nextRow_141 : decode cX8_nextRow 141 = .ok (.iload 5, 2) := by decide +kernel
theorem dX8_nextRow_143 : decode cX8_nextRow 143 = .ok (.iload 6, 2) := by decide +kernel
theorem dX8_nextRow_145 : decode cX8_nextRow 145 = .ok (.iastore, 1) := by decide +kernel
theorem dX8_nextRow_146 : decode cX8_nextRow 146 = .ok (.iinc 4 1, 3) := by decide +kernel
theorem dX8_nextRow_149 : decode cX8_nextRow 149 = .ok (.iinc 5 (-1), 3) := by decide +kernel
theorem dX8_nextRow_152 : decode cX8_nextRow 152 = .ok (.goto (-45), 3) := by decide +kernel
theorem dX8_nextRow_155 : decode cX8_nextRow 155 = .ok (.iconst 1, 1) := by decide +kernel
theorem dX8_nextRow_156 : decode cX8_nextRow 156 = .ok (.ireturn, 1) := by decide +kernel
theorem dX8_rowBy_0 : decode cX8_rowBy 0 = .ok (.aload_n 0, 1) := by decide +kernel
theorem dX8_rowBy_1 : decode cX8_rowBy 1 = .ok (.invokevirtual 213, 3) := by decide +kernel
theorem dX8_rowBy_4 : decode cX8_rowBy 4 = .ok (.iconst (-1), 1) := by decide +kernel
theorem dX8_rowBy_5 : decode cX8_rowBy 5 = .ok (.istore_n 1, 1) := by decide +kernel
theorem dX8_rowBy_6 : decode cX8_rowBy 6 = .ok (.aload_n 0, 1) := by decide +kernel
theorem dX8_rowBy_7 : decode cX8_rowBy 7 = .ok (.getfield 114, 3) := by decide +kernel
theorem dX8_rowBy_10 : decode cX8_rowBy 10 = .ok (.ifCond .le 7, 3) := by decide +kernel
theorem dX8_rowBy_13 : decode cX8_rowBy 13 = .ok (.iconst 1, 1) := by decide +kernel
theorem dX8_rowBy_14 : decode cX8_rowBy 14 = .ok (.goto 4, 3) := by decide +kernel
theorem dX8_rowBy_17 : decode cX8_rowBy 17 = .ok (.iconst 0, 1) := by decide +kernel
theorem dX8_rowBy_18 : decode cX8_rowBy 18 = .ok (.istore_n 2, 1) := by decide +kernel
theorem dX8_rowBy_19 : decode cX8_rowBy 19 = .ok (.iload_n 2, 1) := by decide +kernel
theorem dX8_rowBy_20 : decode cX8_rowBy 20 = .ok (.ifCond .eq 68, 3) := by decide +kernel
theorem dX8_rowBy_23 : decode cX8_rowBy 23 = .ok (.aload_n 0, 1) := by decide +kernel
theorem dX8_rowBy_24 : decode cX8_rowBy 24 = .ok (.invokevirtual 216, 3) := by decide +kernel
theorem dX8_rowBy_27 : decode cX8_rowBy 27 = .ok (.aload_n 0, 1) := by decide +kernel
theorem dX8_rowBy_28 : decode cX8_rowBy 28 = .ok (.invokevirtual 231, 3) := by decide +kernel
theorem dX8_rowBy_31 : decode cX8_rowBy 31 = .ok (.istore_n 3, 1) := by decide +kernel
theorem dX8_rowBy_32 : decode cX8_rowBy 32 = .ok (.iconst 0, 1) := by decide +kernel
theorem dX8_rowBy_33 : decode cX8_rowBy 33 = .ok (.istore 4, 2) := by decide +kernel
theorem dX8_rowBy_35 : decode cX8_rowBy 35 = .ok (.iload 4, 2) := by decide +kernel
theorem dX8_rowBy_37 : decode cX8_rowBy 37 = .ok (.aload_n 0, 1) := by decide +kernel
theorem dX8_rowBy_38 : decode cX8_rowBy 38 = .ok (.getfield 114, 3) := by decide +kernel
theorem dX8_rowBy_41 : decode cX8_rowBy 41 = .ok (.if_icmp .ge 28, 3) := by decide +kernel
theorem dX8_rowBy_44 : decode cX8_rowBy 44 = .ok (.iload_n 3, 1) := by decide +kernel
theorem dX8_rowBy_45 : decode cX8_rowBy 45 = .ok (.iload_n 1, 1) := by decide +kernel
theorem dX8_rowBy_46 : decode cX8_rowBy 46 = .ok (.if_icmp .le 23, 3) := by decide +kernel
theorem dX8_rowBy_49 : decode cX8_rowBy 49 = .ok (.aload_n 0, 1) := by decide +kernel
theorem dX8_rowBy_50 : decode cX8_rowBy 50 = .ok (.getfield 64, 3) := by decide +kernel
theorem dX8_rowBy_53 : decode cX8_rowBy 53 = .ok (.iload 4, 2) := by decide +kernel
theorem dX8_rowBy_55 : decode cX8_rowBy 55 = .ok (.aload_n 0, 1) := by decide +kernel
theorem dX8_rowBy_56 : decode cX8_rowBy 56 = .ok (.getfield 43, 3) := by decide +kernel
theorem dX8_rowBy_59 : decode cX8_rowBy 59 = .ok (.iload 4, 2) := by decide +kernel
theorem dX8_rowBy_61 : decode cX8_rowBy 61 = .ok (.iaload, 1) := by decide +kernel
theorem dX8_rowBy_62 : decode cX8_rowBy 62 = .ok (.iastore, 1) := by decide +kernel
theorem dX8_rowBy_63 : decode cX8_rowBy 63 = .ok (.iinc 4 1, 3) := by decide +kernel
theorem dX8_rowBy_66 : decode cX8_rowBy 66 = .ok (.goto (-31), 3) := by decide +kernel
theorem dX8_rowBy_69 : decode cX8_rowBy 69 = .ok (.iload_n 3, 1) := by decide +kernel
theorem dX8_rowBy_70 : decode cX8_rowBy 70 = .ok (.iload_n 1, 1) := by decide +kernel
theorem dX8_rowBy_71 : decode cX8_rowBy 71 = .ok (.if_icmp .le 7, 3) := by decide +kernel
theorem dX8_rowBy_74 : decode cX8_rowBy 74 = .ok (.iload_n 3, 1) := by decide +kernel
theorem dX8_rowBy_75 : decode cX8_rowBy 75 = .ok (.goto 4, 3) := by decide +kernel
theorem dX8_rowBy_78 : decode cX8_rowBy 78 = .ok (.iload_n 1, 1) := by decide +kernel
theorem dX8_rowBy_79 : decode cX8_rowBy 79 = .ok (.istore_n 1, 1) := by decide +kernel
theorem dX8_rowBy_80 : decode cX8_rowBy 80 = .ok (.aload_n 0, 1) := by decide +kernel
theorem dX8_rowBy_81 : decode cX8_rowBy 81 = .ok (.invokevirtual 246, 3) := by decide +kernel
theorem dX8_rowBy_84 : decode cX8_rowBy 84 = .ok (.istore_n 2, 1) := by decide +kernel
theorem dX8_rowBy_85 : decode cX8_rowBy 85 = .ok (.goto (-66), 3) := by decide +kernel
theorem dX8_rowBy_88 : decode cX8_rowBy 88 = .ok (.iload_n 1, 1) := by decide +kernel
theorem dX8_rowBy_89 : decode cX8_rowBy 89 = .ok (.ireturn, 1) := by decide +kernel
theorem dX8_rowOf_0 : decode cX8_rowOf 0 = .ok (.aload_n 0, 1) := by decide +kernel
theorem dX8_rowOf_1 : decode cX8_rowOf 1 = .ok (.invokevirtual 250, 3) := by decide +kernel
theorem dX8_rowOf_4 : decode cX8_rowOf 4 = .ok (.istore_n 2, 1) := by decide +kernel
theorem dX8_rowOf_5 : decode cX8_rowOf 5 = .ok (.iload_n 1, 1) := by decide +kernel
theorem dX8_rowOf_6 : decode cX8_rowOf 6 = .ok (.ifCond .ne 7, 3) := by decide +kernel
theorem dX8_rowOf_9 : decode cX8_rowOf 9 = .ok (.iload_n 2, 1) := by decide +kernel
theorem dX8_rowOf_10 : decode cX8_rowOf 10 = .ok (.goto 25, 3) := by decide +kernel
theorem dX8_rowOf_13 : decode cX8_rowOf 13 = .ok (.iload_n 1, 1) := by decide +kernel
theorem dX8_rowOf_14 : decode cX8_rowOf 14 = .ok (.iconst 1, 1) := by decide +kernel
theorem dX8_rowOf_15 : decode cX8_rowOf 15 = .ok (.isub, 1) := by decide +kernel
theorem dX8_rowOf_16 : decode cX8_rowOf 16 = .ok (.aload_n 0, 1) := by decide +kernel
theorem dX8_rowOf_17 : decode cX8_rowOf 17 = .ok (.getfield 114, 3) := by decide +kernel
theorem dX8_rowOf_20 : decode cX8_rowOf 20 = .ok (.if_icmp .ge 14, 3) := by decide +kernel
theorem dX8_rowOf_23 : decode cX8_rowOf 23 = .ok (.aload_n 0, 1) := by decide +kernel
theorem dX8_rowOf_24 : decode cX8_rowOf 24 = .ok (.getfield 64, 3) := by decide +kernel
theorem dX8_rowOf_27 : decode cX8_rowOf 27 = .ok (.iload_n 1, 1) := by decide +kernel
theorem dX8_rowOf_28 : decode cX8_rowOf 28 = .ok (.iconst 1, 1) := by decide +kernel
theorem dX8_rowOf_29 : decode cX8_rowOf 29 = .ok (.isub, 1) := by decide +kernel
theorem dX8_rowOf_30 : decode cX8_rowOf 30 = .ok (.iaload, 1) := by decide +kernel
theorem dX8_rowOf_31 : decode cX8_rowOf 31 = .ok (.goto 4, 3) := by decide +kernel
theorem dX8_rowOf_34 : decode cX8_rowOf 34 = .ok (.iconst (-1), 1) := by decide +kernel
theorem dX8_rowOf_35 : decode cX8_rowOf 35 = .ok (.ireturn, 1) := by decide +kernel
theorem dX8_row_0 : decode cX8_row 0 = .ok (.iload_n 1, 1) := by decide +kernel
theorem dX8_row_1 : decode cX8_row 1 = .ok (.iconst 0, 1) := by decide +kernel
theorem dX8_row_2 : decode cX8_row 2 = .ok (.bipush 8, 2) := by decide +kernel
theorem dX8_row_4 : decode cX8_row 4 = .ok (.invokestatic 94, 3) := by decide +kernel
theorem dX8_row_7 : decode cX8_row 7 = .ok (.ifCond .eq 11, 3) := by decide +kernel
theorem dX8_row_10 : decode cX8_row 10 = .ok (.aload_n 0, 1) := by decide +kernel
theorem dX8_row_11 : decode cX8_row 11 = .ok (.iload_n 1, 1) := by decide +kernel
theorem dX8_row_12 : decode cX8_row 12 = .ok (.invokevirtual 253, 3) := by decide +kernel
theorem dX8_row_15 : decode cX8_row 15 = .ok (.goto 5, 3) := by decide +kernel
theorem dX8_row_18 : decode cX8_row 18 = .ok (.bipush (-2), 2) := by decide +kernel
theorem dX8_row_20 : decode cX8_row 20 = .ok (.ireturn, 1) := by decide +kernel
theorem dX8_dressOf_0 : decode cX8_dressOf 0 = .ok (.aload_n 0, 1) := by decide +kernel
theorem dX8_dressOf_1 : decode cX8_dressOf 1 = .ok (.invokevirtual 213, 3) := by decide +kernel
theorem dX8_dressOf_4 : decode cX8_dressOf 4 = .ok (.iconst (-1), 1) := by decide +kernel
theorem dX8_dressOf_5 : decode cX8_dressOf 5 = .ok (.istore_n 2, 1) := by decide +kernel
theorem dX8_dressOf_6 : decode cX8_dressOf 6 = .ok (.iconst (-1), 1) := by decide +kernel
theorem dX8_dressOf_7 : decode cX8_dressOf 7 = .ok (.istore_n 3, 1) := by decide +kernel
theorem dX8_dressOf_8 : decode cX8_dressOf 8 = .ok (.aload_n 0, 1) := by decide +kernel
theorem dX8_dressOf_9 : decode cX8_dressOf 9 = .ok (.aload_n 0, 1) := by decide +kernel
theorem dX8_dressOf_10 : decode cX8_dressOf 10 = .ok (.getfield 149, 3) := by decide +kernel
theorem dX8_dressOf_13 : decode cX8_dressOf 13 = .ok (.iconst 1, 1) := by decide +kernel
theorem dX8_dressOf_14 : decode cX8_dressOf 14 = .ok (.iadd, 1) := by decide +kernel
theorem dX8_dressOf_15 : decode cX8_dressOf 15 = .ok (.putfield 164, 3) := by decide +kernel
theorem dX8_dressOf_18 : decode cX8_dressOf 18 = .ok (.iconst 0, 1) := by decide +kernel
theorem dX8_dressOf_19 : decode cX8_dressOf 19 = .ok (.istore 4, 2) := by decide +kernel
theorem dX8_dressOf_21 : decode cX8_dressOf 21 = .ok (.iload 4, 2) := by decide +kernel
theorem dX8_dressOf_23 : decode cX8_dressOf 23 = .ok (.bipush 40, 2) := by decide +kernel
theorem dX8_dressOf_25 : decode cX8_dressOf 25 = .ok (.if_icmp .ge 56, 3) := by decide +kernel
theorem dX8_dressOf_28 : decode cX8_dressOf 28 = .ok (.aload_n 0, 1) := by decide +kernel
theorem dX8_dressOf_29 : decode cX8_dressOf 29 = .ok (.getfield 37, 3) := by decide +kernel
theorem dX8_dressOf_32 : decode cX8_dressOf 32 = .ok (.aload_n 0, 1) := by decide +kernel
theorem dX8_dressOf_33 : decode cX8_dressOf 33 = .ok (.getfield 149, 3) := by decide +kernel
theorem dX8_dressOf_36 : decode cX8_dressOf 36 = .ok (.iload 4, 2) := by decide +kernel
theorem dX8_dressOf_38 : decode cX8_dressOf 38 = .ok (.iastore, 1) := by decide +kernel
theorem dX8_dressOf_39 : decode cX8_dressOf 39 = .ok (.aload_n 0, 1) := by decide +kernel
theorem dX8_dressOf_40 : decode cX8_dressOf 40 = .ok (.invokevirtual 216, 3) := by decide +kernel
theorem dX8_dressOf_43 : decode cX8_dressOf 43 = .ok (.aload_n 0, 1) := by decide +kernel
theorem dX8_dressOf_44 : decode cX8_dressOf 44 = .ok (.getfield 194, 3) := by decide +kernel
theorem dX8_dressOf_47 : decode cX8_dressOf 47 = .ok (.iload_n 3, 1) := by decide +kernel
theorem dX8_dressOf_48 : decode cX8_dressOf 48 = .ok (.if_icmp .le 8, 3) := by decide +kernel
theorem dX8_dressOf_51 : decode cX8_dressOf 51 = .ok (.iload 4, 2) := by decide +kernel
theorem dX8_dressOf_53 : decode cX8_dressOf 53 = .ok (.goto 4, 3) := by decide +kernel
theorem dX8_dressOf_56 : decode cX8_dressOf 56 = .ok (.iload_n 2, 1) := by decide +kernel
theorem dX8_dressOf_57 : decode cX8_dressOf 57 = .ok (.istore_n 2, 1) := by decide +kernel
theorem dX8_dressOf_58 : decode cX8_dressOf 58 = .ok (.aload_n 0, 1) := by decide +kernel
theorem dX8_dressOf_59 : decode cX8_dressOf 59 = .ok (.getfield 194, 3) := by decide +kernel
theorem dX8_dressOf_62 : decode cX8_dressOf 62 = .ok (.iload_n 3, 1) := by decide +kernel
theorem dX8_dressOf_63 : decode cX8_dressOf 63 = .ok (.if_icmp .le 10, 3) := by decide +kernel
theorem dX8_dressOf_66 : decode cX8_dressOf 66 = .ok (.aload_n 0, 1) := by decide +kernel
theorem dX8_dressOf_67 : decode cX8_dressOf 67 = .ok (.getfield 194, 3) := by decide +kernel
theorem dX8_dressOf_70 : decode cX8_dressOf 70 = .ok (.goto 4, 3) := by decide +kernel
theorem dX8_dressOf_73 : decode cX8_dressOf 73 = .ok (.iload_n 3, 1) := by decide +kernel
theorem dX8_dressOf_74 : decode cX8_dressOf 74 = .ok (.istore_n 3, 1) := by decide +kernel
theorem dX8_dressOf_75 : decode cX8_dressOf 75 = .ok (.iinc 4 1, 3) := by decide +kernel
theorem dX8_dressOf_78 : decode cX8_dressOf 78 = .ok (.goto (-57), 3) := by decide +kernel
theorem dX8_dressOf_81 : decode cX8_dressOf 81 = .ok (.iload_n 1, 1) := by decide +kernel
theorem dX8_dressOf_82 : decode cX8_dressOf 82 = .ok (.ifCond .ne 7, 3) := by decide +kernel
theorem dX8_dressOf_85 : decode cX8_dressOf 85 = .ok (.iload_n 2, 1) := by decide +kernel
theorem dX8_dressOf_86 : decode cX8_dressOf 86 = .ok (.goto 4, 3) := by decide +kernel
theorem dX8_dressOf_89 : decode cX8_dressOf 89 = .ok (.iload_n 3, 1) := by decide +kernel
theorem dX8_dressOf_90 : decode cX8_dressOf 90 = .ok (.ireturn, 1) := by decide +kernel
theorem dX8_dress_0 : decode cX8_dress 0 = .ok (.iload_n 1, 1) := by decide +kernel
theorem dX8_dress_1 : decode cX8_dress 1 = .ok (.iconst 0, 1) := by decide +kernel
theorem dX8_dress_2 : decode cX8_dress 2 = .ok (.iconst 1, 1) := by decide +kernel
theorem dX8_dress_3 : decode cX8_dress 3 = .ok (.invokestatic 94, 3) := by decide +kernel
theorem dX8_dress_6 : decode cX8_dress 6 = .ok (.ifCond .eq 11, 3) := by decide +kernel
theorem dX8_dress_9 : decode cX8_dress 9 = .ok (.aload_n 0, 1) := by decide +kernel
theorem dX8_dress_10 : decode cX8_dress 10 = .ok (.iload_n 1, 1) := by decide +kernel
theorem dX8_dress_11 : decode cX8_dress 11 = .ok (.invokevirtual 256, 3) := by decide +kernel
theorem dX8_dress_14 : decode cX8_dress 14 = .ok (.goto 5, 3) := by decide +kernel
theorem dX8_dress_17 : decode cX8_dress 17 = .ok (.bipush (-2), 2) := by decide +kernel
theorem dX8_dress_19 : decode cX8_dress 19 = .ok (.ireturn, 1) := by decide +kernel
theorem dX8_leastNow_0 : decode cX8_leastNow 0 = .ok (.aload_n 0, 1) := by decide +kernel
theorem dX8_leastNow_1 : decode cX8_leastNow 1 = .ok (.invokevirtual 213, 3) := by decide +kernel
theorem dX8_leastNow_4 : decode cX8_leastNow 4 = .ok (.iconst (-1), 1) := by decide +kernel
theorem dX8_leastNow_5 : decode cX8_leastNow 5 = .ok (.istore_n 1, 1) := by decide +kernel
theorem dX8_leastNow_6 : decode cX8_leastNow 6 = .ok (.iconst 0, 1) := by decide +kernel
theorem dX8_leastNow_7 : decode cX8_leastNow 7 = .ok (.istore_n 2, 1) := by decide +kernel
theorem dX8_leastNow_8 : decode cX8_leastNow 8 = .ok (.iload_n 2, 1) := by decide +kernel
theorem dX8_leastNow_9 : decode cX8_leastNow 9 = .ok (.bipush 21, 2) := by decide +kernel
theorem dX8_leastNow_11 : decode cX8_leastNow 11 = .ok (.if_icmp .ge 40, 3) := by decide +kernel
theorem dX8_leastNow_14 : decode cX8_leastNow 14 = .ok (.iload_n 1, 1) := by decide +kernel
theorem dX8_leastNow_15 : decode cX8_leastNow 15 = .ok (.iconst (-1), 1) := by decide +kernel
theorem dX8_leastNow_16 : decode cX8_leastNow 16 = .ok (.if_icmp .ne 35, 3) := by decide +kernel
theorem dX8_leastNow_19 : decode cX8_leastNow 19 = .ok (.aload_n 0, 1) := by decide +kernel
theorem dX8_leastNow_20 : decode cX8_leastNow 20 = .ok (.iload_n 2, 1) := by decide +kernel
theorem dX8_leastNow_21 : decode cX8_leastNow 21 = .ok (.putfield 170, 3) := by decide +kernel
theorem dX8_leastNow_24 : decode cX8_leastNow 24 = .ok (.aload_n 0, 1) := by decide +kernel
theorem dX8_leastNow_25 : decode cX8_leastNow 25 = .ok (.invokevirtual 216, 3) := by decide +kernel
theorem dX8_leastNow_28 : decode cX8_leastNow 28 = .ok (.aload_n 0, 1) := by decide +kernel
theorem dX8_leastNow_29 : decode cX8_leastNow 29 = .ok (.getfield 185, 3) := by decide +kernel
theorem dX8_leastNow_32 : decode cX8_leastNow 32 = .ok (.aload_n 0, 1) := by decide +kernel
theorem dX8_leastNow_33 : decode cX8_leastNow 33 = .ok (.getfield 167, 3) := by decide +kernel
theorem dX8_leastNow_36 : decode cX8_leastNow 36 = .ok (.if_icmp .ne 7, 3) := by decide +kernel
theorem dX8_leastNow_39 : decode cX8_leastNow 39 = .ok (.iload_n 2, 1) := by decide +kernel
theorem dX8_leastNow_40 : decode cX8_leastNow 40 = .ok (.goto 4, 3) := by decide +kernel
theorem dX8_leastNow_43 : decode cX8_leastNow 43 = .ok (.iconst (-1), 1) := by decide +kernel
theorem dX8_leastNow_44 : decode cX8_leastNow 44 = .ok (.istore_n 1, 1) := by decide +kernel
theorem dX8_leastNow_45 : decode cX8_leastNow 45 = .ok (.iinc 2 1, 3) := by decide +kernel
theorem dX8_leastNow_48 : decode cX8_leastNow 48 = .ok (.goto (-40), 3) := by decide +kernel
theorem dX8_leastNow_51 : decode cX8_leastNow 51 = .ok (.iload_n 1, 1) := by decide +kernel
theorem dX8_leastNow_52 : decode cX8_leastNow 52 = .ok (.ireturn, 1) := by decide +kernel
theorem dX8_least_0 : decode cX8_least 0 = .ok (.aload_n 0, 1) := by decide +kernel
theorem dX8_least_1 : decode cX8_least 1 = .ok (.invokevirtual 259, 3) := by decide +kernel
theorem dX8_least_4 : decode cX8_least 4 = .ok (.ireturn, 1) := by decide +kernel
theorem dX8_sendOf_0 : decode cX8_sendOf 0 = .ok (.aload_n 0, 1) := by decide +kernel
theorem dX8_sendOf_1 : decode cX8_sendOf 1 = .ok (.invokevirtual 213, 3) := by decide +kernel
theorem dX8_sendOf_4 : decode cX8_sendOf 4 = .ok (.iconst (-1), 1) := by decide +kernel
theorem dX8_sendOf_5 : decode cX8_sendOf 5 = .ok (.istore_n 2, 1) := by decide +kernel
theorem dX8_sendOf_6 : decode cX8_sendOf 6 = .ok (.iconst (-1), 1) := by decide +kernel
theorem dX8_sendOf_7 : decode cX8_sendOf 7 = .ok (.istore_n 3, 1) := by decide +kernel
theorem dX8_sendOf_8 : decode cX8_sendOf 8 = .ok (.aload_n 0, 1) := by decide +kernel
theorem dX8_sendOf_9 : decode cX8_sendOf 9 = .ok (.aload_n 0, 1) := by decide +kernel
theorem dX8_sendOf_10 : decode cX8_sendOf 10 = .ok (.getfield 114, 3) := by decide +kernel
theorem dX8_sendOf_13 : decode cX8_sendOf 13 = .ok (.iconst 1, 1) := by decide +kernel
theorem dX8_sendOf_14 : decode cX8_sendOf 14 = .ok (.isub, 1) := by decide +kernel
theorem dX8_sendOf_15 : decode cX8_sendOf 15 = .ok (.putfield 167, 3) := by decide +kernel
theorem dX8_sendOf_18 : decode cX8_sendOf 18 = .ok (.iconst 0, 1) := by decide +kernel
theorem dX8_sendOf_19 : decode cX8_sendOf 19 = .ok (.istore 4, 2) := by decide +kernel
theorem dX8_sendOf_21 : decode cX8_sendOf 21 = .ok (.iload 4, 2) := by decide +kernel
theorem dX8_sendOf_23 : decode cX8_sendOf 23 = .ok (.aload_n 0, 1) := by decide +kernel
theorem dX8_sendOf_24 : decode cX8_sendOf 24 = .ok (.getfield 114, 3) := by decide +kernel
theorem dX8_sendOf_27 : decode cX8_sendOf 27 = .ok (.if_icmp .ge 86, 3) := by decide +kernel
theorem dX8_sendOf_30 : decode cX8_sendOf 30 = .ok (.iconst 0, 1) := by decide +kernel
theorem dX8_sendOf_31 : decode cX8_sendOf 31 = .ok (.istore 5, 2) := by decide +kernel
theorem dX8_sendOf_33 : decode cX8_sendOf 33 = .ok (.iload 5, 2) := by decide +kernel
theorem dX8_sendOf_35 : decode cX8_sendOf 35 = .ok (.aload_n 0, 1) := by decide +kernel
theorem dX8_sendOf_36 : decode cX8_sendOf 36 = .ok (.getfield 167, 3) := by decide +kernel
theorem dX8_sendOf_39 : decode cX8_sendOf 39 = .ok (.if_icmp .ge 32, 3) := by decide +kernel
theorem dX8_sendOf_42 : decode cX8_sendOf 42 = .ok (.aload_n 0, 1) := by decide +kernel
theorem dX8_sendOf_43 : decode cX8_sendOf 43 = .ok (.getfield 43, 3) := by decide +kernel
theorem dX8_sendOf_46 : decode cX8_sendOf 46 = .ok (.iload 5, 2) := by decide +kernel
theorem dX8_sendOf_48 : decode cX8_sendOf 48 = .ok (.iload 5, 2) := by decide +kernel
theorem dX8_sendOf_50 : decode cX8_sendOf 50 = .ok (.iload 4, 2) := by decide +kernel
theorem dX8_sendOf_52 : decode cX8_sendOf 52 = .ok (.if_icmp .ge 8, 3) := by decide +kernel
theorem dX8_sendOf_55 : decode cX8_sendOf 55 = .ok (.iload 5, 2) := by decide +kernel
theorem dX8_sendOf_57 : decode cX8_sendOf 57 = .ok (.goto 7, 3) := by decide +kernel
theorem dX8_sendOf_60 : decode cX8_sendOf 60 = .ok (.iload 5, 2) := by decide +kernel
theorem dX8_sendOf_62 : decode cX8_sendOf 62 = .ok (.iconst 1, 1) := by decide +kernel
theorem dX8_sendOf_63 : decode cX8_sendOf 63 = .ok (.iadd, 1) := by decide +kernel
theorem dX8_sendOf_64 : decode cX8_sendOf 64 = .ok (.iastore, 1) := by decide +kernel
theorem dX8_sendOf_65 : decode cX8_sendOf 65 = .ok (.iinc 5 1, 3) := by decide +kernel
theorem dX8_sendOf_68 : decode cX8_sendOf 68 = .ok (.goto (-35), 3) := by decide +kernel
theorem dX8_sendOf_71 : decode cX8_sendOf 71 = .ok (.aload_n 0, 1) := by decide +kernel
theorem dX8_sendOf_72 : decode cX8_sendOf 72 = .ok (.invokevirtual 216, 3) := by decide +kernel
theorem dX8_sendOf_75 : decode cX8_sendOf 75 = .ok (.aload_n 0, 1) := by decide +kernel
theorem dX8_sendOf_76 : decode cX8_sendOf 76 = .ok (.invokevirtual 231, 3) := by decide +kernel
theorem dX8_sendOf_79 : decode cX8_sendOf 79 = .ok (.istore 5, 2) := by decide +kernel
theorem dX8_sendOf_81 : decode cX8_sendOf 81 = .ok (.iload 5, 2) := by decide +kernel
theorem dX8_sendOf_83 : decode cX8_sendOf 83 = .ok (.iload_n 3, 1) := by decide +kernel
theorem dX8_sendOf_84 : decode cX8_sendOf 84 = .ok (.if_icmp .le 8, 3) := by decide +kernel
theorem dX8_sendOf_87 : decode cX8_sendOf 87 = .ok (.iload 4, 2) := by decide +kernel
theorem dX8_sendOf_89 : decode cX8_sendOf 89 = .ok (.goto 4, 3) := by decide +kernel
theorem dX8_sendOf_92 : decode cX8_sendOf 92 = .ok (.iload_n 2, 1) := by decide +kernel
theorem dX8_sendOf_93 : decode cX8_sendOf 93 = .ok (.istore_n 2, 1) := by decide +kernel
theorem dX8_sendOf_94 : decode cX8_sendOf 94 = .ok (.iload 5, 2) := by decide +kernel
theorem dX8_sendOf_96 : decode cX8_sendOf 96 = .ok (.iload_n 3, 1) := by decide +kernel
theorem dX8_sendOf_97 : decode cX8_sendOf 97 = .ok (.if_icmp .le 8, 3) := by decide +kernel
theorem dX8_sendOf_100 : decode cX8_sendOf 100 = .ok (.iload 5, 2) := by decide +kernel
theorem dX8_sendOf_102 : decode cX8_sendOf 102 = .ok (.goto 4, 3) := by decide +kernel
theorem dX8_sendOf_105 : decode cX8_sendOf 105 = .ok (.iload_n 3, 1) := by decide +kernel
theorem dX8_sendOf_106 : decode cX8_sendOf 106 = .ok (.istore_n 3, 1) := by decide +kernel
theorem dX8_sendOf_107 : decode cX8_sendOf 107 = .ok (.iinc 4 1, 3) := by decide +kernel
theorem dX8_sendOf_110 : decode cX8_sendOf 110 = .ok (.goto (-89), 3) := by decide +kernel
theorem dX8_sendOf_113 : decode cX8_sendOf 113 = .ok (.iload_n 1, 1) := by decide +kernel
theorem dX8_sendOf_114 : decode cX8_sendOf 114 = .ok (.ifCond .ne 7, 3) := by decide +kernel
theorem dX8_sendOf_117 : decode cX8_sendOf 117 = .ok (.iload_n 2, 1) := by decide +kernel
theorem dX8_sendOf_118 : decode cX8_sendOf 118 = .ok (.goto 4, 3) := by decide +kernel
theorem dX8_sendOf_121 : decode cX8_sendOf 121 = .ok (.iload_n 3, 1) := by decide +kernel
theorem dX8_sendOf_122 : decode cX8_sendOf 122 = .ok (.ireturn, 1) := by decide +kernel
theorem dX8_send_0 : decode cX8_send 0 = .ok (.iload_n 1, 1) := by decide +kernel
theorem dX8_send_1 : decode cX8_send 1 = .ok (.iconst 0, 1) := by decide +kernel
theorem dX8_send_2 : decode cX8_send 2 = .ok (.iconst 1, 1) := by decide +kernel
theorem dX8_send_3 : decode cX8_send 3 = .ok (.invokestatic 94, 3) := by decide +kernel
theorem dX8_send_6 : decode cX8_send 6 = .ok (.ifCond .eq 11, 3) := by decide +kernel
theorem dX8_send_9 : decode cX8_send 9 = .ok (.aload_n 0, 1) := by decide +kernel
theorem dX8_send_10 : decode cX8_send 10 = .ok (.iload_n 1, 1) := by decide +kernel
theorem dX8_send_11 : decode cX8_send 11 = .ok (.invokevirtual 262, 3) := by decide +kernel
theorem dX8_send_14 : decode cX8_send 14 = .ok (.goto 5, 3) := by decide +kernel
theorem dX8_send_17 : decode cX8_send 17 = .ok (.bipush (-2), 2) := by decide +kernel
theorem dX8_send_19 : decode cX8_send 19 = .ok (.ireturn, 1) := by decide +kernel
theorem dX8_seen_0 : decode cX8_seen 0 = .ok (.iload_n 1, 1) := by decide +kernel
theorem dX8_seen_1 : decode cX8_seen 1 = .ok (.invokestatic 134, 3) := by decide +kernel
theorem dX8_seen_4 : decode cX8_seen 4 = .ok (.ifCond .eq 13, 3) := by decide +kernel
theorem dX8_seen_7 : decode cX8_seen 7 = .ok (.iload_n 2, 1) := by decide +kernel
theorem dX8_seen_8 : decode cX8_seen 8 = .ok (.iconst 0, 1) := by decide +kernel
theorem dX8_seen_9 : decode cX8_seen 9 = .ok (.bipush 20, 2) := by decide +kernel
theorem dX8_seen_11 : decode cX8_seen 11 = .ok (.invokestatic 94, 3) := by decide +kernel
theorem dX8_seen_14 : decode cX8_seen 14 = .ok (.ifCond .ne 6, 3) := by decide +kernel
theorem dX8_seen_17 : decode cX8_seen 17 = .ok (.bipush (-2), 2) := by decide +kernel
theorem dX8_seen_19 : decode cX8_seen 19 = .ok (.ireturn, 1) := by decide +kernel
theorem dX8_seen_20 : decode cX8_seen 20 = .ok (.aload_n 0, 1) := by decide +kernel
theorem dX8_seen_21 : decode cX8_seen 21 = .ok (.getfield 265, 3) := by decide +kernel
theorem dX8_seen_24 : decode cX8_seen 24 = .ok (.bipush 8, 2) := by decide +kernel
theorem dX8_seen_26 : decode cX8_seen 26 = .ok (.if_icmp .ne 6, 3) := by decide +kernel
theorem dX8_seen_29 : decode cX8_seen 29 = .ok (.bipush (-4), 2) := by decide +kernel
theorem dX8_seen_31 : decode cX8_seen 31 = .ok (.ireturn, 1) := by decide +kernel
theorem dX8_seen_32 : decode cX8_seen 32 = .ok (.aload_n 0, 1) := by decide +kernel
theorem dX8_seen_33 : decode cX8_seen 33 = .ok (.getfield 67, 3) := by decide +kernel
theorem dX8_seen_36 : decode cX8_seen 36 = .ok (.aload_n 0, 1) := by decide +kernel
theorem dX8_seen_37 : decode cX8_seen 37 = .ok (.getfield 265, 3) := by decide +kernel
theorem dX8_seen_40 : decode cX8_seen 40 = .ok (.iload_n 1, 1) := by decide +kernel
theorem dX8_seen_41 : decode cX8_seen 41 = .ok (.iastore, 1) := by decide +kernel
theorem dX8_seen_42 : decode cX8_seen 42 = .ok (.aload_n 0, 1) := by decide +kernel
theorem dX8_seen_43 : decode cX8_seen 43 = .ok (.getfield 70, 3) := by decide +kernel
theorem dX8_seen_46 : decode cX8_seen 46 = .ok (.aload_n 0, 1) := by decide +kernel
theorem dX8_seen_47 : decode cX8_seen 47 = .ok (.getfield 265, 3) := by decide +kernel
theorem dX8_seen_50 : decode cX8_seen 50 = .ok (.iload_n 2, 1) := by decide +kernel
theorem dX8_seen_51 : decode cX8_seen 51 = .ok (.iastore, 1) := by decide +kernel
theorem dX8_seen_52 : decode cX8_seen 52 = .ok (.aload_n 0, 1) := by decide +kernel
theorem dX8_seen_53 : decode cX8_seen 53 = .ok (.dup, 1) := by decide +kernel
theorem dX8_seen_54 : decode cX8_seen 54 = .ok (.getfield 265, 3) := by decide +kernel
theorem dX8_seen_57 : decode cX8_seen 57 = .ok (.iconst 1, 1) := by decide +kernel
theorem dX8_seen_58 : decode cX8_seen 58 = .ok (.iadd, 1) := by decide +kernel
theorem dX8_seen_59 : decode cX8_seen 59 = .ok (.putfield 265, 3) := by decide +kernel
theorem dX8_seen_62 : decode cX8_seen 62 = .ok (.aload_n 0, 1) := by decide +kernel
theorem dX8_seen_63 : decode cX8_seen 63 = .ok (.getfield 265, 3) := by decide +kernel
theorem dX8_seen_66 : decode cX8_seen 66 = .ok (.ireturn, 1) := by decide +kernel
theorem dX8_forget_0 : decode cX8_forget 0 = .ok (.aload_n 0, 1) := by decide +kernel
theorem dX8_forget_1 : decode cX8_forget 1 = .ok (.getfield 265, 3) := by decide +kernel
theorem dX8_forget_4 : decode cX8_forget 4 = .ok (.istore_n 1, 1) := by decide +kernel
theorem dX8_forget_5 : decode cX8_forget 5 = .ok (.aload_n 0, 1) := by decide +kernel
theorem dX8_forget_6 : decode cX8_forget 6 = .ok (.iconst 0, 1) := by decide +kernel
theorem dX8_forget_7 : decode cX8_forget 7 = .ok (.putfield 265, 3) := by decide +kernel
theorem dX8_forget_10 : decode cX8_forget 10 = .ok (.iload_n 1, 1) := by decide +kernel
theorem dX8_forget_11 : decode cX8_forget 11 = .ok (.ireturn, 1) := by decide +kernel
theorem dX8_isSeen_0 : decode cX8_isSeen 0 = .ok (.aload_n 0, 1) := by decide +kernel
theorem dX8_isSeen_1 : decode cX8_isSeen 1 = .ok (.invokevirtual 216, 3) := by decide +kernel
theorem dX8_isSeen_4 : decode cX8_isSeen 4 = .ok (.iconst 1, 1) := by decide +kernel
theorem dX8_isSeen_5 : decode cX8_isSeen 5 = .ok (.istore_n 1, 1) := by decide +kernel
theorem dX8_isSeen_6 : decode cX8_isSeen 6 = .ok (.iconst 0, 1) := by decide +kernel
theorem dX8_isSeen_7 : decode cX8_isSeen 7 = .ok (.istore_n 2, 1) := by decide +kernel
theorem dX8_isSeen_8 : decode cX8_isSeen 8 = .ok (.iload_n 2, 1) := by decide +kernel
theorem dX8_isSeen_9 : decode cX8_isSeen 9 = .ok (.aload_n 0, 1) := by decide +kernel
theorem dX8_isSeen_10 : decode cX8_isSeen 10 = .ok (.getfield 265, 3) := by decide +kernel
theorem dX8_isSeen_13 : decode cX8_isSeen 13 = .ok (.if_icmp .ge 39, 3) := by decide +kernel
theorem dX8_isSeen_16 : decode cX8_isSeen 16 = .ok (.iload_n 1, 1) := by decide +kernel
theorem dX8_isSeen_17 : decode cX8_isSeen 17 = .ok (.ifCond .eq 35, 3) := by decide +kernel
theorem dX8_isSeen_20 : decode cX8_isSeen 20 = .ok (.aload_n 0, 1) := by decide +kernel
theorem dX8_isSeen_21 : decode cX8_isSeen 21 = .ok (.getfield 46, 3) := by decide +kernel
theorem dX8_isSeen_24 : decode cX8_isSeen 24 = .ok (.aload_n 0, 1) := by decide +kernel
theorem dX8_isSeen_25 : decode cX8_isSeen 25 = .ok (.getfield 67, 3) := by decide +kernel
theorem dX8_isSeen_28 : decode cX8_isSeen 28 = .ok (.iload_n 2, 1) := by decide +kernel
theorem dX8_isSeen_29 : decode cX8_isSeen 29 = .ok (.iaload, 1) := by decide +kernel
theorem dX8_isSeen_30 : decode cX8_isSeen 30 = .ok (.iaload, 1) := by decide +kernel
theorem dX8_isSeen_31 : decode cX8_isSeen 31 = .ok (.aload_n 0, 1) := by decide +kernel
theorem dX8_isSeen_32 : decode cX8_isSeen 32 = .ok (.getfield 70, 3) := by decide +kernel
theorem dX8_isSeen_35 : decode cX8_isSeen 35 = .ok (.iload_n 2, 1) := by decide +kernel
theorem dX8_isSeen_36 : decode cX8_isSeen 36 = .ok (.iaload, 1) := by decide +kernel
theorem dX8_isSeen_37 : decode cX8_isSeen 37 = .ok (.if_icmp .ne 7, 3) := by decide +kernel
theorem dX8_isSeen_40 : decode cX8_isSeen 40 = .ok (.iconst 1, 1) := by decide +kernel
theorem dX8_isSeen_41 : decode cX8_isSeen 41 = .ok (.goto 4, 3) := by decide +kernel
theorem dX8_isSeen_44 : decode cX8_isSeen 44 = .ok (.iconst 0, 1) := by decide +kernel
theorem dX8_isSeen_45 : decode cX8_isSeen 45 = .ok (.istore_n 1, 1) := by decide +kernel
theorem dX8_isSeen_46 : decode cX8_isSeen 46 = .ok (.iinc 2 1, 3) := by decide +kernel
theorem dX8_isSeen_49 : decode cX8_isSeen 49 = .ok (.goto (-41), 3) := by decide +kernel
theorem dX8_isSeen_52 : decode cX8_isSeen 52 = .ok (.iload_n 1, 1) := by decide +kernel
theorem dX8_isSeen_53 : decode cX8_isSeen 53 = .ok (.ireturn, 1) := by decide +kernel
theorem dX8_neverNow_0 : decode cX8_neverNow 0 = .ok (.aload_n 0, 1) := by decide +kernel
theorem dX8_neverNow_1 : decode cX8_neverNow 1 = .ok (.invokevirtual 213, 3) := by decide +kernel
theorem dX8_neverNow_4 : decode cX8_neverNow 4 = .ok (.iconst 0, 1) := by decide +kernel
theorem dX8_neverNow_5 : decode cX8_neverNow 5 = .ok (.istore_n 1, 1) := by decide +kernel
theorem dX8_neverNow_6 : decode cX8_neverNow 6 = .ok (.iconst 0, 1) := by decide +kernel
theorem dX8_neverNow_7 : decode cX8_neverNow 7 = .ok (.istore_n 2, 1) := by decide +kernel
theorem dX8_neverNow_8 : decode cX8_neverNow 8 = .ok (.iload_n 2, 1) := by decide +kernel
theorem dX8_neverNow_9 : decode cX8_neverNow 9 = .ok (.aload_n 0, 1) := by decide +kernel
theorem dX8_neverNow_10 : decode cX8_neverNow 10 = .ok (.getfield 146, 3) := by decide +kernel
theorem dX8_neverNow_13 : decode cX8_neverNow 13 = .ok (.if_icmp .ge 33, 3) := by decide +kernel
theorem dX8_neverNow_16 : decode cX8_neverNow 16 = .ok (.aload_n 0, 1) := by decide +kernel
theorem dX8_neverNow_17 : decode cX8_neverNow 17 = .ok (.iconst 1, 1) := by decide +kernel
theorem dX8_neverNow_18 : decode cX8_neverNow 18 = .ok (.iload_n 2, 1) := by decide +kernel
theorem dX8_neverNow_19 : decode cX8_neverNow 19 = .ok (.ishl, 1) := by decide +kernel
theorem dX8_neverNow_20 : decode cX8_neverNow 20 = .ok (.putfield 161, 3) := by decide +kernel
theorem dX8_neverNow_23 : decode cX8_neverNow 23 = .ok (.iload_n 1, 1) := by decide +kernel
theorem dX8_neverNow_24 : decode cX8_neverNow 24 = .ok (.aload_n 0, 1) := by decide +kernel
theorem dX8_neverNow_25 : decode cX8_neverNow 25 = .ok (.invokevirtual 268, 3) := by decide +kernel
theorem dX8_neverNow_28 : decode cX8_neverNow 28 = .ok (.ifCond .eq 9, 3) := by decide +kernel
theorem dX8_neverNow_31 : decode cX8_neverNow 31 = .ok (.iconst 1, 1) := by decide +kernel
theorem dX8_neverNow_32 : decode cX8_neverNow 32 = .ok (.iload_n 2, 1) := by decide +kernel
theorem dX8_neverNow_33 : decode cX8_neverNow 33 = .ok (.ishl, 1) := by decide +kernel
theorem dX8_neverNow_34 : decode cX8_neverNow 34 = .ok (.goto 4, 3) := by decide +kernel
theorem dX8_neverNow_37 : decode cX8_neverNow 37 = .ok (.iconst 0, 1) := by decide +kernel
theorem dX8_neverNow_38 : decode cX8_neverNow 38 = .ok (.ior, 1) := by decide +kernel
theorem dX8_neverNow_39 : decode cX8_neverNow 39 = .ok (.istore_n 1, 1) := by decide +kernel
theorem dX8_neverNow_40 : decode cX8_neverNow 40 = .ok (.iinc 2 1, 3) := by decide +kernel
theorem dX8_neverNow_43 : decode cX8_neverNow 43 = .ok (.goto (-35), 3) := by decide +kernel
theorem dX8_neverNow_46 : decode cX8_neverNow 46 = .ok (.iload_n 1, 1) := by decide +kernel
theorem dX8_neverNow_47 : decode cX8_neverNow 47 = .ok (.ireturn, 1) := by decide +kernel
theorem dX8_never_0 : decode cX8_never 0 = .ok (.aload_n 0, 1) := by decide +kernel
theorem dX8_never_1 : decode cX8_never 1 = .ok (.invokevirtual 271, 3) := by decide +kernel
theorem dX8_never_4 : decode cX8_never 4 = .ok (.ireturn, 1) := by decide +kernel
theorem dX8_flowsBy_0 : decode cX8_flowsBy 0 = .ok (.aload_n 0, 1) := by decide +kernel
theorem dX8_flowsBy_1 : decode cX8_flowsBy 1 = .ok (.invokevirtual 213, 3) := by decide +kernel
theorem dX8_flowsBy_4 : decode cX8_flowsBy 4 = .ok (.iconst 0, 1) := by decide +kernel
theorem dX8_flowsBy_5 : decode cX8_flowsBy 5 = .ok (.istore_n 1, 1) := by decide +kernel
theorem dX8_flowsBy_6 : decode cX8_flowsBy 6 = .ok (.iconst 1, 1) := by decide +kernel
theorem dX8_flowsBy_7 : decode cX8_flowsBy 7 = .ok (.istore_n 2, 1) := by decide +kernel
theorem dX8_flowsBy_8 : decode cX8_flowsBy 8 = .ok (.iload_n 2, 1) := by decide +kernel
theorem dX8_flowsBy_9 : decode cX8_flowsBy 9 = .ok (.bipush 10, 2) := by decide +kernel
theorem dX8_flowsBy_11 : decode cX8_flowsBy 11 = .ok (.if_icmp .ge 31, 3) := by decide +kernel
theorem dX8_flowsBy_14 : decode cX8_flowsBy 14 = .ok (.aload_n 0, 1) := by decide +kernel
theorem dX8_flowsBy_15 : decode cX8_flowsBy 15 = .ok (.iload_n 2, 1) := by decide +kernel
theorem dX8_flowsBy_16 : decode cX8_flowsBy 16 = .ok (.putfield 173, 3) := by decide +kernel
theorem dX8_flowsBy_19 : decode cX8_flowsBy 19 = .ok (.iload_n 1, 1) := by decide +kernel
theorem dX8_flowsBy_20 : decode cX8_flowsBy 20 = .ok (.aload_n 0, 1) := by decide +kernel
theorem dX8_flowsBy_21 : decode cX8_flowsBy 21 = .ok (.invokevirtual 268, 3) := by decide +kernel
theorem dX8_flowsBy_24 : decode cX8_flowsBy 24 = .ok (.ifCond .eq 9, 3) := by decide +kernel
theorem dX8_flowsBy_27 : decode cX8_flowsBy 27 = .ok (.iconst 1, 1) := by decide +kernel
theorem dX8_flowsBy_28 : decode cX8_flowsBy 28 = .ok (.iload_n 2, 1) := by decide +kernel
theorem dX8_flowsBy_29 : decode cX8_flowsBy 29 = .ok (.ishl, 1) := by decide +kernel
theorem dX8_flowsBy_30 : decode cX8_flowsBy 30 = .ok (.goto 4, 3) := by decide +kernel
theorem dX8_flowsBy_33 : decode cX8_flowsBy 33 = .ok (.iconst 0, 1) := by decide +kernel
theorem dX8_flowsBy_34 : decode cX8_flowsBy 34 = .ok (.ior, 1) := by decide +kernel
theorem dX8_flowsBy_35 : decode cX8_flowsBy 35 = .ok (.istore_n 1, 1) := by decide +kernel
theorem dX8_flowsBy_36 : decode cX8_flowsBy 36 = .ok (.iinc 2 1, 3) := by decide +kernel
theorem dX8_flowsBy_39 : decode cX8_flowsBy 39 = .ok (.goto (-31), 3) := by decide +kernel
theorem dX8_flowsBy_42 : decode cX8_flowsBy 42 = .ok (.iload_n 1, 1) := by decide +kernel
theorem dX8_flowsBy_43 : decode cX8_flowsBy 43 = .ok (.ireturn, 1) := by decide +kernel
theorem dX8_startsBy_0 : decode cX8_startsBy 0 = .ok (.aload_n 0, 1) := by decide +kernel
theorem dX8_startsBy_1 : decode cX8_startsBy 1 = .ok (.invokevirtual 213, 3) := by decide +kernel
theorem dX8_startsBy_4 : decode cX8_startsBy 4 = .ok (.iconst 0, 1) := by decide +kernel
theorem dX8_startsBy_5 : decode cX8_startsBy 5 = .ok (.istore_n 1, 1) := by decide +kernel
theorem dX8_startsBy_6 : decode cX8_startsBy 6 = .ok (.iconst 0, 1) := by decide +kernel
theorem dX8_startsBy_7 : decode cX8_startsBy 7 = .ok (.istore_n 2, 1) := by decide +kernel
theorem dX8_startsBy_8 : decode cX8_startsBy 8 = .ok (.iload_n 2, 1) := by decide +kernel
theorem dX8_startsBy_9 : decode cX8_startsBy 9 = .ok (.bipush 21, 2) := by decide +kernel
theorem dX8_startsBy_11 : decode cX8_startsBy 11 = .ok (.if_icmp .ge 62, 3) := by decide +kernel
theorem dX8_startsBy_14 : decode cX8_startsBy 14 = .ok (.aload_n 0, 1) := by decide +kernel
theorem dX8_startsBy_15 : decode cX8_startsBy 15 = .ok (.iload_n 2, 1) := by decide +kernel
theorem dX8_startsBy_16 : decode cX8_startsBy 16 = .ok (.putfield 170, 3) := by decide +kernel
theorem dX8_startsBy_19 : decode cX8_startsBy 19 = .ok (.iload_n 1, 1) := by decide +kernel
theorem dX8_startsBy_20 : decode cX8_startsBy 20 = .ok (.aload_n 0, 1) := by decide +kernel
theorem dX8_startsBy_21 : decode cX8_startsBy 21 = .ok (.invokevirtual 268, 3) := by decide +kernel
theorem dX8_startsBy_24 : decode cX8_startsBy 24 = .ok (.ifCond .eq 9, 3) := by decide +kernel
theorem dX8_startsBy_27 : decode cX8_startsBy 27 = .ok (.iconst 1, 1) := by decide +kernel
theorem dX8_startsBy_28 : decode cX8_startsBy 28 = .ok (.iload_n 2, 1) := by decide +kernel
theorem dX8_startsBy_29 : decode cX8_startsBy 29 = .ok (.ishl, 1) := by decide +kernel
theorem dX8_startsBy_30 : decode cX8_startsBy 30 = .ok (.goto 4, 3) := by decide +kernel
theorem dX8_startsBy_33 : decode cX8_startsBy 33 = .ok (.iconst 0, 1) := by decide +kernel
theorem dX8_startsBy_34 : decode cX8_startsBy 34 = .ok (.ior, 1) := by decide +kernel
theorem dX8_startsBy_35 : decode cX8_startsBy 35 = .ok (.istore_n 1, 1) := by decide +kernel
theorem dX8_startsBy_36 : decode cX8_startsBy 36 = .ok (.iconst 0, 1) := by decide +kernel
theorem dX8_startsBy_37 : decode cX8_startsBy 37 = .ok (.istore_n 3, 1) := by decide +kernel
theorem dX8_startsBy_38 : decode cX8_startsBy 38 = .ok (.iload_n 3, 1) := by decide +kernel
theorem dX8_startsBy_39 : decode cX8_startsBy 39 = .ok (.bipush 40, 2) := by decide +kernel
theorem dX8_startsBy_41 : decode cX8_startsBy 41 = .ok (.if_icmp .ge 26, 3) := by decide +kernel
theorem dX8_startsBy_44 : decode cX8_startsBy 44 = .ok (.aload_n 0, 1) := by decide +kernel
theorem dX8_startsBy_45 : decode cX8_startsBy 45 = .ok (.getfield 73, 3) := by decide +kernel
theorem dX8_startsBy_48 : decode cX8_startsBy 48 = .ok (.bipush 40, 2) := by decide +kernel
theorem dX8_startsBy_50 : decode cX8_startsBy 50 = .ok (.iload_n 2, 1) := by decide +kernel
theorem dX8_startsBy_51 : decode cX8_startsBy 51 = .ok (.imul, 1) := by decide +kernel
theorem dX8_startsBy_52 : decode cX8_startsBy 52 = .ok (.iload_n 3, 1) := by decide +kernel
theorem dX8_startsBy_53 : decode cX8_startsBy 53 = .ok (.iadd, 1) := by decide +kernel
theorem dX8_startsBy_54 : decode cX8_startsBy 54 = .ok (.aload_n 0, 1) := by decide +kernel
theorem dX8_startsBy_55 : decode cX8_startsBy 55 = .ok (.getfield 46, 3) := by decide +kernel
theorem dX8_startsBy_58 : decode cX8_startsBy 58 = .ok (.iload_n 3, 1) := by decide +kernel
theorem dX8_startsBy_59 : decode cX8_startsBy 59 = .ok (.iaload, 1) := by decide +kernel
theorem dX8_startsBy_60 : decode cX8_startsBy 60 = .ok (.iastore, 1) := by decide +kernel
theorem dX8_startsBy_61 : decode cX8_startsBy 61 = .ok (.iinc 3 1, 3) := by decide +kernel
theorem dX8_startsBy_64 : decode cX8_startsBy 64 = .ok (.goto (-26), 3) := by decide +kernel
theorem dX8_startsBy_67 : decode cX8_startsBy 67 = .ok (.iinc 2 1, 3) := by decide +kernel
theorem dX8_startsBy_70 : decode cX8_startsBy 70 = .ok (.goto (-62), 3) := by decide +kernel
theorem dX8_startsBy_73 : decode cX8_startsBy 73 = .ok (.iload_n 1, 1) := by decide +kernel
theorem dX8_startsBy_74 : decode cX8_startsBy 74 = .ok (.ireturn, 1) := by decide +kernel
theorem dX8_was_0 : decode cX8_was 0 = .ok (.iload_n 1, 1) := by decide +kernel
theorem dX8_was_1 : decode cX8_was 1 = .ok (.iconst 0, 1) := by decide +kernel
theorem dX8_was_2 : decode cX8_was 2 = .ok (.iconst 1, 1) := by decide +kernel
theorem dX8_was_3 : decode cX8_was 3 = .ok (.invokestatic 94, 3) := by decide +kernel
theorem dX8_was_6 : decode cX8_was 6 = .ok (.ifCond .eq 21, 3) := by decide +kernel
theorem dX8_was_9 : decode cX8_was 9 = .ok (.iload_n 1, 1) := by decide +kernel
theorem dX8_was_10 : decode cX8_was 10 = .ok (.ifCond .ne 10, 3) := by decide +kernel
theorem dX8_was_13 : decode cX8_was 13 = .ok (.aload_n 0, 1) := by decide +kernel
theorem dX8_was_14 : decode cX8_was 14 = .ok (.invokevirtual 274, 3) := by decide +kernel
theorem dX8_was_17 : decode cX8_was 17 = .ok (.goto 12, 3) := by decide +kernel
theorem dX8_was_20 : decode cX8_was 20 = .ok (.aload_n 0, 1) := by decide +kernel
theorem dX8_was_21 : decode cX8_was 21 = .ok (.invokevirtual 277, 3) := by decide +kernel
theorem dX8_was_24 : decode cX8_was 24 = .ok (.goto 5, 3) := by decide +kernel
theorem dX8_was_27 : decode cX8_was 27 = .ok (.bipush (-2), 2) := by decide +kernel
theorem dX8_was_29 : decode cX8_was 29 = .ok (.ireturn, 1) := by decide +kernel
theorem dX8_askNow_0 : decode cX8_askNow 0 = .ok (.aload_n 0, 1) := by decide +kernel
theorem dX8_askNow_1 : decode cX8_askNow 1 = .ok (.invokevirtual 277, 3) := by decide +kernel
theorem dX8_askNow_4 : decode cX8_askNow 4 = .ok (.istore_n 1, 1) := by decide +kernel
theorem dX8_askNow_5 : decode cX8_askNow 5 = .ok (.iconst (-1), 1) := by decide +kernel
theorem dX8_askNow_6 : decode cX8_askNow 6 = .ok (.istore_n 2, 1) := by decide +kernel
theorem dX8_askNow_7 : decode cX8_askNow 7 = .ok (.iconst 0, 1) := by decide +kernel
theorem dX8_askNow_8 : decode cX8_askNow 8 = .ok (.istore_n 3, 1) := by decide +kernel
theorem dX8_askNow_9 : decode cX8_askNow 9 = .ok (.iconst 0, 1) := by decide +kernel
theorem dX8_askNow_10 : decode cX8_askNow 10 = .ok (.istore 4, 2) := by decide +kernel
theorem dX8_askNow_12 : decode cX8_askNow 12 = .ok (.iload 4, 2) := by decide +kernel
theorem dX8_askNow_14 : decode cX8_askNow 14 = .ok (.bipush 40, 2) := by decide +kernel
theorem dX8_askNow_16 : decode cX8_askNow 16 = .ok (.if_icmp .ge 162, 3) := by decide +kernel
theorem dX8_askNow_19 : decode cX8_askNow 19 = .ok (.iconst 0, 1) := by decide +kernel
theorem dX8_askNow_20 : decode cX8_askNow 20 = .ok (.istore 5, 2) := by decide +kernel
theorem dX8_askNow_22 : decode cX8_askNow 22 = .ok (.iconst 0, 1) := by decide +kernel
theorem dX8_askNow_23 : decode cX8_askNow 23 = .ok (.istore 6, 2) := by decide +kernel
theorem dX8_askNow_25 : decode cX8_askNow 25 = .ok (.iload 6, 2) := by decide +kernel
theorem dX8_askNow_27 : decode cX8_askNow 27 = .ok (.bipush 21, 2) := by decide +kernel
theorem dX8_askNow_29 : decode cX8_askNow 29 = .ok (.if_icmp .ge 101, 3) := by decide +kernel
theorem dX8_askNow_32 : decode cX8_askNow 32 = .ok (.iconst 0, 1) := by decide +kernel
theorem dX8_askNow_33 : decode cX8_askNow 33 = .ok (.istore 7, 2) := by decide +kernel
theorem dX8_askNow_35 : decode cX8_askNow 35 = .ok (.iconst 0, 1) := by decide +kernel
theorem dX8_askNow_36 : decode cX8_askNow 36 = .ok (.istore 8, 2) := by decide +kernel
theorem dX8_askNow_38 : decode cX8_askNow 38 = .ok (.iload 8, 2) := by decide +kernel
theorem dX8_askNow_40 : decode cX8_askNow 40 = .ok (.bipush 21, 2) := by decide +kernel
theorem dX8_askNow_42 : decode cX8_askNow 42 = .ok (.if_icmp .ge 66, 3) := by decide +kernel
theorem dX8_askNow_45 : decode cX8_askNow 45 = .ok (.iload 7, 2) := by decide +kernel
theorem dX8_askNow_47 : decode cX8_askNow 47 = .ok (.iload_n 1, 1) := by decide +kernel
theorem dX8_askNow_48 : decode cX8_askNow 48 = .ok (.iload 6, 2) := by decide +kernel
theorem dX8_askNow_50 : decode cX8_askNow 50 = .ok (.invokestatic 179, 3) := by decide +kernel
theorem dX8_askNow_53 : decode cX8_askNow 53 = .ok (.ifCond .eq 45, 3) := by decide +kernel
theorem dX8_askNow_56 : decode cX8_askNow 56 = .ok (.iload_n 1, 1) := by decide +kernel
theorem dX8_askNow_57 : decode cX8_askNow 57 = .ok (.iload 8, 2) := by decide +kernel
theorem dX8_askNow_59 : decode cX8_askNow 59 = .ok (.invokestatic 179, 3) := by decide +kernel
theorem dX8_askNow_62 : decode cX8_askNow 62 = .ok (.ifCond .eq 36, 3) := by decide +kernel
theorem dX8_askNow_65 : decode cX8_askNow 65 = .ok (.aload_n 0, 1) := by decide +kernel
theorem dX8_askNow_66 : decode cX8_askNow 66 = .ok (.getfield 73, 3) := by decide +kernel
theorem dX8_askNow_69 : decode cX8_askNow 69 = .ok (.bipush 40, 2) := by decide +kernel
theorem dX8_askNow_71 : decode cX8_askNow 71 = .ok (.iload 6, 2) := by decide +kernel
theorem dX8_askNow_73 : decode cX8_askNow 73 = .ok (.imul, 1) := by decide +kernel
theorem dX8_askNow_74 : decode cX8_askNow 74 = .ok (.iload 4, 2) := by decide +kernel
theorem dX8_askNow_76 : decode cX8_askNow 76 = .ok (.iadd, 1) := by decide +kernel
theorem dX8_askNow_77 : decode cX8_askNow 77 = .ok (.iaload, 1) := by decide +kernel
theorem dX8_askNow_78 : decode cX8_askNow 78 = .ok (.aload_n 0, 1) := by decide +kernel
theorem dX8_askNow_79 : decode cX8_askNow 79 = .ok (.getfield 73, 3) := by decide +kernel
theorem dX8_askNow_82 : decode cX8_askNow 82 = .ok (.bipush 40, 2) := by decide +kernel
theorem dX8_askNow_84 : decode cX8_askNow 84 = .ok (.iload 8, 2) := by decide +kernel
theorem dX8_askNow_86 : decode cX8_askNow 86 = .ok (.imul, 1) := by decide +kernel
theorem dX8_askNow_87 : decode cX8_askNow 87 = .ok (.iload 4, 2) := by decide +kernel
theorem dX8_askNow_89 : decode cX8_askNow 89 = .ok (.iadd, 1) := by decide +kernel
theorem dX8_askNow_90 : decode cX8_askNow 90 = .ok (.iaload, 1) := by decide +kernel
theorem dX8_askNow_91 : decode cX8_askNow 91 = .ok (.if_icmp .ne 7, 3) := by decide +kernel
theorem dX8_askNow_94 : decode cX8_askNow 94 = .ok (.iconst 1, 1) := by decide +kernel
theorem dX8_askNow_95 : decode cX8_askNow 95 = .ok (.goto 4, 3) := by decide +kernel
theorem dX8_askNow_98 : decode cX8_askNow 98 = .ok (.iconst 0, 1) := by decide +kernel
theorem dX8_askNow_99 : decode cX8_askNow 99 = .ok (.iadd, 1) := by decide +kernel
theorem dX8_askNow_100 : decode cX8_askNow 100 = .ok (.istore 7, 2) := by decide +kernel
theorem dX8_askNow_102 : decode cX8_askNow 102 = .ok (.iinc 8 1, 3) := by decide +kernel
theorem dX8_askNow_105 : decode cX8_askNow 105 = .ok (.goto (-67), 3) := by decide +kernel
theorem dX8_askNow_108 : decode cX8_askNow 108 = .ok (.iload 7, 2) := by decide +kernel
theorem dX8_askNow_110 : decode cX8_askNow 110 = .ok (.iload 5, 2) := by decide +kernel
theorem dX8_askNow_112 : decode cX8_askNow 112 = .ok (.if_icmp .le 8, 3) := by decide +kernel
theorem dX8_askNow_115 : decode cX8_askNow 115 = .ok (.iload 7, 2) := by decide +kernel
theorem dX8_askNow_117 : decode cX8_askNow 117 = .ok (.goto 5, 3) := by decide +kernel
theorem dX8_askNow_120 : decode cX8_askNow 120 = .ok (.iload 5, 2) := by decide +kernel
theorem dX8_askNow_122 : decode cX8_askNow 122 = .ok (.istore 5, 2) := by decide +kernel
theorem dX8_askNow_124 : decode cX8_askNow 124 = .ok (.iinc 6 1, 3) := by decide +kernel
theorem dX8_askNow_127 : decode cX8_askNow 127 = .ok (.goto (-102), 3) := by decide +kernel
theorem dX8_askNow_130 : decode cX8_askNow 130 = .ok (.iload_n 2, 1) := by decide +kernel
theorem dX8_askNow_131 : decode cX8_askNow 131 = .ok (.iconst (-1), 1) := by decide +kernel
theorem dX8_askNow_132 : decode cX8_askNow 132 = .ok (.if_icmp .eq 9, 3) := by decide +kernel
theorem dX8_askNow_135 : decode cX8_askNow 135 = .ok (.iload 5, 2) := by decide +kernel
theorem dX8_askNow_137 : decode cX8_askNow 137 = .ok (.iload_n 3, 1) := by decide +kernel
theorem dX8_askNow_138 : decode cX8_askNow 138 = .ok (.if_icmp .ge 7, 3) := by decide +kernel
theorem dX8_askNow_141 : decode cX8_askNow 141 = .ok (.iconst 1, 1) := by decide +kernel
theorem dX8_askNow_142 : decode cX8_askNow 142 = .ok (.goto 4, 3) := by decide +kernel
theorem dX8_askNow_145 : decode cX8_askNow 145 = .ok (.iconst 0, 1) := by decide +kernel
theorem dX8_askNow_146 : decode cX8_askNow 146 = .ok (.istore 6, 2) := by decide +kernel
theorem dX8_askNow_148 : decode cX8_askNow 148 = .ok (.iload 6, 2) := by decide +kernel
theorem dX8_askNow_150 : decode cX8_askNow 150 = .ok (.ifCond .eq 8, 3) := by decide +kernel
theorem dX8_askNow_153 : decode cX8_askNow 153 = .ok (.iload 4, 2) := by decide +kernel
theorem dX8_askNow_155 : decode cX8_askNow 155 = .ok (.goto 4, 3) := by decide +kernel
theorem dX8_askNow_158 : decode cX8_askNow 158 = .ok (.iload_n 2, 1) := by decide +kernel
theorem dX8_askNow_159 : decode cX8_askNow 159 = .ok (.istore_n 2, 1) := by decide +kernel
theorem dX8_askNow_160 : decode cX8_askNow 160 = .ok (.iload 6, 2) := by decide +kernel
theorem dX8_askNow_162 : decode cX8_askNow 162 = .ok (.ifCond .eq 8, 3) := by decide +kernel
theorem dX8_askNow_165 : decode cX8_askNow 165 = .ok (.iload 5, 2) := by decide +kernel
