theorem dX8_askNow_167 : decode cX8_askNow 167 = .ok (.goto 4, 3) := by decide +kernel
theorem dX8_askNow_170 : decode cX8_askNow 170 = .ok (.iload_n 3, 1) := by decide +kernel
theorem dX8_askNow_171 : decode cX8_askNow 171 = .ok (.istore_n 3, 1) := by decide +kernel
theorem dX8_askNow_172 : decode cX8_askNow 172 = .ok (.iinc 4 1, 3) := by decide +kernel
theorem dX8_askNow_175 : decode cX8_askNow 175 = .ok (.goto (-163), 3) := by decide +kernel
theorem dX8_askNow_178 : decode cX8_askNow 178 = .ok (.iload_n 2, 1) := by decide +kernel
theorem dX8_askNow_179 : decode cX8_askNow 179 = .ok (.ireturn, 1) := by decide +kernel
theorem dX8_ask_0 : decode cX8_ask 0 = .ok (.aload_n 0, 1) := by decide +kernel
theorem dX8_ask_1 : decode cX8_ask 1 = .ok (.invokevirtual 280, 3) := by decide +kernel
theorem dX8_ask_4 : decode cX8_ask 4 = .ok (.ireturn, 1) := by decide +kernel
theorem dX8_showerOf_0 : decode cX8_showerOf 0 = .ok (.aload_n 0, 1) := by decide +kernel
theorem dX8_showerOf_1 : decode cX8_showerOf 1 = .ok (.invokevirtual 213, 3) := by decide +kernel
theorem dX8_showerOf_4 : decode cX8_showerOf 4 = .ok (.lconst 0, 1) := by decide +kernel
theorem dX8_showerOf_5 : decode cX8_showerOf 5 = .ok (.lstore 4, 2) := by decide +kernel
theorem dX8_showerOf_7 : decode cX8_showerOf 7 = .ok (.iconst 0, 1) := by decide +kernel
theorem dX8_showerOf_8 : decode cX8_showerOf 8 = .ok (.istore 6, 2) := by decide +kernel
theorem dX8_showerOf_10 : decode cX8_showerOf 10 = .ok (.iload 6, 2) := by decide +kernel
theorem dX8_showerOf_12 : decode cX8_showerOf 12 = .ok (.iconst 1, 1) := by decide +kernel
theorem dX8_showerOf_13 : decode cX8_showerOf 13 = .ok (.aload_n 0, 1) := by decide +kernel
theorem dX8_showerOf_14 : decode cX8_showerOf 14 = .ok (.getfield 146, 3) := by decide +kernel
theorem dX8_showerOf_17 : decode cX8_showerOf 17 = .ok (.ishl, 1) := by decide +kernel
theorem dX8_showerOf_18 : decode cX8_showerOf 18 = .ok (.if_icmp .ge 84, 3) := by decide +kernel
theorem dX8_showerOf_21 : decode cX8_showerOf 21 = .ok (.lconst 1, 1) := by decide +kernel
theorem dX8_showerOf_22 : decode cX8_showerOf 22 = .ok (.lstore 7, 2) := by decide +kernel
theorem dX8_showerOf_24 : decode cX8_showerOf 24 = .ok (.iconst 0, 1) := by decide +kernel
theorem dX8_showerOf_25 : decode cX8_showerOf 25 = .ok (.istore 9, 2) := by decide +kernel
theorem dX8_showerOf_27 : decode cX8_showerOf 27 = .ok (.iload 9, 2) := by decide +kernel
theorem dX8_showerOf_29 : decode cX8_showerOf 29 = .ok (.aload_n 0, 1) := by decide +kernel
theorem dX8_showerOf_30 : decode cX8_showerOf 30 = .ok (.getfield 146, 3) := by decide +kernel
theorem dX8_showerOf_33 : decode cX8_showerOf 33 = .ok (.if_icmp .ge 34, 3) := by decide +kernel
theorem dX8_showerOf_36 : decode cX8_showerOf 36 = .ok (.lload 7, 2) := by decide +kernel
theorem dX8_showerOf_38 : decode cX8_showerOf 38 = .ok (.iload 6, 2) := by decide +kernel
theorem dX8_showerOf_40 : decode cX8_showerOf 40 = .ok (.iload 9, 2) := by decide +kernel
theorem dX8_showerOf_42 : decode cX8_showerOf 42 = .ok (.invokestatic 179, 3) := by decide +kernel
theorem dX8_showerOf_45 : decode cX8_showerOf 45 = .ok (.ifCond .eq 11, 3) := by decide +kernel
theorem dX8_showerOf_48 : decode cX8_showerOf 48 = .ok (.bipush 16, 2) := by decide +kernel
theorem dX8_showerOf_50 : decode cX8_showerOf 50 = .ok (.iload_n 1, 1) := by decide +kernel
theorem dX8_showerOf_51 : decode cX8_showerOf 51 = .ok (.isub, 1) := by decide +kernel
theorem dX8_showerOf_52 : decode cX8_showerOf 52 = .ok (.i2l, 1) := by decide +kernel
theorem dX8_showerOf_53 : decode cX8_showerOf 53 = .ok (.goto 5, 3) := by decide +kernel
theorem dX8_showerOf_56 : decode cX8_showerOf 56 = .ok (.iload_n 1, 1) := by decide +kernel
theorem dX8_showerOf_57 : decode cX8_showerOf 57 = .ok (.i2l, 1) := by decide +kernel
theorem dX8_showerOf_58 : decode cX8_showerOf 58 = .ok (.lmul, 1) := by decide +kernel
theorem dX8_showerOf_59 : decode cX8_showerOf 59 = .ok (.lstore 7, 2) := by decide +kernel
theorem dX8_showerOf_61 : decode cX8_showerOf 61 = .ok (.iinc 9 1, 3) := by decide +kernel
theorem dX8_showerOf_64 : decode cX8_showerOf 64 = .ok (.goto (-37), 3) := by decide +kernel
theorem dX8_showerOf_67 : decode cX8_showerOf 67 = .ok (.aload_n 0, 1) := by decide +kernel
theorem dX8_showerOf_68 : decode cX8_showerOf 68 = .ok (.iload 6, 2) := by decide +kernel
theorem dX8_showerOf_70 : decode cX8_showerOf 70 = .ok (.putfield 161, 3) := by decide +kernel
theorem dX8_showerOf_73 : decode cX8_showerOf 73 = .ok (.aload_n 0, 1) := by decide +kernel
theorem dX8_showerOf_74 : decode cX8_showerOf 74 = .ok (.invokevirtual 216, 3) := by decide +kernel
theorem dX8_showerOf_77 : decode cX8_showerOf 77 = .ok (.lload 4, 2) := by decide +kernel
theorem dX8_showerOf_79 : decode cX8_showerOf 79 = .ok (.aload_n 0, 1) := by decide +kernel
theorem dX8_showerOf_80 : decode cX8_showerOf 80 = .ok (.iload_n 2, 1) := by decide +kernel
theorem dX8_showerOf_81 : decode cX8_showerOf 81 = .ok (.invokevirtual 228, 3) := by decide +kernel
theorem dX8_showerOf_84 : decode cX8_showerOf 84 = .ok (.ifCond .eq 8, 3) := by decide +kernel
theorem dX8_showerOf_87 : decode cX8_showerOf 87 = .ok (.lload 7, 2) := by decide +kernel
theorem dX8_showerOf_89 : decode cX8_showerOf 89 = .ok (.goto 4, 3) := by decide +kernel
theorem dX8_showerOf_92 : decode cX8_showerOf 92 = .ok (.lconst 0, 1) := by decide +kernel
theorem dX8_showerOf_93 : decode cX8_showerOf 93 = .ok (.ladd, 1) := by decide +kernel
theorem dX8_showerOf_94 : decode cX8_showerOf 94 = .ok (.lstore 4, 2) := by decide +kernel
theorem dX8_showerOf_96 : decode cX8_showerOf 96 = .ok (.iinc 6 1, 3) := by decide +kernel
theorem dX8_showerOf_99 : decode cX8_showerOf 99 = .ok (.goto (-89), 3) := by decide +kernel
theorem dX8_showerOf_102 : decode cX8_showerOf 102 = .ok (.lload 4, 2) := by decide +kernel
theorem dX8_showerOf_104 : decode cX8_showerOf 104 = .ok (.lconst 1, 1) := by decide +kernel
theorem dX8_showerOf_105 : decode cX8_showerOf 105 = .ok (.iconst 4, 1) := by decide +kernel
theorem dX8_showerOf_106 : decode cX8_showerOf 106 = .ok (.aload_n 0, 1) := by decide +kernel
theorem dX8_showerOf_107 : decode cX8_showerOf 107 = .ok (.getfield 146, 3) := by decide +kernel
theorem dX8_showerOf_110 : decode cX8_showerOf 110 = .ok (.imul, 1) := by decide +kernel
theorem dX8_showerOf_111 : decode cX8_showerOf 111 = .ok (.lshl, 1) := by decide +kernel
theorem dX8_showerOf_112 : decode cX8_showerOf 112 = .ok (.iload_n 3, 1) := by decide +kernel
theorem dX8_showerOf_113 : decode cX8_showerOf 113 = .ok (.invokestatic 283, 3) := by decide +kernel
theorem dX8_showerOf_116 : decode cX8_showerOf 116 = .ok (.lreturn, 1) := by decide +kernel
theorem dX8_shower_0 : decode cX8_shower 0 = .ok (.iload_n 1, 1) := by decide +kernel
theorem dX8_shower_1 : decode cX8_shower 1 = .ok (.iconst 0, 1) := by decide +kernel
theorem dX8_shower_2 : decode cX8_shower 2 = .ok (.bipush 16, 2) := by decide +kernel
theorem dX8_shower_4 : decode cX8_shower 4 = .ok (.invokestatic 94, 3) := by decide +kernel
theorem dX8_shower_7 : decode cX8_shower 7 = .ok (.ifCond .eq 30, 3) := by decide +kernel
theorem dX8_shower_10 : decode cX8_shower 10 = .ok (.aload_n 0, 1) := by decide +kernel
theorem dX8_shower_11 : decode cX8_shower 11 = .ok (.iload_n 2, 1) := by decide +kernel
theorem dX8_shower_12 : decode cX8_shower 12 = .ok (.invokevirtual 140, 3) := by decide +kernel
theorem dX8_shower_15 : decode cX8_shower 15 = .ok (.ifCond .eq 22, 3) := by decide +kernel
theorem dX8_shower_18 : decode cX8_shower 18 = .ok (.iload_n 3, 1) := by decide +kernel
theorem dX8_shower_19 : decode cX8_shower 19 = .ok (.iconst 0, 1) := by decide +kernel
theorem dX8_shower_20 : decode cX8_shower 20 = .ok (.iconst 1, 1) := by decide +kernel
theorem dX8_shower_21 : decode cX8_shower 21 = .ok (.invokestatic 94, 3) := by decide +kernel
theorem dX8_shower_24 : decode cX8_shower 24 = .ok (.ifCond .eq 13, 3) := by decide +kernel
theorem dX8_shower_27 : decode cX8_shower 27 = .ok (.aload_n 0, 1) := by decide +kernel
theorem dX8_shower_28 : decode cX8_shower 28 = .ok (.iload_n 1, 1) := by decide +kernel
theorem dX8_shower_29 : decode cX8_shower 29 = .ok (.iload_n 2, 1) := by decide +kernel
theorem dX8_shower_30 : decode cX8_shower 30 = .ok (.iload_n 3, 1) := by decide +kernel
theorem dX8_shower_31 : decode cX8_shower 31 = .ok (.invokevirtual 287, 3) := by decide +kernel
theorem dX8_shower_34 : decode cX8_shower 34 = .ok (.goto 8, 3) := by decide +kernel
theorem dX8_shower_37 : decode cX8_shower 37 = .ok (.bipush (-2), 2) := by decide +kernel
theorem dX8_shower_39 : decode cX8_shower 39 = .ok (.invokestatic 291, 3) := by decide +kernel
theorem dX8_shower_42 : decode cX8_shower 42 = .ok (.lreturn, 1) := by decide +kernel
theorem dX8_moonOf_0 : decode cX8_moonOf 0 = .ok (.aload_n 0, 1) := by decide +kernel
theorem dX8_moonOf_1 : decode cX8_moonOf 1 = .ok (.invokevirtual 213, 3) := by decide +kernel
theorem dX8_moonOf_4 : decode cX8_moonOf 4 = .ok (.iload_n 1, 1) := by decide +kernel
theorem dX8_moonOf_5 : decode cX8_moonOf 5 = .ok (.istore 4, 2) := by decide +kernel
theorem dX8_moonOf_7 : decode cX8_moonOf 7 = .ok (.iconst 0, 1) := by decide +kernel
theorem dX8_moonOf_8 : decode cX8_moonOf 8 = .ok (.istore 5, 2) := by decide +kernel
theorem dX8_moonOf_10 : decode cX8_moonOf 10 = .ok (.iload 5, 2) := by decide +kernel
theorem dX8_moonOf_12 : decode cX8_moonOf 12 = .ok (.bipush 40, 2) := by decide +kernel
theorem dX8_moonOf_14 : decode cX8_moonOf 14 = .ok (.if_icmp .ge 59, 3) := by decide +kernel
theorem dX8_moonOf_17 : decode cX8_moonOf 17 = .ok (.iload 5, 2) := by decide +kernel
theorem dX8_moonOf_19 : decode cX8_moonOf 19 = .ok (.iload_n 2, 1) := by decide +kernel
theorem dX8_moonOf_20 : decode cX8_moonOf 20 = .ok (.if_icmp .ge 16, 3) := by decide +kernel
theorem dX8_moonOf_23 : decode cX8_moonOf 23 = .ok (.ldc_w 295, 3) := by decide +kernel
theorem dX8_moonOf_26 : decode cX8_moonOf 26 = .ok (.iload 4, 2) := by decide +kernel
theorem dX8_moonOf_28 : decode cX8_moonOf 28 = .ok (.imul, 1) := by decide +kernel
theorem dX8_moonOf_29 : decode cX8_moonOf 29 = .ok (.sipush 12345, 3) := by decide +kernel
theorem dX8_moonOf_32 : decode cX8_moonOf 32 = .ok (.iadd, 1) := by decide +kernel
theorem dX8_moonOf_33 : decode cX8_moonOf 33 = .ok (.goto 5, 3) := by decide +kernel
theorem dX8_moonOf_36 : decode cX8_moonOf 36 = .ok (.iload 4, 2) := by decide +kernel
theorem dX8_moonOf_38 : decode cX8_moonOf 38 = .ok (.istore 4, 2) := by decide +kernel
theorem dX8_moonOf_40 : decode cX8_moonOf 40 = .ok (.aload_n 0, 1) := by decide +kernel
theorem dX8_moonOf_41 : decode cX8_moonOf 41 = .ok (.getfield 40, 3) := by decide +kernel
theorem dX8_moonOf_44 : decode cX8_moonOf 44 = .ok (.iload 5, 2) := by decide +kernel
theorem dX8_moonOf_46 : decode cX8_moonOf 46 = .ok (.iload 5, 2) := by decide +kernel
theorem dX8_moonOf_48 : decode cX8_moonOf 48 = .ok (.iload_n 2, 1) := by decide +kernel
theorem dX8_moonOf_49 : decode cX8_moonOf 49 = .ok (.if_icmp .ge 16, 3) := by decide +kernel
theorem dX8_moonOf_52 : decode cX8_moonOf 52 = .ok (.iconst 2, 1) := by decide +kernel
theorem dX8_moonOf_53 : decode cX8_moonOf 53 = .ok (.iload 4, 2) := by decide +kernel
theorem dX8_moonOf_55 : decode cX8_moonOf 55 = .ok (.bipush 16, 2) := by decide +kernel
theorem dX8_moonOf_57 : decode cX8_moonOf 57 = .ok (.iushr, 1) := by decide +kernel
theorem dX8_moonOf_58 : decode cX8_moonOf 58 = .ok (.bipush 10, 2) := by decide +kernel
theorem dX8_moonOf_60 : decode cX8_moonOf 60 = .ok (.irem, 1) := by decide +kernel
theorem dX8_moonOf_61 : decode cX8_moonOf 61 = .ok (.imul, 1) := by decide +kernel
theorem dX8_moonOf_62 : decode cX8_moonOf 62 = .ok (.goto 4, 3) := by decide +kernel
theorem dX8_moonOf_65 : decode cX8_moonOf 65 = .ok (.iconst 0, 1) := by decide +kernel
theorem dX8_moonOf_66 : decode cX8_moonOf 66 = .ok (.iastore, 1) := by decide +kernel
theorem dX8_moonOf_67 : decode cX8_moonOf 67 = .ok (.iinc 5 1, 3) := by decide +kernel
theorem dX8_moonOf_70 : decode cX8_moonOf 70 = .ok (.goto (-60), 3) := by decide +kernel
theorem dX8_moonOf_73 : decode cX8_moonOf 73 = .ok (.aload_n 0, 1) := by decide +kernel
theorem dX8_moonOf_74 : decode cX8_moonOf 74 = .ok (.invokevirtual 216, 3) := by decide +kernel
theorem dX8_moonOf_77 : decode cX8_moonOf 77 = .ok (.iload_n 3, 1) := by decide +kernel
theorem dX8_moonOf_78 : decode cX8_moonOf 78 = .ok (.ifCond .ne 10, 3) := by decide +kernel
theorem dX8_moonOf_81 : decode cX8_moonOf 81 = .ok (.aload_n 0, 1) := by decide +kernel
theorem dX8_moonOf_82 : decode cX8_moonOf 82 = .ok (.getfield 194, 3) := by decide +kernel
theorem dX8_moonOf_85 : decode cX8_moonOf 85 = .ok (.goto 7, 3) := by decide +kernel
theorem dX8_moonOf_88 : decode cX8_moonOf 88 = .ok (.aload_n 0, 1) := by decide +kernel
theorem dX8_moonOf_89 : decode cX8_moonOf 89 = .ok (.invokevirtual 231, 3) := by decide +kernel
theorem dX8_moonOf_92 : decode cX8_moonOf 92 = .ok (.ireturn, 1) := by decide +kernel
theorem dX8_moon_0 : decode cX8_moon 0 = .ok (.iload_n 2, 1) := by decide +kernel
theorem dX8_moon_1 : decode cX8_moon 1 = .ok (.iconst 0, 1) := by decide +kernel
theorem dX8_moon_2 : decode cX8_moon 2 = .ok (.bipush 40, 2) := by decide +kernel
theorem dX8_moon_4 : decode cX8_moon 4 = .ok (.invokestatic 94, 3) := by decide +kernel
theorem dX8_moon_7 : decode cX8_moon 7 = .ok (.ifCond .eq 22, 3) := by decide +kernel
theorem dX8_moon_10 : decode cX8_moon 10 = .ok (.iload_n 3, 1) := by decide +kernel
theorem dX8_moon_11 : decode cX8_moon 11 = .ok (.iconst 0, 1) := by decide +kernel
theorem dX8_moon_12 : decode cX8_moon 12 = .ok (.iconst 1, 1) := by decide +kernel
theorem dX8_moon_13 : decode cX8_moon 13 = .ok (.invokestatic 94, 3) := by decide +kernel
theorem dX8_moon_16 : decode cX8_moon 16 = .ok (.ifCond .eq 13, 3) := by decide +kernel
theorem dX8_moon_19 : decode cX8_moon 19 = .ok (.aload_n 0, 1) := by decide +kernel
theorem dX8_moon_20 : decode cX8_moon 20 = .ok (.iload_n 1, 1) := by decide +kernel
theorem dX8_moon_21 : decode cX8_moon 21 = .ok (.iload_n 2, 1) := by decide +kernel
theorem dX8_moon_22 : decode cX8_moon 22 = .ok (.iload_n 3, 1) := by decide +kernel
theorem dX8_moon_23 : decode cX8_moon 23 = .ok (.invokevirtual 296, 3) := by decide +kernel
theorem dX8_moon_26 : decode cX8_moon 26 = .ok (.goto 5, 3) := by decide +kernel
theorem dX8_moon_29 : decode cX8_moon 29 = .ok (.bipush (-2), 2) := by decide +kernel
theorem dX8_moon_31 : decode cX8_moon 31 = .ok (.ireturn, 1) := by decide +kernel
theorem dX8_meets_0 : decode cX8_meets 0 = .ok (.aload_n 0, 1) := by decide +kernel
theorem dX8_meets_1 : decode cX8_meets 1 = .ok (.iload_n 1, 1) := by decide +kernel
theorem dX8_meets_2 : decode cX8_meets 2 = .ok (.putfield 300, 3) := by decide +kernel
theorem dX8_meets_5 : decode cX8_meets 5 = .ok (.bipush (-10), 2) := by decide +kernel
theorem dX8_meets_7 : decode cX8_meets 7 = .ok (.iload_n 1, 1) := by decide +kernel
theorem dX8_meets_8 : decode cX8_meets 8 = .ok (.isub, 1) := by decide +kernel
theorem dX8_meets_9 : decode cX8_meets 9 = .ok (.ireturn, 1) := by decide +kernel
theorem dX8_isSheet_0 : decode cX8_isSheet 0 = .ok (.iload_n 0, 1) := by decide +kernel
theorem dX8_isSheet_1 : decode cX8_isSheet 1 = .ok (.iconst 0, 1) := by decide +kernel
theorem dX8_isSheet_2 : decode cX8_isSheet 2 = .ok (.iconst 3, 1) := by decide +kernel
theorem dX8_isSheet_3 : decode cX8_isSheet 3 = .ok (.invokestatic 94, 3) := by decide +kernel
theorem dX8_isSheet_6 : decode cX8_isSheet 6 = .ok (.ireturn, 1) := by decide +kernel
theorem dX8_sheet_0 : decode cX8_sheet 0 = .ok (.iload_n 1, 1) := by decide +kernel
theorem dX8_sheet_1 : decode cX8_sheet 1 = .ok (.invokestatic 152, 3) := by decide +kernel
theorem dX8_sheet_4 : decode cX8_sheet 4 = .ok (.ifCond .eq 18, 3) := by decide +kernel
theorem dX8_sheet_7 : decode cX8_sheet 7 = .ok (.iload_n 2, 1) := by decide +kernel
theorem dX8_sheet_8 : decode cX8_sheet 8 = .ok (.iconst 0, 1) := by decide +kernel
theorem dX8_sheet_9 : decode cX8_sheet 9 = .ok (.iconst 2, 1) := by decide +kernel
theorem dX8_sheet_10 : decode cX8_sheet 10 = .ok (.invokestatic 94, 3) := by decide +kernel
theorem dX8_sheet_13 : decode cX8_sheet 13 = .ok (.ifCond .eq 9, 3) := by decide +kernel
theorem dX8_sheet_16 : decode cX8_sheet 16 = .ok (.iload_n 3, 1) := by decide +kernel
theorem dX8_sheet_17 : decode cX8_sheet 17 = .ok (.bipush 60, 2) := by decide +kernel
theorem dX8_sheet_19 : decode cX8_sheet 19 = .ok (.if_icmp .le 6, 3) := by decide +kernel
theorem dX8_sheet_22 : decode cX8_sheet 22 = .ok (.bipush (-2), 2) := by decide +kernel
theorem dX8_sheet_24 : decode cX8_sheet 24 = .ok (.ireturn, 1) := by decide +kernel
theorem dX8_sheet_25 : decode cX8_sheet 25 = .ok (.iload_n 3, 1) := by decide +kernel
theorem dX8_sheet_26 : decode cX8_sheet 26 = .ok (.ifCond .ge 9, 3) := by decide +kernel
theorem dX8_sheet_29 : decode cX8_sheet 29 = .ok (.aload_n 0, 1) := by decide +kernel
theorem dX8_sheet_30 : decode cX8_sheet 30 = .ok (.iconst 5, 1) := by decide +kernel
theorem dX8_sheet_31 : decode cX8_sheet 31 = .ok (.invokevirtual 155, 3) := by decide +kernel
theorem dX8_sheet_34 : decode cX8_sheet 34 = .ok (.ireturn, 1) := by decide +kernel
theorem dX8_sheet_35 : decode cX8_sheet 35 = .ok (.aload_n 0, 1) := by decide +kernel
theorem dX8_sheet_36 : decode cX8_sheet 36 = .ok (.getfield 76, 3) := by decide +kernel
theorem dX8_sheet_39 : decode cX8_sheet 39 = .ok (.iload_n 1, 1) := by decide +kernel
theorem dX8_sheet_40 : decode cX8_sheet 40 = .ok (.iconst 1, 1) := by decide +kernel
theorem dX8_sheet_41 : decode cX8_sheet 41 = .ok (.bastore, 1) := by decide +kernel
theorem dX8_sheet_42 : decode cX8_sheet 42 = .ok (.aload_n 0, 1) := by decide +kernel
theorem dX8_sheet_43 : decode cX8_sheet 43 = .ok (.getfield 80, 3) := by decide +kernel
theorem dX8_sheet_46 : decode cX8_sheet 46 = .ok (.iload_n 1, 1) := by decide +kernel
theorem dX8_sheet_47 : decode cX8_sheet 47 = .ok (.iload_n 2, 1) := by decide +kernel
theorem dX8_sheet_48 : decode cX8_sheet 48 = .ok (.iastore, 1) := by decide +kernel
theorem dX8_sheet_49 : decode cX8_sheet 49 = .ok (.aload_n 0, 1) := by decide +kernel
theorem dX8_sheet_50 : decode cX8_sheet 50 = .ok (.getfield 83, 3) := by decide +kernel
theorem dX8_sheet_53 : decode cX8_sheet 53 = .ok (.iload_n 1, 1) := by decide +kernel
theorem dX8_sheet_54 : decode cX8_sheet 54 = .ok (.iload_n 3, 1) := by decide +kernel
theorem dX8_sheet_55 : decode cX8_sheet 55 = .ok (.iastore, 1) := by decide +kernel
theorem dX8_sheet_56 : decode cX8_sheet 56 = .ok (.iconst 0, 1) := by decide +kernel
theorem dX8_sheet_57 : decode cX8_sheet 57 = .ok (.istore 4, 2) := by decide +kernel
theorem dX8_sheet_59 : decode cX8_sheet 59 = .ok (.iload 4, 2) := by decide +kernel
theorem dX8_sheet_61 : decode cX8_sheet 61 = .ok (.bipush 60, 2) := by decide +kernel
theorem dX8_sheet_63 : decode cX8_sheet 63 = .ok (.if_icmp .ge 22, 3) := by decide +kernel
theorem dX8_sheet_66 : decode cX8_sheet 66 = .ok (.aload_n 0, 1) := by decide +kernel
theorem dX8_sheet_67 : decode cX8_sheet 67 = .ok (.getfield 86, 3) := by decide +kernel
theorem dX8_sheet_70 : decode cX8_sheet 70 = .ok (.bipush 60, 2) := by decide +kernel
theorem dX8_sheet_72 : decode cX8_sheet 72 = .ok (.iload_n 1, 1) := by decide +kernel
theorem dX8_sheet_73 : decode cX8_sheet 73 = .ok (.imul, 1) := by decide +kernel
theorem dX8_sheet_74 : decode cX8_sheet 74 = .ok (.iload 4, 2) := by decide +kernel
theorem dX8_sheet_76 : decode cX8_sheet 76 = .ok (.iadd, 1) := by decide +kernel
theorem dX8_sheet_77 : decode cX8_sheet 77 = .ok (.iconst 0, 1) := by decide +kernel
theorem dX8_sheet_78 : decode cX8_sheet 78 = .ok (.iastore, 1) := by decide +kernel
theorem dX8_sheet_79 : decode cX8_sheet 79 = .ok (.iinc 4 1, 3) := by decide +kernel
theorem dX8_sheet_82 : decode cX8_sheet 82 = .ok (.goto (-23), 3) := by decide +kernel
theorem dX8_sheet_85 : decode cX8_sheet 85 = .ok (.iload_n 3, 1) := by decide +kernel
theorem dX8_sheet_86 : decode cX8_sheet 86 = .ok (.ireturn, 1) := by decide +kernel
theorem dX8_lose_0 : decode cX8_lose 0 = .ok (.iload_n 1, 1) := by decide +kernel
theorem dX8_lose_1 : decode cX8_lose 1 = .ok (.invokestatic 152, 3) := by decide +kernel
theorem dX8_lose_4 : decode cX8_lose 4 = .ok (.ifCond .ne 6, 3) := by decide +kernel
theorem dX8_lose_7 : decode cX8_lose 7 = .ok (.bipush (-2), 2) := by decide +kernel
theorem dX8_lose_9 : decode cX8_lose 9 = .ok (.ireturn, 1) := by decide +kernel
theorem dX8_lose_10 : decode cX8_lose 10 = .ok (.aload_n 0, 1) := by decide +kernel
theorem dX8_lose_11 : decode cX8_lose 11 = .ok (.getfield 76, 3) := by decide +kernel
theorem dX8_lose_14 : decode cX8_lose 14 = .ok (.iload_n 1, 1) := by decide +kernel
theorem dX8_lose_15 : decode cX8_lose 15 = .ok (.baload, 1) := by decide +kernel
theorem dX8_lose_16 : decode cX8_lose 16 = .ok (.ifCond .ne 9, 3) := by decide +kernel
theorem dX8_lose_19 : decode cX8_lose 19 = .ok (.aload_n 0, 1) := by decide +kernel
theorem dX8_lose_20 : decode cX8_lose 20 = .ok (.iconst 1, 1) := by decide +kernel
theorem dX8_lose_21 : decode cX8_lose 21 = .ok (.invokevirtual 155, 3) := by decide +kernel
theorem dX8_lose_24 : decode cX8_lose 24 = .ok (.ireturn, 1) := by decide +kernel
theorem dX8_lose_25 : decode cX8_lose 25 = .ok (.aload_n 0, 1) := by decide +kernel
theorem dX8_lose_26 : decode cX8_lose 26 = .ok (.getfield 76, 3) := by decide +kernel
theorem dX8_lose_29 : decode cX8_lose 29 = .ok (.iload_n 1, 1) := by decide +kernel
theorem dX8_lose_30 : decode cX8_lose 30 = .ok (.iconst 0, 1) := by decide +kernel
theorem dX8_lose_31 : decode cX8_lose 31 = .ok (.bastore, 1) := by decide +kernel
theorem dX8_lose_32 : decode cX8_lose 32 = .ok (.aload_n 0, 1) := by decide +kernel
theorem dX8_lose_33 : decode cX8_lose 33 = .ok (.getfield 83, 3) := by decide +kernel
theorem dX8_lose_36 : decode cX8_lose 36 = .ok (.iload_n 1, 1) := by decide +kernel
theorem dX8_lose_37 : decode cX8_lose 37 = .ok (.iaload, 1) := by decide +kernel
theorem dX8_lose_38 : decode cX8_lose 38 = .ok (.ireturn, 1) := by decide +kernel
theorem dX8_lacks_0 : decode cX8_lacks 0 = .ok (.aload_n 0, 1) := by decide +kernel
theorem dX8_lacks_1 : decode cX8_lacks 1 = .ok (.getfield 76, 3) := by decide +kernel
theorem dX8_lacks_4 : decode cX8_lacks 4 = .ok (.iload_n 1, 1) := by decide +kernel
theorem dX8_lacks_5 : decode cX8_lacks 5 = .ok (.baload, 1) := by decide +kernel
theorem dX8_lacks_6 : decode cX8_lacks 6 = .ok (.ifCond .ne 7, 3) := by decide +kernel
theorem dX8_lacks_9 : decode cX8_lacks 9 = .ok (.iconst 1, 1) := by decide +kernel
theorem dX8_lacks_10 : decode cX8_lacks 10 = .ok (.goto 38, 3) := by decide +kernel
theorem dX8_lacks_13 : decode cX8_lacks 13 = .ok (.aload_n 0, 1) := by decide +kernel
theorem dX8_lacks_14 : decode cX8_lacks 14 = .ok (.getfield 80, 3) := by decide +kernel
theorem dX8_lacks_17 : decode cX8_lacks 17 = .ok (.iload_n 1, 1) := by decide +kernel
theorem dX8_lacks_18 : decode cX8_lacks 18 = .ok (.iaload, 1) := by decide +kernel
theorem dX8_lacks_19 : decode cX8_lacks 19 = .ok (.iload_n 2, 1) := by decide +kernel
theorem dX8_lacks_20 : decode cX8_lacks 20 = .ok (.if_icmp .eq 7, 3) := by decide +kernel
theorem dX8_lacks_23 : decode cX8_lacks 23 = .ok (.iconst 3, 1) := by decide +kernel
theorem dX8_lacks_24 : decode cX8_lacks 24 = .ok (.goto 24, 3) := by decide +kernel
theorem dX8_lacks_27 : decode cX8_lacks 27 = .ok (.iload_n 3, 1) := by decide +kernel
theorem dX8_lacks_28 : decode cX8_lacks 28 = .ok (.iconst 0, 1) := by decide +kernel
theorem dX8_lacks_29 : decode cX8_lacks 29 = .ok (.aload_n 0, 1) := by decide +kernel
theorem dX8_lacks_30 : decode cX8_lacks 30 = .ok (.getfield 83, 3) := by decide +kernel
theorem dX8_lacks_33 : decode cX8_lacks 33 = .ok (.iload_n 1, 1) := by decide +kernel
theorem dX8_lacks_34 : decode cX8_lacks 34 = .ok (.iaload, 1) := by decide +kernel
theorem dX8_lacks_35 : decode cX8_lacks 35 = .ok (.iconst 1, 1) := by decide +kernel
theorem dX8_lacks_36 : decode cX8_lacks 36 = .ok (.isub, 1) := by decide +kernel
theorem dX8_lacks_37 : decode cX8_lacks 37 = .ok (.invokestatic 94, 3) := by decide +kernel
theorem dX8_lacks_40 : decode cX8_lacks 40 = .ok (.ifCond .eq 7, 3) := by decide +kernel
theorem dX8_lacks_43 : decode cX8_lacks 43 = .ok (.iconst 0, 1) := by decide +kernel
theorem dX8_lacks_44 : decode cX8_lacks 44 = .ok (.goto 4, 3) := by decide +kernel
theorem dX8_lacks_47 : decode cX8_lacks 47 = .ok (.iconst 2, 1) := by decide +kernel
theorem dX8_lacks_48 : decode cX8_lacks 48 = .ok (.ireturn, 1) := by decide +kernel
theorem dX8_keep_0 : decode cX8_keep 0 = .ok (.aload_n 0, 1) := by decide +kernel
theorem dX8_keep_1 : decode cX8_keep 1 = .ok (.getfield 86, 3) := by decide +kernel
theorem dX8_keep_4 : decode cX8_keep 4 = .ok (.bipush 60, 2) := by decide +kernel
theorem dX8_keep_6 : decode cX8_keep 6 = .ok (.iload_n 1, 1) := by decide +kernel
theorem dX8_keep_7 : decode cX8_keep 7 = .ok (.imul, 1) := by decide +kernel
theorem dX8_keep_8 : decode cX8_keep 8 = .ok (.iload_n 2, 1) := by decide +kernel
theorem dX8_keep_9 : decode cX8_keep 9 = .ok (.iadd, 1) := by decide +kernel
theorem dX8_keep_10 : decode cX8_keep 10 = .ok (.aload_n 0, 1) := by decide +kernel
theorem dX8_keep_11 : decode cX8_keep 11 = .ok (.getfield 80, 3) := by decide +kernel
theorem dX8_keep_14 : decode cX8_keep 14 = .ok (.iload_n 1, 1) := by decide +kernel
theorem dX8_keep_15 : decode cX8_keep 15 = .ok (.iaload, 1) := by decide +kernel
theorem dX8_keep_16 : decode cX8_keep 16 = .ok (.ifCond .ne 8, 3) := by decide +kernel
theorem dX8_keep_19 : decode cX8_keep 19 = .ok (.iload_n 3, 1) := by decide +kernel
theorem dX8_keep_20 : decode cX8_keep 20 = .ok (.i2b, 1) := by decide +kernel
theorem dX8_keep_21 : decode cX8_keep 21 = .ok (.goto 19, 3) := by decide +kernel
theorem dX8_keep_24 : decode cX8_keep 24 = .ok (.aload_n 0, 1) := by decide +kernel
theorem dX8_keep_25 : decode cX8_keep 25 = .ok (.getfield 80, 3) := by decide +kernel
theorem dX8_keep_28 : decode cX8_keep 28 = .ok (.iload_n 1, 1) := by decide +kernel
theorem dX8_keep_29 : decode cX8_keep 29 = .ok (.iaload, 1) := by decide +kernel
theorem dX8_keep_30 : decode cX8_keep 30 = .ok (.iconst 1, 1) := by decide +kernel
theorem dX8_keep_31 : decode cX8_keep 31 = .ok (.if_icmp .ne 8, 3) := by decide +kernel
theorem dX8_keep_34 : decode cX8_keep 34 = .ok (.iload_n 3, 1) := by decide +kernel
theorem dX8_keep_35 : decode cX8_keep 35 = .ok (.i2s, 1) := by decide +kernel
theorem dX8_keep_36 : decode cX8_keep 36 = .ok (.goto 4, 3) := by decide +kernel
theorem dX8_keep_39 : decode cX8_keep 39 = .ok (.iload_n 3, 1) := by decide +kernel
theorem dX8_keep_40 : decode cX8_keep 40 = .ok (.iastore, 1) := by decide +kernel
theorem dX8_keep_41 : decode cX8_keep 41 = .ok (.return_, 1) := by decide +kernel
theorem dX8_put_0 : decode cX8_put 0 = .ok (.iload_n 1, 1) := by decide +kernel
theorem dX8_put_1 : decode cX8_put 1 = .ok (.invokestatic 152, 3) := by decide +kernel
theorem dX8_put_4 : decode cX8_put 4 = .ok (.ifCond .eq 12, 3) := by decide +kernel
theorem dX8_put_7 : decode cX8_put 7 = .ok (.iload_n 2, 1) := by decide +kernel
theorem dX8_put_8 : decode cX8_put 8 = .ok (.iconst 0, 1) := by decide +kernel
theorem dX8_put_9 : decode cX8_put 9 = .ok (.iconst 2, 1) := by decide +kernel
theorem dX8_put_10 : decode cX8_put 10 = .ok (.invokestatic 94, 3) := by decide +kernel
theorem dX8_put_13 : decode cX8_put 13 = .ok (.ifCond .ne 6, 3) := by decide +kernel
theorem dX8_put_16 : decode cX8_put 16 = .ok (.bipush (-2), 2) := by decide +kernel
theorem dX8_put_18 : decode cX8_put 18 = .ok (.ireturn, 1) := by decide +kernel
theorem dX8_put_19 : decode cX8_put 19 = .ok (.aload_n 0, 1) := by decide +kernel
theorem dX8_put_20 : decode cX8_put 20 = .ok (.iload_n 1, 1) := by decide +kernel
theorem dX8_put_21 : decode cX8_put 21 = .ok (.iload_n 2, 1) := by decide +kernel
theorem dX8_put_22 : decode cX8_put 22 = .ok (.iload_n 3, 1) := by decide +kernel
theorem dX8_put_23 : decode cX8_put 23 = .ok (.invokevirtual 303, 3) := by decide +kernel
theorem dX8_put_26 : decode cX8_put 26 = .ok (.istore 5, 2) := by decide +kernel
theorem dX8_put_28 : decode cX8_put 28 = .ok (.iload 5, 2) := by decide +kernel
theorem dX8_put_30 : decode cX8_put 30 = .ok (.ifCond .le 10, 3) := by decide +kernel
theorem dX8_put_33 : decode cX8_put 33 = .ok (.aload_n 0, 1) := by decide +kernel
theorem dX8_put_34 : decode cX8_put 34 = .ok (.iload 5, 2) := by decide +kernel
theorem dX8_put_36 : decode cX8_put 36 = .ok (.invokevirtual 155, 3) := by decide +kernel
theorem dX8_put_39 : decode cX8_put 39 = .ok (.ireturn, 1) := by decide +kernel
theorem dX8_put_40 : decode cX8_put 40 = .ok (.aload_n 0, 1) := by decide +kernel
theorem dX8_put_41 : decode cX8_put 41 = .ok (.iload_n 1, 1) := by decide +kernel
theorem dX8_put_42 : decode cX8_put 42 = .ok (.iload_n 3, 1) := by decide +kernel
theorem dX8_put_43 : decode cX8_put 43 = .ok (.iload 4, 2) := by decide +kernel
theorem dX8_put_45 : decode cX8_put 45 = .ok (.invokevirtual 306, 3) := by decide +kernel
theorem dX8_put_48 : decode cX8_put 48 = .ok (.iconst 1, 1) := by decide +kernel
theorem dX8_put_49 : decode cX8_put 49 = .ok (.ireturn, 1) := by decide +kernel
theorem dX8_get_0 : decode cX8_get 0 = .ok (.iload_n 1, 1) := by decide +kernel
theorem dX8_get_1 : decode cX8_get 1 = .ok (.invokestatic 152, 3) := by decide +kernel
theorem dX8_get_4 : decode cX8_get 4 = .ok (.ifCond .eq 12, 3) := by decide +kernel
theorem dX8_get_7 : decode cX8_get 7 = .ok (.iload_n 2, 1) := by decide +kernel
theorem dX8_get_8 : decode cX8_get 8 = .ok (.iconst 0, 1) := by decide +kernel
theorem dX8_get_9 : decode cX8_get 9 = .ok (.iconst 2, 1) := by decide +kernel
theorem dX8_get_10 : decode cX8_get 10 = .ok (.invokestatic 94, 3) := by decide +kernel
theorem dX8_get_13 : decode cX8_get 13 = .ok (.ifCond .ne 7, 3) := by decide +kernel
theorem dX8_get_16 : decode cX8_get 16 = .ok (.ldc_w 310, 3) := by decide +kernel
theorem dX8_get_19 : decode cX8_get 19 = .ok (.ireturn, 1) := by decide +kernel
theorem dX8_get_20 : decode cX8_get 20 = .ok (.aload_n 0, 1) := by decide +kernel
theorem dX8_get_21 : decode cX8_get 21 = .ok (.iload_n 1, 1) := by decide +kernel
theorem dX8_get_22 : decode cX8_get 22 = .ok (.iload_n 2, 1) := by decide +kernel
theorem dX8_get_23 : decode cX8_get 23 = .ok (.iload_n 3, 1) := by decide +kernel
theorem dX8_get_24 : decode cX8_get 24 = .ok (.invokevirtual 303, 3) := by decide +kernel
theorem dX8_get_27 : decode cX8_get 27 = .ok (.istore 4, 2) := by decide +kernel
theorem dX8_get_29 : decode cX8_get 29 = .ok (.iload 4, 2) := by decide +kernel
theorem dX8_get_31 : decode cX8_get 31 = .ok (.ifCond .le 13, 3) := by decide +kernel
theorem dX8_get_34 : decode cX8_get 34 = .ok (.aload_n 0, 1) := by decide +kernel
theorem dX8_get_35 : decode cX8_get 35 = .ok (.iload 4, 2) := by decide +kernel
theorem dX8_get_37 : decode cX8_get 37 = .ok (.putfield 300, 3) := by decide +kernel
theorem dX8_get_40 : decode cX8_get 40 = .ok (.ldc_w 310, 3) := by decide +kernel
theorem dX8_get_43 : decode cX8_get 43 = .ok (.ireturn, 1) := by decide +kernel
theorem dX8_get_44 : decode cX8_get 44 = .ok (.aload_n 0, 1) := by decide +kernel
theorem dX8_get_45 : decode cX8_get 45 = .ok (.getfield 86, 3) := by decide +kernel
theorem dX8_get_48 : decode cX8_get 48 = .ok (.bipush 60, 2) := by decide +kernel
theorem dX8_get_50 : decode cX8_get 50 = .ok (.iload_n 1, 1) := by decide +kernel
theorem dX8_get_51 : decode cX8_get 51 = .ok (.imul, 1) := by decide +kernel
theorem dX8_get_52 : decode cX8_get 52 = .ok (.iload_n 3, 1) := by decide +kernel
theorem dX8_get_53 : decode cX8_get 53 = .ok (.iadd, 1) := by decide +kernel
theorem dX8_get_54 : decode cX8_get 54 = .ok (.iaload, 1) := by decide +kernel
theorem dX8_get_55 : decode cX8_get 55 = .ok (.ireturn, 1) := by decide +kernel
theorem dX8_copy_0 : decode cX8_copy 0 = .ok (.iload_n 1, 1) := by decide +kernel
theorem dX8_copy_1 : decode cX8_copy 1 = .ok (.invokestatic 152, 3) := by decide +kernel
theorem dX8_copy_4 : decode cX8_copy 4 = .ok (.ifCond .eq 10, 3) := by decide +kernel
theorem dX8_copy_7 : decode cX8_copy 7 = .ok (.iload_n 3, 1) := by decide +kernel
theorem dX8_copy_8 : decode cX8_copy 8 = .ok (.invokestatic 152, 3) := by decide +kernel
theorem dX8_copy_11 : decode cX8_copy 11 = .ok (.ifCond .ne 6, 3) := by decide +kernel
theorem dX8_copy_14 : decode cX8_copy 14 = .ok (.bipush (-2), 2) := by decide +kernel
theorem dX8_copy_16 : decode cX8_copy 16 = .ok (.ireturn, 1) := by decide +kernel
theorem dX8_copy_17 : decode cX8_copy 17 = .ok (.aload_n 0, 1) := by decide +kernel
theorem dX8_copy_18 : decode cX8_copy 18 = .ok (.getfield 76, 3) := by decide +kernel
theorem dX8_copy_21 : decode cX8_copy 21 = .ok (.iload_n 1, 1) := by decide +kernel
theorem dX8_copy_22 : decode cX8_copy 22 = .ok (.baload, 1) := by decide +kernel
theorem dX8_copy_23 : decode cX8_copy 23 = .ok (.ifCond .eq 12, 3) := by decide +kernel
theorem dX8_copy_26 : decode cX8_copy 26 = .ok (.aload_n 0, 1) := by decide +kernel
theorem dX8_copy_27 : decode cX8_copy 27 = .ok (.getfield 76, 3) := by decide +kernel
theorem dX8_copy_30 : decode cX8_copy 30 = .ok (.iload_n 3, 1) := by decide +kernel
theorem dX8_copy_31 : decode cX8_copy 31 = .ok (.baload, 1) := by decide +kernel
theorem dX8_copy_32 : decode cX8_copy 32 = .ok (.ifCond .ne 9, 3) := by decide +kernel
theorem dX8_copy_35 : decode cX8_copy 35 = .ok (.aload_n 0, 1) := by decide +kernel
theorem dX8_copy_36 : decode cX8_copy 36 = .ok (.iconst 1, 1) := by decide +kernel
theorem dX8_copy_37 : decode cX8_copy 37 = .ok (.invokevirtual 155, 3) := by decide +kernel
theorem dX8_copy_40 : decode cX8_copy 40 = .ok (.ireturn, 1) := by decide +kernel
theorem dX8_copy_41 : decode cX8_copy 41 = .ok (.aload_n 0, 1) := by decide +kernel
theorem dX8_copy_42 : decode cX8_copy 42 = .ok (.getfield 80, 3) := by decide +kernel
theorem dX8_copy_45 : decode cX8_copy 45 = .ok (.iload_n 1, 1) := by decide +kernel
theorem dX8_copy_46 : decode cX8_copy 46 = .ok (.iaload, 1) := by decide +kernel
theorem dX8_copy_47 : decode cX8_copy 47 = .ok (.aload_n 0, 1) := by decide +kernel
theorem dX8_copy_48 : decode cX8_copy 48 = .ok (.getfield 80, 3) := by decide +kernel
theorem dX8_copy_51 : decode cX8_copy 51 = .ok (.iload_n 3, 1) := by decide +kernel
theorem dX8_copy_52 : decode cX8_copy 52 = .ok (.iaload, 1) := by decide +kernel
theorem dX8_copy_53 : decode cX8_copy 53 = .ok (.if_icmp .eq 9, 3) := by decide +kernel
theorem dX8_copy_56 : decode cX8_copy 56 = .ok (.aload_n 0, 1) := by decide +kernel
theorem dX8_copy_57 : decode cX8_copy 57 = .ok (.iconst 4, 1) := by decide +kernel
theorem dX8_copy_58 : decode cX8_copy 58 = .ok (.invokevirtual 155, 3) := by decide +kernel
theorem dX8_copy_61 : decode cX8_copy 61 = .ok (.ireturn, 1) := by decide +kernel
theorem dX8_copy_62 : decode cX8_copy 62 = .ok (.iload_n 2, 1) := by decide +kernel
theorem dX8_copy_63 : decode cX8_copy 63 = .ok (.ifCond .lt 48, 3) := by decide +kernel
theorem dX8_copy_66 : decode cX8_copy 66 = .ok (.iload 4, 2) := by decide +kernel
theorem dX8_copy_68 : decode cX8_copy 68 = .ok (.ifCond .lt 43, 3) := by decide +kernel
theorem dX8_copy_71 : decode cX8_copy 71 = .ok (.iload 5, 2) := by decide +kernel
theorem dX8_copy_73 : decode cX8_copy 73 = .ok (.ifCond .lt 38, 3) := by decide +kernel
theorem dX8_copy_76 : decode cX8_copy 76 = .ok (.iload_n 2, 1) := by decide +kernel
theorem dX8_copy_77 : decode cX8_copy 77 = .ok (.i2l, 1) := by decide +kernel
theorem dX8_copy_78 : decode cX8_copy 78 = .ok (.iload 5, 2) := by decide +kernel
theorem dX8_copy_80 : decode cX8_copy 80 = .ok (.i2l, 1) := by decide +kernel
theorem dX8_copy_81 : decode cX8_copy 81 = .ok (.ladd, 1) := by decide +kernel
theorem dX8_copy_82 : decode cX8_copy 82 = .ok (.aload_n 0, 1) := by decide +kernel
theorem dX8_copy_83 : decode cX8_copy 83 = .ok (.getfield 83, 3) := by decide +kernel
theorem dX8_copy_86 : decode cX8_copy 86 = .ok (.iload_n 1, 1) := by decide +kernel
theorem dX8_copy_87 : decode cX8_copy 87 = .ok (.iaload, 1) := by decide +kernel
theorem dX8_copy_88 : decode cX8_copy 88 = .ok (.i2l, 1) := by decide +kernel
theorem dX8_copy_89 : decode cX8_copy 89 = .ok (.lcmp, 1) := by decide +kernel
theorem dX8_copy_90 : decode cX8_copy 90 = .ok (.ifCond .gt 21, 3) := by decide +kernel
theorem dX8_copy_93 : decode cX8_copy 93 = .ok (.iload 4, 2) := by decide +kernel
theorem dX8_copy_95 : decode cX8_copy 95 = .ok (.i2l, 1) := by decide +kernel
theorem dX8_copy_96 : decode cX8_copy 96 = .ok (.iload 5, 2) := by decide +kernel
theorem dX8_copy_98 : decode cX8_copy 98 = .ok (.i2l, 1) := by decide +kernel
theorem dX8_copy_99 : decode cX8_copy 99 = .ok (.ladd, 1) := by decide +kernel
theorem dX8_copy_100 : decode cX8_copy 100 = .ok (.aload_n 0, 1) := by decide +kernel
theorem dX8_copy_101 : decode cX8_copy 101 = .ok (.getfield 83, 3) := by decide +kernel
theorem dX8_copy_104 : decode cX8_copy 104 = .ok (.iload_n 3, 1) := by decide +kernel
theorem dX8_copy_105 : decode cX8_copy 105 = .ok (.iaload, 1) := by decide +kernel
theorem dX8_copy_106 : decode cX8_copy 106 = .ok (.i2l, 1) := by decide +kernel
theorem dX8_copy_107 : decode cX8_copy 107 = .ok (.lcmp, 1) := by decide +kernel
theorem dX8_copy_108 : decode cX8_copy 108 = .ok (.ifCond .le 9, 3) := by decide +kernel
theorem dX8_copy_111 : decode cX8_copy 111 = .ok (.aload_n 0, 1) := by decide +kernel
theorem dX8_copy_112 : decode cX8_copy 112 = .ok (.iconst 2, 1) := by decide +kernel
theorem dX8_copy_113 : decode cX8_copy 113 = .ok (.invokevirtual 155, 3) := by decide +kernel
theorem dX8_copy_116 : decode cX8_copy 116 = .ok (.ireturn, 1) := by decide +kernel
theorem dX8_copy_117 : decode cX8_copy 117 = .ok (.iconst 0, 1) := by decide +kernel
theorem dX8_copy_118 : decode cX8_copy 118 = .ok (.istore 6, 2) := by decide +kernel
theorem dX8_copy_120 : decode cX8_copy 120 = .ok (.iload 6, 2) := by decide +kernel
theorem dX8_copy_122 : decode cX8_copy 122 = .ok (.iload 5, 2) := by decide +kernel
theorem dX8_copy_124 : decode cX8_copy 124 = .ok (.if_icmp .ge 30, 3) := by decide +kernel
theorem dX8_copy_127 : decode cX8_copy 127 = .ok (.aload_n 0, 1) := by decide +kernel
theorem dX8_copy_128 : decode cX8_copy 128 = .ok (.getfield 89, 3) := by decide +kernel
theorem dX8_copy_131 : decode cX8_copy 131 = .ok (.iload 6, 2) := by decide +kernel
theorem dX8_copy_133 : decode cX8_copy 133 = .ok (.aload_n 0, 1) := by decide +kernel
theorem dX8_copy_134 : decode cX8_copy 134 = .ok (.getfield 86, 3) := by decide +kernel
theorem dX8_copy_137 : decode cX8_copy 137 = .ok (.bipush 60, 2) := by decide +kernel
theorem dX8_copy_139 : decode cX8_copy 139 = .ok (.iload_n 1, 1) := by decide +kernel
theorem dX8_copy_140 : decode cX8_copy 140 = .ok (.imul, 1) := by decide +kernel
theorem dX8_copy_141 : decode cX8_copy 141 = .ok (.iload_n 2, 1) := by decide +kernel
theorem dX8_copy_142 : decode cX8_copy 142 = .ok (.iadd, 1) := by decide +kernel
theorem dX8_copy_143 : decode cX8_copy 143 = .ok (.iload 6, 2) := by decide +kernel
theorem dX8_copy_145 : decode cX8_copy 145 = .ok (.iadd, 1) := by decide +kernel
theorem dX8_copy_146 : decode cX8_copy 146 = .ok (.iaload, 1) := by decide +kernel
theorem dX8_copy_147 : decode cX8_copy 147 = .ok (.iastore, 1) := by decide +kernel
theorem dX8_copy_148 : decode cX8_copy 148 = .ok (.iinc 6 1, 3) := by decide +kernel
theorem dX8_copy_151 : decode cX8_copy 151 = .ok (.goto (-31), 3) := by decide +kernel
theorem dX8_copy_154 : decode cX8_copy 154 = .ok (.iconst 0, 1) := by decide +kernel
theorem dX8_copy_155 : decode cX8_copy 155 = .ok (.istore 6, 2) := by decide +kernel
theorem dX8_copy_157 : decode cX8_copy 157 = .ok (.iload 6, 2) := by decide +kernel
theorem dX8_copy_159 : decode cX8_copy 159 = .ok (.iload 5, 2) := by decide +kernel
theorem dX8_copy_161 : decode cX8_copy 161 = .ok (.if_icmp .ge 31, 3) := by decide +kernel
theorem dX8_copy_164 : decode cX8_copy 164 = .ok (.aload_n 0, 1) := by decide +kernel
theorem dX8_copy_165 : decode cX8_copy 165 = .ok (.getfield 86, 3) := by decide +kernel
theorem dX8_copy_168 : decode cX8_copy 168 = .ok (.bipush 60, 2) := by decide +kernel
theorem dX8_copy_170 : decode cX8_copy 170 = .ok (.iload_n 3, 1) := by decide +kernel
theorem dX8_copy_171 : decode cX8_copy 171 = .ok (.imul, 1) := by decide +kernel
theorem dX8_copy_172 : decode cX8_copy 172 = .ok (.iload 4, 2) := by decide +kernel
theorem dX8_copy_174 : decode cX8_copy 174 = .ok (.iadd, 1) := by decide +kernel
theorem dX8_copy_175 : decode cX8_copy 175 = .ok (.iload 6, 2) := by decide +kernel
theorem dX8_copy_177 : decode cX8_copy 177 = .ok (.iadd, 1) := by decide +kernel
theorem dX8_copy_178 : decode cX8_copy 178 = .ok (.aload_n 0, 1) := by decide +kernel
theorem dX8_copy_179 : decode cX8_copy 179 = .ok (.getfield 89, 3) := by decide +kernel
theorem dX8_copy_182 : decode cX8_copy 182 = .ok (.iload 6, 2) := by decide +kernel
theorem dX8_copy_184 : decode cX8_copy 184 = .ok (.iaload, 1) := by decide +kernel
theorem dX8_copy_185 : decode cX8_copy 185 = .ok (.iastore, 1) := by decide +kernel
theorem dX8_copy_186 : decode cX8_copy 186 = .ok (.iinc 6 1, 3) := by decide +kernel
theorem dX8_copy_189 : decode cX8_copy 189 = .ok (.goto (-32), 3) := by decide +kernel
theorem dX8_copy_192 : decode cX8_copy 192 = .ok (.iconst 1, 1) := by decide +kernel
theorem dX8_copy_193 : decode cX8_copy 193 = .ok (.ireturn, 1) := by decide +kernel
theorem dX8_write_0 : decode cX8_write 0 = .ok (.iload_n 1, 1) := by decide +kernel
theorem dX8_write_1 : decode cX8_write 1 = .ok (.invokestatic 152, 3) := by decide +kernel
theorem dX8_write_4 : decode cX8_write 4 = .ok (.ifCond .ne 6, 3) := by decide +kernel
theorem dX8_write_7 : decode cX8_write 7 = .ok (.bipush (-2), 2) := by decide +kernel
theorem dX8_write_9 : decode cX8_write 9 = .ok (.ireturn, 1) := by decide +kernel
theorem dX8_write_10 : decode cX8_write 10 = .ok (.aload_n 0, 1) := by decide +kernel
theorem dX8_write_11 : decode cX8_write 11 = .ok (.getfield 76, 3) := by decide +kernel
theorem dX8_write_14 : decode cX8_write 14 = .ok (.iload_n 1, 1) := by decide +kernel
theorem dX8_write_15 : decode cX8_write 15 = .ok (.baload, 1) := by decide +kernel
theorem dX8_write_16 : decode cX8_write 16 = .ok (.ifCond .ne 9, 3) := by decide +kernel
theorem dX8_write_19 : decode cX8_write 19 = .ok (.aload_n 0, 1) := by decide +kernel
theorem dX8_write_20 : decode cX8_write 20 = .ok (.iconst 1, 1) := by decide +kernel
theorem dX8_write_21 : decode cX8_write 21 = .ok (.invokevirtual 155, 3) := by decide +kernel
theorem dX8_write_24 : decode cX8_write 24 = .ok (.ireturn, 1) := by decide +kernel
theorem dX8_write_25 : decode cX8_write 25 = .ok (.aload_n 0, 1) := by decide +kernel
theorem dX8_write_26 : decode cX8_write 26 = .ok (.invokevirtual 219, 3) := by decide +kernel
theorem dX8_write_29 : decode cX8_write 29 = .ok (.iconst 0, 1) := by decide +kernel
theorem dX8_write_30 : decode cX8_write 30 = .ok (.istore_n 2, 1) := by decide +kernel
theorem dX8_write_31 : decode cX8_write 31 = .ok (.iload_n 2, 1) := by decide +kernel
theorem dX8_write_32 : decode cX8_write 32 = .ok (.aload_n 0, 1) := by decide +kernel
theorem dX8_write_33 : decode cX8_write 33 = .ok (.getfield 83, 3) := by decide +kernel
theorem dX8_write_36 : decode cX8_write 36 = .ok (.iload_n 1, 1) := by decide +kernel
theorem dX8_write_37 : decode cX8_write 37 = .ok (.iaload, 1) := by decide +kernel
theorem dX8_write_38 : decode cX8_write 38 = .ok (.if_icmp .ge 27, 3) := by decide +kernel
theorem dX8_write_41 : decode cX8_write 41 = .ok (.iload_n 2, 1) := by decide +kernel
theorem dX8_write_42 : decode cX8_write 42 = .ok (.bipush 40, 2) := by decide +kernel
theorem dX8_write_44 : decode cX8_write 44 = .ok (.if_icmp .ge 21, 3) := by decide +kernel
theorem dX8_write_47 : decode cX8_write 47 = .ok (.aload_n 0, 1) := by decide +kernel
theorem dX8_write_48 : decode cX8_write 48 = .ok (.iload_n 1, 1) := by decide +kernel
theorem dX8_write_49 : decode cX8_write 49 = .ok (.iload_n 2, 1) := by decide +kernel
theorem dX8_write_50 : decode cX8_write 50 = .ok (.aload_n 0, 1) := by decide +kernel
theorem dX8_write_51 : decode cX8_write 51 = .ok (.getfield 46, 3) := by decide +kernel
theorem dX8_write_54 : decode cX8_write 54 = .ok (.iload_n 2, 1) := by decide +kernel
theorem dX8_write_55 : decode cX8_write 55 = .ok (.iaload, 1) := by decide +kernel
theorem dX8_write_56 : decode cX8_write 56 = .ok (.invokevirtual 306, 3) := by decide +kernel
theorem dX8_write_59 : decode cX8_write 59 = .ok (.iinc 2 1, 3) := by decide +kernel
theorem dX8_write_62 : decode cX8_write 62 = .ok (.goto (-31), 3) := by decide +kernel
theorem dX8_write_65 : decode cX8_write 65 = .ok (.iload_n 2, 1) := by decide +kernel
theorem dX8_write_66 : decode cX8_write 66 = .ok (.ireturn, 1) := by decide +kernel
theorem dX8_sumOf_0 : decode cX8_sumOf 0 = .ok (.aload_n 0, 1) := by decide +kernel
theorem dX8_sumOf_1 : decode cX8_sumOf 1 = .ok (.invokevirtual 219, 3) := by decide +kernel
theorem dX8_sumOf_4 : decode cX8_sumOf 4 = .ok (.iload_n 1, 1) := by decide +kernel
theorem dX8_sumOf_5 : decode cX8_sumOf 5 = .ok (.ifCond .ne 10, 3) := by decide +kernel
theorem dX8_sumOf_8 : decode cX8_sumOf 8 = .ok (.aload_n 0, 1) := by decide +kernel
theorem dX8_sumOf_9 : decode cX8_sumOf 9 = .ok (.getfield 102, 3) := by decide +kernel
theorem dX8_sumOf_12 : decode cX8_sumOf 12 = .ok (.goto 19, 3) := by decide +kernel
theorem dX8_sumOf_15 : decode cX8_sumOf 15 = .ok (.iload_n 1, 1) := by decide +kernel
theorem dX8_sumOf_16 : decode cX8_sumOf 16 = .ok (.iconst 1, 1) := by decide +kernel
theorem dX8_sumOf_17 : decode cX8_sumOf 17 = .ok (.if_icmp .ne 10, 3) := by decide +kernel
theorem dX8_sumOf_20 : decode cX8_sumOf 20 = .ok (.aload_n 0, 1) := by decide +kernel
theorem dX8_sumOf_21 : decode cX8_sumOf 21 = .ok (.getfield 114, 3) := by decide +kernel
theorem dX8_sumOf_24 : decode cX8_sumOf 24 = .ok (.goto 7, 3) := by decide +kernel
theorem dX8_sumOf_27 : decode cX8_sumOf 27 = .ok (.aload_n 0, 1) := by decide +kernel
theorem dX8_sumOf_28 : decode cX8_sumOf 28 = .ok (.getfield 194, 3) := by decide +kernel
theorem dX8_sumOf_31 : decode cX8_sumOf 31 = .ok (.ireturn, 1) := by decide +kernel
theorem dX8_count_0 : decode cX8_count 0 = .ok (.iload_n 1, 1) := by decide +kernel
theorem dX8_count_1 : decode cX8_count 1 = .ok (.tableswitch 86 0 8 #[51, 51, 57, 57, 66, 71, 51, 76, 81], 51) := by decide +kernel
theorem dX8_count_52 : decode cX8_count 52 = .ok (.aload_n 0, 1) := by decide +kernel
theorem dX8_count_53 : decode cX8_count 53 = .ok (.iload_n 1, 1) := by decide +kernel
theorem dX8_count_54 : decode cX8_count 54 = .ok (.invokevirtual 311, 3) := by decide +kernel
theorem dX8_count_57 : decode cX8_count 57 = .ok (.ireturn, 1) := by decide +kernel
theorem dX8_count_58 : decode cX8_count 58 = .ok (.aload_n 0, 1) := by decide +kernel
theorem dX8_count_59 : decode cX8_count 59 = .ok (.getfield 7, 3) := by decide +kernel
theorem dX8_count_62 : decode cX8_count 62 = .ok (.iload_n 1, 1) := by decide +kernel
theorem dX8_count_63 : decode cX8_count 63 = .ok (.iconst 2, 1) := by decide +kernel
theorem dX8_count_64 : decode cX8_count 64 = .ok (.isub, 1) := by decide +kernel
theorem dX8_count_65 : decode cX8_count 65 = .ok (.iaload, 1) := by decide +kernel
theorem dX8_count_66 : decode cX8_count 66 = .ok (.ireturn, 1) := by decide +kernel
theorem dX8_count_67 : decode cX8_count 67 = .ok (.aload_n 0, 1) := by decide +kernel
theorem dX8_count_68 : decode cX8_count 68 = .ok (.getfield 146, 3) := by decide +kernel
theorem dX8_count_71 : decode cX8_count 71 = .ok (.ireturn, 1) := by decide +kernel
theorem dX8_count_72 : decode cX8_count 72 = .ok (.aload_n 0, 1) := by decide +kernel
theorem dX8_count_73 : decode cX8_count 73 = .ok (.getfield 149, 3) := by decide +kernel
theorem dX8_count_76 : decode cX8_count 76 = .ok (.ireturn, 1) := by decide +kernel
theorem dX8_count_77 : decode cX8_count 77 = .ok (.aload_n 0, 1) := by decide +kernel
theorem dX8_count_78 : decode cX8_count 78 = .ok (.getfield 265, 3) := by decide +kernel
theorem dX8_count_81 : decode cX8_count 81 = .ok (.ireturn, 1) := by decide +kernel
theorem dX8_count_82 : decode cX8_count 82 = .ok (.aload_n 0, 1) := by decide +kernel
theorem dX8_count_83 : decode cX8_count 83 = .ok (.getfield 300, 3) := by decide +kernel
theorem dX8_count_86 : decode cX8_count 86 = .ok (.ireturn, 1) := by decide +kernel
theorem dX8_count_87 : decode cX8_count 87 = .ok (.bipush (-2), 2) := by decide +kernel
theorem dX8_count_89 : decode cX8_count 89 = .ok (.ireturn, 1) := by decide +kernel
theorem dX8_orderDigest_0 : decode cX8_orderDigest 0 = .ok (.lload_n 1, 1) := by decide +kernel
theorem dX8_orderDigest_1 : decode cX8_orderDigest 1 = .ok (.lstore 4, 2) := by decide +kernel
theorem dX8_orderDigest_3 : decode cX8_orderDigest 3 = .ok (.iconst 0, 1) := by decide +kernel
theorem dX8_orderDigest_4 : decode cX8_orderDigest 4 = .ok (.istore 6, 2) := by decide +kernel
theorem dX8_orderDigest_6 : decode cX8_orderDigest 6 = .ok (.iload 6, 2) := by decide +kernel
theorem dX8_orderDigest_8 : decode cX8_orderDigest 8 = .ok (.iconst 4, 1) := by decide +kernel
theorem dX8_orderDigest_9 : decode cX8_orderDigest 9 = .ok (.if_icmp .ge 26, 3) := by decide +kernel
theorem dX8_orderDigest_12 : decode cX8_orderDigest 12 = .ok (.ldc2_w 314, 3) := by decide +kernel
theorem dX8_orderDigest_15 : decode cX8_orderDigest 15 = .ok (.lload 4, 2) := by decide +kernel
theorem dX8_orderDigest_17 : decode cX8_orderDigest 17 = .ok (.lmul, 1) := by decide +kernel
theorem dX8_orderDigest_18 : decode cX8_orderDigest 18 = .ok (.aload_n 0, 1) := by decide +kernel
theorem dX8_orderDigest_19 : decode cX8_orderDigest 19 = .ok (.iload_n 3, 1) := by decide +kernel
theorem dX8_orderDigest_20 : decode cX8_orderDigest 20 = .ok (.iload 6, 2) := by decide +kernel
theorem dX8_orderDigest_22 : decode cX8_orderDigest 22 = .ok (.invokevirtual 143, 3) := by decide +kernel
theorem dX8_orderDigest_25 : decode cX8_orderDigest 25 = .ok (.i2l, 1) := by decide +kernel
theorem dX8_orderDigest_26 : decode cX8_orderDigest 26 = .ok (.ladd, 1) := by decide +kernel
theorem dX8_orderDigest_27 : decode cX8_orderDigest 27 = .ok (.lstore 4, 2) := by decide +kernel
theorem dX8_orderDigest_29 : decode cX8_orderDigest 29 = .ok (.iinc 6 1, 3) := by decide +kernel
theorem dX8_orderDigest_32 : decode cX8_orderDigest 32 = .ok (.goto (-26), 3) := by decide +kernel
theorem dX8_orderDigest_35 : decode cX8_orderDigest 35 = .ok (.ldc2_w 314, 3) := by decide +kernel
theorem dX8_orderDigest_38 : decode cX8_orderDigest 38 = .ok (.lload 4, 2) := by decide +kernel
theorem dX8_orderDigest_40 : decode cX8_orderDigest 40 = .ok (.lmul, 1) := by decide +kernel
theorem dX8_orderDigest_41 : decode cX8_orderDigest 41 = .ok (.aload_n 0, 1) := by decide +kernel
theorem dX8_orderDigest_42 : decode cX8_orderDigest 42 = .ok (.iload_n 3, 1) := by decide +kernel
theorem dX8_orderDigest_43 : decode cX8_orderDigest 43 = .ok (.invokevirtual 225, 3) := by decide +kernel
theorem dX8_orderDigest_46 : decode cX8_orderDigest 46 = .ok (.i2l, 1) := by decide +kernel
theorem dX8_orderDigest_47 : decode cX8_orderDigest 47 = .ok (.ladd, 1) := by decide +kernel
theorem dX8_orderDigest_48 : decode cX8_orderDigest 48 = .ok (.lstore 4, 2) := by decide +kernel
theorem dX8_orderDigest_50 : decode cX8_orderDigest 50 = .ok (.ldc2_w 314, 3) := by decide +kernel
theorem dX8_orderDigest_53 : decode cX8_orderDigest 53 = .ok (.lload 4, 2) := by decide +kernel
theorem dX8_orderDigest_55 : decode cX8_orderDigest 55 = .ok (.lmul, 1) := by decide +kernel
theorem dX8_orderDigest_56 : decode cX8_orderDigest 56 = .ok (.aload_n 0, 1) := by decide +kernel
theorem dX8_orderDigest_57 : decode cX8_orderDigest 57 = .ok (.iconst 5, 1) := by decide +kernel
theorem dX8_orderDigest_58 : decode cX8_orderDigest 58 = .ok (.iload_n 3, 1) := by decide +kernel
theorem dX8_orderDigest_59 : decode cX8_orderDigest 59 = .ok (.iconst 0, 1) := by decide +kernel
theorem dX8_orderDigest_60 : decode cX8_orderDigest 60 = .ok (.invokevirtual 287, 3) := by decide +kernel
theorem dX8_orderDigest_63 : decode cX8_orderDigest 63 = .ok (.ladd, 1) := by decide +kernel
theorem dX8_orderDigest_64 : decode cX8_orderDigest 64 = .ok (.lstore 4, 2) := by decide +kernel
theorem dX8_orderDigest_66 : decode cX8_orderDigest 66 = .ok (.ldc2_w 314, 3) := by decide +kernel
theorem dX8_orderDigest_69 : decode cX8_orderDigest 69 = .ok (.lload 4, 2) := by decide +kernel
theorem dX8_orderDigest_71 : decode cX8_orderDigest 71 = .ok (.lmul, 1) := by decide +kernel
theorem dX8_orderDigest_72 : decode cX8_orderDigest 72 = .ok (.aload_n 0, 1) := by decide +kernel
theorem dX8_orderDigest_73 : decode cX8_orderDigest 73 = .ok (.iconst 5, 1) := by decide +kernel
theorem dX8_orderDigest_74 : decode cX8_orderDigest 74 = .ok (.iload_n 3, 1) := by decide +kernel
theorem dX8_orderDigest_75 : decode cX8_orderDigest 75 = .ok (.iconst 1, 1) := by decide +kernel
theorem dX8_orderDigest_76 : decode cX8_orderDigest 76 = .ok (.invokevirtual 287, 3) := by decide +kernel
theorem dX8_orderDigest_79 : decode cX8_orderDigest 79 = .ok (.ladd, 1) := by decide +kernel
theorem dX8_orderDigest_80 : decode cX8_orderDigest 80 = .ok (.lreturn, 1) := by decide +kernel
theorem dX8_digest_0 : decode cX8_digest 0 = .ok (.ldc2_w 316, 3) := by decide +kernel
theorem dX8_digest_3 : decode cX8_digest 3 = .ok (.lstore_n 1, 1) := by decide +kernel
theorem dX8_digest_4 : decode cX8_digest 4 = .ok (.iconst 0, 1) := by decide +kernel
theorem dX8_digest_5 : decode cX8_digest 5 = .ok (.istore_n 3, 1) := by decide +kernel
theorem dX8_digest_6 : decode cX8_digest 6 = .ok (.iload_n 3, 1) := by decide +kernel
theorem dX8_digest_7 : decode cX8_digest 7 = .ok (.bipush 8, 2) := by decide +kernel
theorem dX8_digest_9 : decode cX8_digest 9 = .ok (.if_icmp .ge 22, 3) := by decide +kernel
theorem dX8_digest_12 : decode cX8_digest 12 = .ok (.ldc2_w 314, 3) := by decide +kernel
theorem dX8_digest_15 : decode cX8_digest 15 = .ok (.lload_n 1, 1) := by decide +kernel
theorem dX8_digest_16 : decode cX8_digest 16 = .ok (.lmul, 1) := by decide +kernel
theorem dX8_digest_17 : decode cX8_digest 17 = .ok (.aload_n 0, 1) := by decide +kernel
theorem dX8_digest_18 : decode cX8_digest 18 = .ok (.iload_n 3, 1) := by decide +kernel
theorem dX8_digest_19 : decode cX8_digest 19 = .ok (.invokevirtual 318, 3) := by decide +kernel
theorem dX8_digest_22 : decode cX8_digest 22 = .ok (.i2l, 1) := by decide +kernel
theorem dX8_digest_23 : decode cX8_digest 23 = .ok (.ladd, 1) := by decide +kernel
theorem dX8_digest_24 : decode cX8_digest 24 = .ok (.lstore_n 1, 1) := by decide +kernel
theorem dX8_digest_25 : decode cX8_digest 25 = .ok (.iinc 3 1, 3) := by decide +kernel
theorem dX8_digest_28 : decode cX8_digest 28 = .ok (.goto (-22), 3) := by decide +kernel
theorem dX8_digest_31 : decode cX8_digest 31 = .ok (.ldc2_w 314, 3) := by decide +kernel
theorem dX8_digest_34 : decode cX8_digest 34 = .ok (.lload_n 1, 1) := by decide +kernel
theorem dX8_digest_35 : decode cX8_digest 35 = .ok (.lmul, 1) := by decide +kernel
theorem dX8_digest_36 : decode cX8_digest 36 = .ok (.aload_n 0, 1) := by decide +kernel
theorem dX8_digest_37 : decode cX8_digest 37 = .ok (.iconst 0, 1) := by decide +kernel
theorem dX8_digest_38 : decode cX8_digest 38 = .ok (.invokevirtual 128, 3) := by decide +kernel
theorem dX8_digest_41 : decode cX8_digest 41 = .ok (.i2l, 1) := by decide +kernel
theorem dX8_digest_42 : decode cX8_digest 42 = .ok (.ladd, 1) := by decide +kernel
theorem dX8_digest_43 : decode cX8_digest 43 = .ok (.lstore_n 1, 1) := by decide +kernel
theorem dX8_digest_44 : decode cX8_digest 44 = .ok (.ldc2_w 314, 3) := by decide +kernel
theorem dX8_digest_47 : decode cX8_digest 47 = .ok (.lload_n 1, 1) := by decide +kernel
theorem dX8_digest_48 : decode cX8_digest 48 = .ok (.lmul, 1) := by decide +kernel
theorem dX8_digest_49 : decode cX8_digest 49 = .ok (.aload_n 0, 1) := by decide +kernel
theorem dX8_digest_50 : decode cX8_digest 50 = .ok (.iconst 1, 1) := by decide +kernel
theorem dX8_digest_51 : decode cX8_digest 51 = .ok (.invokevirtual 128, 3) := by decide +kernel
theorem dX8_digest_54 : decode cX8_digest 54 = .ok (.i2l, 1) := by decide +kernel
theorem dX8_digest_55 : decode cX8_digest 55 = .ok (.ladd, 1) := by decide +kernel
theorem dX8_digest_56 : decode cX8_digest 56 = .ok (.lstore_n 1, 1) := by decide +kernel
theorem dX8_digest_57 : decode cX8_digest 57 = .ok (.iconst 0, 1) := by decide +kernel
theorem dX8_digest_58 : decode cX8_digest 58 = .ok (.istore_n 3, 1) := by decide +kernel
theorem dX8_digest_59 : decode cX8_digest 59 = .ok (.iload_n 3, 1) := by decide +kernel
theorem dX8_digest_60 : decode cX8_digest 60 = .ok (.bipush 40, 2) := by decide +kernel
theorem dX8_digest_62 : decode cX8_digest 62 = .ok (.if_icmp .ge 52, 3) := by decide +kernel
theorem dX8_digest_65 : decode cX8_digest 65 = .ok (.ldc2_w 314, 3) := by decide +kernel
theorem dX8_digest_68 : decode cX8_digest 68 = .ok (.lload_n 1, 1) := by decide +kernel
theorem dX8_digest_69 : decode cX8_digest 69 = .ok (.lmul, 1) := by decide +kernel
theorem dX8_digest_70 : decode cX8_digest 70 = .ok (.aload_n 0, 1) := by decide +kernel
theorem dX8_digest_71 : decode cX8_digest 71 = .ok (.iload_n 3, 1) := by decide +kernel
theorem dX8_digest_72 : decode cX8_digest 72 = .ok (.invokevirtual 137, 3) := by decide +kernel
theorem dX8_digest_75 : decode cX8_digest 75 = .ok (.i2l, 1) := by decide +kernel
theorem dX8_digest_76 : decode cX8_digest 76 = .ok (.ladd, 1) := by decide +kernel
theorem dX8_digest_77 : decode cX8_digest 77 = .ok (.lstore_n 1, 1) := by decide +kernel
theorem dX8_digest_78 : decode cX8_digest 78 = .ok (.iconst 0, 1) := by decide +kernel
theorem dX8_digest_79 : decode cX8_digest 79 = .ok (.istore 4, 2) := by decide +kernel
theorem dX8_digest_81 : decode cX8_digest 81 = .ok (.iload 4, 2) := by decide +kernel
theorem dX8_digest_83 : decode cX8_digest 83 = .ok (.iconst 5, 1) := by decide +kernel
theorem dX8_digest_84 : decode cX8_digest 84 = .ok (.if_icmp .ge 24, 3) := by decide +kernel
theorem dX8_digest_87 : decode cX8_digest 87 = .ok (.ldc2_w 314, 3) := by decide +kernel
theorem dX8_digest_90 : decode cX8_digest 90 = .ok (.lload_n 1, 1) := by decide +kernel
theorem dX8_digest_91 : decode cX8_digest 91 = .ok (.lmul, 1) := by decide +kernel
theorem dX8_digest_92 : decode cX8_digest 92 = .ok (.aload_n 0, 1) := by decide +kernel
theorem dX8_digest_93 : decode cX8_digest 93 = .ok (.iload_n 3, 1) := by decide +kernel
theorem dX8_digest_94 : decode cX8_digest 94 = .ok (.iload 4, 2) := by decide +kernel
theorem dX8_digest_96 : decode cX8_digest 96 = .ok (.invokevirtual 222, 3) := by decide +kernel
theorem dX8_digest_99 : decode cX8_digest 99 = .ok (.i2l, 1) := by decide +kernel
theorem dX8_digest_100 : decode cX8_digest 100 = .ok (.ladd, 1) := by decide +kernel
theorem dX8_digest_101 : decode cX8_digest 101 = .ok (.lstore_n 1, 1) := by decide +kernel
theorem dX8_digest_102 : decode cX8_digest 102 = .ok (.iinc 4 1, 3) := by decide +kernel
theorem dX8_digest_105 : decode cX8_digest 105 = .ok (.goto (-24), 3) := by decide +kernel
theorem dX8_digest_108 : decode cX8_digest 108 = .ok (.iinc 3 1, 3) := by decide +kernel
theorem dX8_digest_111 : decode cX8_digest 111 = .ok (.goto (-52), 3) := by decide +kernel
theorem dX8_digest_114 : decode cX8_digest 114 = .ok (.iconst 0, 1) := by decide +kernel
theorem dX8_digest_115 : decode cX8_digest 115 = .ok (.istore_n 3, 1) := by decide +kernel
theorem dX8_digest_116 : decode cX8_digest 116 = .ok (.iload_n 3, 1) := by decide +kernel
theorem dX8_digest_117 : decode cX8_digest 117 = .ok (.aload_n 0, 1) := by decide +kernel
theorem dX8_digest_118 : decode cX8_digest 118 = .ok (.getfield 114, 3) := by decide +kernel
theorem dX8_digest_121 : decode cX8_digest 121 = .ok (.if_icmp .ge 16, 3) := by decide +kernel
theorem dX8_digest_124 : decode cX8_digest 124 = .ok (.aload_n 0, 1) := by decide +kernel
theorem dX8_digest_125 : decode cX8_digest 125 = .ok (.lload_n 1, 1) := by decide +kernel
theorem dX8_digest_126 : decode cX8_digest 126 = .ok (.iload_n 3, 1) := by decide +kernel
theorem dX8_digest_127 : decode cX8_digest 127 = .ok (.invokevirtual 321, 3) := by decide +kernel
theorem dX8_digest_130 : decode cX8_digest 130 = .ok (.lstore_n 1, 1) := by decide +kernel
theorem dX8_digest_131 : decode cX8_digest 131 = .ok (.iinc 3 1, 3) := by decide +kernel
theorem dX8_digest_134 : decode cX8_digest 134 = .ok (.goto (-18), 3) := by decide +kernel
theorem dX8_digest_137 : decode cX8_digest 137 = .ok (.ldc2_w 314, 3) := by decide +kernel
theorem dX8_digest_140 : decode cX8_digest 140 = .ok (.lload_n 1, 1) := by decide +kernel
theorem dX8_digest_141 : decode cX8_digest 141 = .ok (.lmul, 1) := by decide +kernel
theorem dX8_digest_142 : decode cX8_digest 142 = .ok (.aload_n 0, 1) := by decide +kernel
theorem dX8_digest_143 : decode cX8_digest 143 = .ok (.invokevirtual 234, 3) := by decide +kernel
theorem dX8_digest_146 : decode cX8_digest 146 = .ok (.i2l, 1) := by decide +kernel
theorem dX8_digest_147 : decode cX8_digest 147 = .ok (.ladd, 1) := by decide +kernel
theorem dX8_digest_148 : decode cX8_digest 148 = .ok (.lstore_n 1, 1) := by decide +kernel
theorem dX8_digest_149 : decode cX8_digest 149 = .ok (.ldc2_w 314, 3) := by decide +kernel
theorem dX8_digest_152 : decode cX8_digest 152 = .ok (.lload_n 1, 1) := by decide +kernel
theorem dX8_digest_153 : decode cX8_digest 153 = .ok (.lmul, 1) := by decide +kernel
theorem dX8_digest_154 : decode cX8_digest 154 = .ok (.aload_n 0, 1) := by decide +kernel
theorem dX8_digest_155 : decode cX8_digest 155 = .ok (.invokevirtual 237, 3) := by decide +kernel
theorem dX8_digest_158 : decode cX8_digest 158 = .ok (.i2l, 1) := by decide +kernel
theorem dX8_digest_159 : decode cX8_digest 159 = .ok (.ladd, 1) := by decide +kernel
theorem dX8_digest_160 : decode cX8_digest 160 = .ok (.lstore_n 1, 1) := by decide +kernel
theorem dX8_digest_161 : decode cX8_digest 161 = .ok (.ldc2_w 314, 3) := by decide +kernel
theorem dX8_digest_164 : decode cX8_digest 164 = .ok (.lload_n 1, 1) := by decide +kernel
theorem dX8_digest_165 : decode cX8_digest 165 = .ok (.lmul, 1) := by decide +kernel
theorem dX8_digest_166 : decode cX8_digest 166 = .ok (.aload_n 0, 1) := by decide +kernel
theorem dX8_digest_167 : decode cX8_digest 167 = .ok (.invokevirtual 240, 3) := by decide +kernel
theorem dX8_digest_170 : decode cX8_digest 170 = .ok (.i2l, 1) := by decide +kernel
theorem dX8_digest_171 : decode cX8_digest 171 = .ok (.ladd, 1) := by decide +kernel
theorem dX8_digest_172 : decode cX8_digest 172 = .ok (.lstore_n 1, 1) := by decide +kernel
theorem dX8_digest_173 : decode cX8_digest 173 = .ok (.ldc2_w 314, 3) := by decide +kernel
theorem dX8_digest_176 : decode cX8_digest 176 = .ok (.lload_n 1, 1) := by decide +kernel
theorem dX8_digest_177 : decode cX8_digest 177 = .ok (.lmul, 1) := by decide +kernel
theorem dX8_digest_178 : decode cX8_digest 178 = .ok (.aload_n 0, 1) := by decide +kernel
theorem dX8_digest_179 : decode cX8_digest 179 = .ok (.invokevirtual 243, 3) := by decide +kernel
theorem dX8_digest_182 : decode cX8_digest 182 = .ok (.i2l, 1) := by decide +kernel
theorem dX8_digest_183 : decode cX8_digest 183 = .ok (.ladd, 1) := by decide +kernel
theorem dX8_digest_184 : decode cX8_digest 184 = .ok (.lstore_n 1, 1) := by decide +kernel
theorem dX8_digest_185 : decode cX8_digest 185 = .ok (.aload_n 0, 1) := by decide +kernel
theorem dX8_digest_186 : decode cX8_digest 186 = .ok (.invokevirtual 250, 3) := by decide +kernel
theorem dX8_digest_189 : decode cX8_digest 189 = .ok (.istore_n 3, 1) := by decide +kernel
theorem dX8_digest_190 : decode cX8_digest 190 = .ok (.ldc2_w 314, 3) := by decide +kernel
theorem dX8_digest_193 : decode cX8_digest 193 = .ok (.lload_n 1, 1) := by decide +kernel
theorem dX8_digest_194 : decode cX8_digest 194 = .ok (.lmul, 1) := by decide +kernel
theorem dX8_digest_195 : decode cX8_digest 195 = .ok (.iload_n 3, 1) := by decide +kernel
theorem dX8_digest_196 : decode cX8_digest 196 = .ok (.i2l, 1) := by decide +kernel
theorem dX8_digest_197 : decode cX8_digest 197 = .ok (.ladd, 1) := by decide +kernel
theorem dX8_digest_198 : decode cX8_digest 198 = .ok (.lstore_n 1, 1) := by decide +kernel
theorem dX8_digest_199 : decode cX8_digest 199 = .ok (.iconst 0, 1) := by decide +kernel
theorem dX8_digest_200 : decode cX8_digest 200 = .ok (.istore 4, 2) := by decide +kernel
theorem dX8_digest_202 : decode cX8_digest 202 = .ok (.iload 4, 2) := by decide +kernel
theorem dX8_digest_204 : decode cX8_digest 204 = .ok (.iconst 3, 1) := by decide +kernel
theorem dX8_digest_205 : decode cX8_digest 205 = .ok (.if_icmp .ge 37, 3) := by decide +kernel
theorem dX8_digest_208 : decode cX8_digest 208 = .ok (.ldc2_w 314, 3) := by decide +kernel
theorem dX8_digest_211 : decode cX8_digest 211 = .ok (.lload_n 1, 1) := by decide +kernel
theorem dX8_digest_212 : decode cX8_digest 212 = .ok (.lmul, 1) := by decide +kernel
theorem dX8_digest_213 : decode cX8_digest 213 = .ok (.iload 4, 2) := by decide +kernel
theorem dX8_digest_215 : decode cX8_digest 215 = .ok (.aload_n 0, 1) := by decide +kernel
theorem dX8_digest_216 : decode cX8_digest 216 = .ok (.getfield 114, 3) := by decide +kernel
theorem dX8_digest_219 : decode cX8_digest 219 = .ok (.if_icmp .ge 13, 3) := by decide +kernel
theorem dX8_digest_222 : decode cX8_digest 222 = .ok (.aload_n 0, 1) := by decide +kernel
theorem dX8_digest_223 : decode cX8_digest 223 = .ok (.getfield 64, 3) := by decide +kernel
theorem dX8_digest_226 : decode cX8_digest 226 = .ok (.iload 4, 2) := by decide +kernel
theorem dX8_digest_228 : decode cX8_digest 228 = .ok (.iaload, 1) := by decide +kernel
theorem dX8_digest_229 : decode cX8_digest 229 = .ok (.goto 4, 3) := by decide +kernel
theorem dX8_digest_232 : decode cX8_digest 232 = .ok (.iconst (-1), 1) := by decide +kernel
theorem dX8_digest_233 : decode cX8_digest 233 = .ok (.i2l, 1) := by decide +kernel
theorem dX8_digest_234 : decode cX8_digest 234 = .ok (.ladd, 1) := by decide +kernel
theorem dX8_digest_235 : decode cX8_digest 235 = .ok (.lstore_n 1, 1) := by decide +kernel
theorem dX8_digest_236 : decode cX8_digest 236 = .ok (.iinc 4 1, 3) := by decide +kernel
theorem dX8_digest_239 : decode cX8_digest 239 = .ok (.goto (-37), 3) := by decide +kernel
theorem dX8_digest_242 : decode cX8_digest 242 = .ok (.ldc2_w 314, 3) := by decide +kernel
theorem dX8_digest_245 : decode cX8_digest 245 = .ok (.lload_n 1, 1) := by decide +kernel
theorem dX8_digest_246 : decode cX8_digest 246 = .ok (.lmul, 1) := by decide +kernel
theorem dX8_digest_247 : decode cX8_digest 247 = .ok (.aload_n 0, 1) := by decide +kernel
theorem dX8_digest_248 : decode cX8_digest 248 = .ok (.iconst 0, 1) := by decide +kernel
theorem dX8_digest_249 : decode cX8_digest 249 = .ok (.invokevirtual 256, 3) := by decide +kernel
theorem dX8_digest_252 : decode cX8_digest 252 = .ok (.i2l, 1) := by decide +kernel
theorem dX8_digest_253 : decode cX8_digest 253 = .ok (.ladd, 1) := by decide +kernel
theorem dX8_digest_254 : decode cX8_digest 254 = .ok (.lstore_n 1, 1) := by decide +kernel
theorem dX8_digest_255 : decode cX8_digest 255 = .ok (.ldc2_w 314, 3) := by decide +kernel
theorem dX8_digest_258 : decode cX8_digest 258 = .ok (.lload_n 1, 1) := by decide +kernel
theorem dX8_digest_259 : decode cX8_digest 259 = .ok (.lmul, 1) := by decide +kernel
theorem dX8_digest_260 : decode cX8_digest 260 = .ok (.aload_n 0, 1) := by decide +kernel
theorem dX8_digest_261 : decode cX8_digest 261 = .ok (.iconst 1, 1) := by decide +kernel
theorem dX8_digest_262 : decode cX8_digest 262 = .ok (.invokevirtual 256, 3) := by decide +kernel
theorem dX8_digest_265 : decode cX8_digest 265 = .ok (.i2l, 1) := by decide +kernel
theorem dX8_digest_266 : decode cX8_digest 266 = .ok (.ladd, 1) := by decide +kernel
theorem dX8_digest_267 : decode cX8_digest 267 = .ok (.lstore_n 1, 1) := by decide +kernel
theorem dX8_digest_268 : decode cX8_digest 268 = .ok (.ldc2_w 314, 3) := by decide +kernel
theorem dX8_digest_271 : decode cX8_digest 271 = .ok (.lload_n 1, 1) := by decide +kernel
theorem dX8_digest_272 : decode cX8_digest 272 = .ok (.lmul, 1) := by decide +kernel
theorem dX8_digest_273 : decode cX8_digest 273 = .ok (.aload_n 0, 1) := by decide +kernel
theorem dX8_digest_274 : decode cX8_digest 274 = .ok (.invokevirtual 259, 3) := by decide +kernel
theorem dX8_digest_277 : decode cX8_digest 277 = .ok (.i2l, 1) := by decide +kernel
theorem dX8_digest_278 : decode cX8_digest 278 = .ok (.ladd, 1) := by decide +kernel
theorem dX8_digest_279 : decode cX8_digest 279 = .ok (.lstore_n 1, 1) := by decide +kernel
theorem dX8_digest_280 : decode cX8_digest 280 = .ok (.ldc2_w 314, 3) := by decide +kernel
theorem dX8_digest_283 : decode cX8_digest 283 = .ok (.lload_n 1, 1) := by decide +kernel
theorem dX8_digest_284 : decode cX8_digest 284 = .ok (.lmul, 1) := by decide +kernel
theorem dX8_digest_285 : decode cX8_digest 285 = .ok (.aload_n 0, 1) := by decide +kernel
theorem dX8_digest_286 : decode cX8_digest 286 = .ok (.iconst 0, 1) := by decide +kernel
theorem dX8_digest_287 : decode cX8_digest 287 = .ok (.invokevirtual 262, 3) := by decide +kernel
theorem dX8_digest_290 : decode cX8_digest 290 = .ok (.i2l, 1) := by decide +kernel
theorem dX8_digest_291 : decode cX8_digest 291 = .ok (.ladd, 1) := by decide +kernel
theorem dX8_digest_292 : decode cX8_digest 292 = .ok (.lstore_n 1, 1) := by decide +kernel
theorem dX8_digest_293 : decode cX8_digest 293 = .ok (.ldc2_w 314, 3) := by decide +kernel
theorem dX8_digest_296 : decode cX8_digest 296 = .ok (.lload_n 1, 1) := by decide +kernel
theorem dX8_digest_297 : decode cX8_digest 297 = .ok (.lmul, 1) := by decide +kernel
theorem dX8_digest_298 : decode cX8_digest 298 = .ok (.aload_n 0, 1) := by decide +kernel
theorem dX8_digest_299 : decode cX8_digest 299 = .ok (.iconst 1, 1) := by decide +kernel
theorem dX8_digest_300 : decode cX8_digest 300 = .ok (.invokevirtual 262, 3) := by decide +kernel
theorem dX8_digest_303 : decode cX8_digest 303 = .ok (.i2l, 1) := by decide +kernel
theorem dX8_digest_304 : decode cX8_digest 304 = .ok (.ladd, 1) := by decide +kernel
theorem dX8_digest_305 : decode cX8_digest 305 = .ok (.lstore_n 1, 1) := by decide +kernel
theorem dX8_digest_306 : decode cX8_digest 306 = .ok (.ldc2_w 314, 3) := by decide +kernel
theorem dX8_digest_309 : decode cX8_digest 309 = .ok (.lload_n 1, 1) := by decide +kernel
theorem dX8_digest_310 : decode cX8_digest 310 = .ok (.lmul, 1) := by decide +kernel
theorem dX8_digest_311 : decode cX8_digest 311 = .ok (.aload_n 0, 1) := by decide +kernel
theorem dX8_digest_312 : decode cX8_digest 312 = .ok (.invokevirtual 271, 3) := by decide +kernel
theorem dX8_digest_315 : decode cX8_digest 315 = .ok (.i2l, 1) := by decide +kernel
theorem dX8_digest_316 : decode cX8_digest 316 = .ok (.ladd, 1) := by decide +kernel
theorem dX8_digest_317 : decode cX8_digest 317 = .ok (.lstore_n 1, 1) := by decide +kernel
theorem dX8_digest_318 : decode cX8_digest 318 = .ok (.ldc2_w 314, 3) := by decide +kernel
theorem dX8_digest_321 : decode cX8_digest 321 = .ok (.lload_n 1, 1) := by decide +kernel
theorem dX8_digest_322 : decode cX8_digest 322 = .ok (.lmul, 1) := by decide +kernel
theorem dX8_digest_323 : decode cX8_digest 323 = .ok (.aload_n 0, 1) := by decide +kernel
theorem dX8_digest_324 : decode cX8_digest 324 = .ok (.invokevirtual 274, 3) := by decide +kernel
theorem dX8_digest_327 : decode cX8_digest 327 = .ok (.i2l, 1) := by decide +kernel
theorem dX8_digest_328 : decode cX8_digest 328 = .ok (.ladd, 1) := by decide +kernel
theorem dX8_digest_329 : decode cX8_digest 329 = .ok (.lstore_n 1, 1) := by decide +kernel
theorem dX8_digest_330 : decode cX8_digest 330 = .ok (.ldc2_w 314, 3) := by decide +kernel
theorem dX8_digest_333 : decode cX8_digest 333 = .ok (.lload_n 1, 1) := by decide +kernel
theorem dX8_digest_334 : decode cX8_digest 334 = .ok (.lmul, 1) := by decide +kernel
theorem dX8_digest_335 : decode cX8_digest 335 = .ok (.aload_n 0, 1) := by decide +kernel
theorem dX8_digest_336 : decode cX8_digest 336 = .ok (.invokevirtual 277, 3) := by decide +kernel
theorem dX8_digest_339 : decode cX8_digest 339 = .ok (.i2l, 1) := by decide +kernel
theorem dX8_digest_340 : decode cX8_digest 340 = .ok (.ladd, 1) := by decide +kernel
theorem dX8_digest_341 : decode cX8_digest 341 = .ok (.lstore_n 1, 1) := by decide +kernel
theorem dX8_digest_342 : decode cX8_digest 342 = .ok (.ldc2_w 314, 3) := by decide +kernel
theorem dX8_digest_345 : decode cX8_digest 345 = .ok (.lload_n 1, 1) := by decide +kernel
theorem dX8_digest_346 : decode cX8_digest 346 = .ok (.lmul, 1) := by decide +kernel
theorem dX8_digest_347 : decode cX8_digest 347 = .ok (.aload_n 0, 1) := by decide +kernel
theorem dX8_digest_348 : decode cX8_digest 348 = .ok (.invokevirtual 280, 3) := by decide +kernel
theorem dX8_digest_351 : decode cX8_digest 351 = .ok (.i2l, 1) := by decide +kernel
theorem dX8_digest_352 : decode cX8_digest 352 = .ok (.ladd, 1) := by decide +kernel
theorem dX8_digest_353 : decode cX8_digest 353 = .ok (.lstore_n 1, 1) := by decide +kernel
theorem dX8_digest_354 : decode cX8_digest 354 = .ok (.ldc2_w 314, 3) := by decide +kernel
theorem dX8_digest_357 : decode cX8_digest 357 = .ok (.lload_n 1, 1) := by decide +kernel
theorem dX8_digest_358 : decode cX8_digest 358 = .ok (.lmul, 1) := by decide +kernel
theorem dX8_digest_359 : decode cX8_digest 359 = .ok (.aload_n 0, 1) := by decide +kernel
theorem dX8_digest_360 : decode cX8_digest 360 = .ok (.bipush 7, 2) := by decide +kernel
theorem dX8_digest_362 : decode cX8_digest 362 = .ok (.bipush 30, 2) := by decide +kernel
theorem dX8_digest_364 : decode cX8_digest 364 = .ok (.iconst 0, 1) := by decide +kernel
theorem dX8_digest_365 : decode cX8_digest 365 = .ok (.invokevirtual 296, 3) := by decide +kernel
theorem dX8_digest_368 : decode cX8_digest 368 = .ok (.i2l, 1) := by decide +kernel
theorem dX8_digest_369 : decode cX8_digest 369 = .ok (.ladd, 1) := by decide +kernel
theorem dX8_digest_370 : decode cX8_digest 370 = .ok (.lstore_n 1, 1) := by decide +kernel
theorem dX8_digest_371 : decode cX8_digest 371 = .ok (.ldc2_w 314, 3) := by decide +kernel
theorem dX8_digest_374 : decode cX8_digest 374 = .ok (.lload_n 1, 1) := by decide +kernel
theorem dX8_digest_375 : decode cX8_digest 375 = .ok (.lmul, 1) := by decide +kernel
theorem dX8_digest_376 : decode cX8_digest 376 = .ok (.aload_n 0, 1) := by decide +kernel
theorem dX8_digest_377 : decode cX8_digest 377 = .ok (.bipush 7, 2) := by decide +kernel
theorem dX8_digest_379 : decode cX8_digest 379 = .ok (.bipush 30, 2) := by decide +kernel
theorem dX8_digest_381 : decode cX8_digest 381 = .ok (.iconst 1, 1) := by decide +kernel
theorem dX8_digest_382 : decode cX8_digest 382 = .ok (.invokevirtual 296, 3) := by decide +kernel
theorem dX8_digest_385 : decode cX8_digest 385 = .ok (.i2l, 1) := by decide +kernel
theorem dX8_digest_386 : decode cX8_digest 386 = .ok (.ladd, 1) := by decide +kernel
theorem dX8_digest_387 : decode cX8_digest 387 = .ok (.lreturn, 1) := by decide +kernel
