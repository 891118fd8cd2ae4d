theorem dX7_lose_21 : decode cX7_lose 21 = .ok (.ifCond .eq 9, 3) := by decide +kernel
theorem dX7_lose_24 : decode cX7_lose 24 = .ok (.aload_n 0, 1) := by decide +kernel
theorem dX7_lose_25 : decode cX7_lose 25 = .ok (.iconst 1, 1) := by decide +kernel
theorem dX7_lose_26 : decode cX7_lose 26 = .ok (.invokevirtual 159, 3) := by decide +kernel
theorem dX7_lose_29 : decode cX7_lose 29 = .ok (.ireturn, 1) := by decide +kernel
theorem dX7_lose_30 : decode cX7_lose 30 = .ok (.aload_n 2, 1) := by decide +kernel
theorem dX7_lose_31 : decode cX7_lose 31 = .ok (.getfield 163, 3) := by decide +kernel
theorem dX7_lose_34 : decode cX7_lose 34 = .ok (.istore_n 3, 1) := by decide +kernel
theorem dX7_lose_35 : decode cX7_lose 35 = .ok (.aload_n 2, 1) := by decide +kernel
theorem dX7_lose_36 : decode cX7_lose 36 = .ok (.iconst (-1), 1) := by decide +kernel
theorem dX7_lose_37 : decode cX7_lose 37 = .ok (.iconst 0, 1) := by decide +kernel
theorem dX7_lose_38 : decode cX7_lose 38 = .ok (.invokevirtual 271, 3) := by decide +kernel
theorem dX7_lose_41 : decode cX7_lose 41 = .ok (.iload_n 3, 1) := by decide +kernel
theorem dX7_lose_42 : decode cX7_lose 42 = .ok (.ireturn, 1) := by decide +kernel
theorem dX7_put_0 : decode cX7_put 0 = .ok (.iload_n 1, 1) := by decide +kernel
theorem dX7_put_1 : decode cX7_put 1 = .ok (.invokestatic 152, 3) := by decide +kernel
theorem dX7_put_4 : decode cX7_put 4 = .ok (.ifCond .eq 10, 3) := by decide +kernel
theorem dX7_put_7 : decode cX7_put 7 = .ok (.iload_n 2, 1) := by decide +kernel
theorem dX7_put_8 : decode cX7_put 8 = .ok (.invokestatic 268, 3) := by decide +kernel
theorem dX7_put_11 : decode cX7_put 11 = .ok (.ifCond .ne 6, 3) := by decide +kernel
theorem dX7_put_14 : decode cX7_put 14 = .ok (.bipush (-2), 2) := by decide +kernel
theorem dX7_put_16 : decode cX7_put 16 = .ok (.ireturn, 1) := by decide +kernel
theorem dX7_put_17 : decode cX7_put 17 = .ok (.aload_n 0, 1) := by decide +kernel
theorem dX7_put_18 : decode cX7_put 18 = .ok (.getfield 34, 3) := by decide +kernel
theorem dX7_put_21 : decode cX7_put 21 = .ok (.iload_n 1, 1) := by decide +kernel
theorem dX7_put_22 : decode cX7_put 22 = .ok (.aaload, 1) := by decide +kernel
theorem dX7_put_23 : decode cX7_put 23 = .ok (.iload_n 2, 1) := by decide +kernel
theorem dX7_put_24 : decode cX7_put 24 = .ok (.iload_n 3, 1) := by decide +kernel
theorem dX7_put_25 : decode cX7_put 25 = .ok (.invokevirtual 275, 3) := by decide +kernel
theorem dX7_put_28 : decode cX7_put 28 = .ok (.istore 5, 2) := by decide +kernel
theorem dX7_put_30 : decode cX7_put 30 = .ok (.iload 5, 2) := by decide +kernel
theorem dX7_put_32 : decode cX7_put 32 = .ok (.ifCond .eq 10, 3) := by decide +kernel
theorem dX7_put_35 : decode cX7_put 35 = .ok (.aload_n 0, 1) := by decide +kernel
theorem dX7_put_36 : decode cX7_put 36 = .ok (.iload 5, 2) := by decide +kernel
theorem dX7_put_38 : decode cX7_put 38 = .ok (.invokevirtual 159, 3) := by decide +kernel
theorem dX7_put_41 : decode cX7_put 41 = .ok (.ireturn, 1) := by decide +kernel
theorem dX7_put_42 : decode cX7_put 42 = .ok (.aload_n 0, 1) := by decide +kernel
theorem dX7_put_43 : decode cX7_put 43 = .ok (.getfield 34, 3) := by decide +kernel
theorem dX7_put_46 : decode cX7_put 46 = .ok (.iload_n 1, 1) := by decide +kernel
theorem dX7_put_47 : decode cX7_put 47 = .ok (.aaload, 1) := by decide +kernel
theorem dX7_put_48 : decode cX7_put 48 = .ok (.iload_n 3, 1) := by decide +kernel
theorem dX7_put_49 : decode cX7_put 49 = .ok (.iload 4, 2) := by decide +kernel
theorem dX7_put_51 : decode cX7_put 51 = .ok (.invokevirtual 279, 3) := by decide +kernel
theorem dX7_put_54 : decode cX7_put 54 = .ok (.iconst 1, 1) := by decide +kernel
theorem dX7_put_55 : decode cX7_put 55 = .ok (.ireturn, 1) := by decide +kernel
theorem dX7_get_0 : decode cX7_get 0 = .ok (.iload_n 1, 1) := by decide +kernel
theorem dX7_get_1 : decode cX7_get 1 = .ok (.invokestatic 152, 3) := by decide +kernel
theorem dX7_get_4 : decode cX7_get 4 = .ok (.ifCond .eq 10, 3) := by decide +kernel
theorem dX7_get_7 : decode cX7_get 7 = .ok (.iload_n 2, 1) := by decide +kernel
theorem dX7_get_8 : decode cX7_get 8 = .ok (.invokestatic 268, 3) := by decide +kernel
theorem dX7_get_11 : decode cX7_get 11 = .ok (.ifCond .ne 7, 3) := by decide +kernel
theorem dX7_get_14 : decode cX7_get 14 = .ok (.ldc_w 282, 3) := by decide +kernel
theorem dX7_get_17 : decode cX7_get 17 = .ok (.ireturn, 1) := by decide +kernel
theorem dX7_get_18 : decode cX7_get 18 = .ok (.aload_n 0, 1) := by decide +kernel
theorem dX7_get_19 : decode cX7_get 19 = .ok (.getfield 34, 3) := by decide +kernel
theorem dX7_get_22 : decode cX7_get 22 = .ok (.iload_n 1, 1) := by decide +kernel
theorem dX7_get_23 : decode cX7_get 23 = .ok (.aaload, 1) := by decide +kernel
theorem dX7_get_24 : decode cX7_get 24 = .ok (.iload_n 2, 1) := by decide +kernel
theorem dX7_get_25 : decode cX7_get 25 = .ok (.iload_n 3, 1) := by decide +kernel
theorem dX7_get_26 : decode cX7_get 26 = .ok (.invokevirtual 275, 3) := by decide +kernel
theorem dX7_get_29 : decode cX7_get 29 = .ok (.istore 4, 2) := by decide +kernel
theorem dX7_get_31 : decode cX7_get 31 = .ok (.iload 4, 2) := by decide +kernel
theorem dX7_get_33 : decode cX7_get 33 = .ok (.ifCond .eq 13, 3) := by decide +kernel
theorem dX7_get_36 : decode cX7_get 36 = .ok (.aload_n 0, 1) := by decide +kernel
theorem dX7_get_37 : decode cX7_get 37 = .ok (.iload 4, 2) := by decide +kernel
theorem dX7_get_39 : decode cX7_get 39 = .ok (.putfield 283, 3) := by decide +kernel
theorem dX7_get_42 : decode cX7_get 42 = .ok (.ldc_w 282, 3) := by decide +kernel
theorem dX7_get_45 : decode cX7_get 45 = .ok (.ireturn, 1) := by decide +kernel
theorem dX7_get_46 : decode cX7_get 46 = .ok (.aload_n 0, 1) := by decide +kernel
theorem dX7_get_47 : decode cX7_get 47 = .ok (.getfield 34, 3) := by decide +kernel
theorem dX7_get_50 : decode cX7_get 50 = .ok (.iload_n 1, 1) := by decide +kernel
theorem dX7_get_51 : decode cX7_get 51 = .ok (.aaload, 1) := by decide +kernel
theorem dX7_get_52 : decode cX7_get 52 = .ok (.getfield 164, 3) := by decide +kernel
theorem dX7_get_55 : decode cX7_get 55 = .ok (.iload_n 3, 1) := by decide +kernel
theorem dX7_get_56 : decode cX7_get 56 = .ok (.iaload, 1) := by decide +kernel
theorem dX7_get_57 : decode cX7_get 57 = .ok (.ireturn, 1) := by decide +kernel
theorem dX7_copy_0 : decode cX7_copy 0 = .ok (.iload_n 1, 1) := by decide +kernel
theorem dX7_copy_1 : decode cX7_copy 1 = .ok (.invokestatic 152, 3) := by decide +kernel
theorem dX7_copy_4 : decode cX7_copy 4 = .ok (.ifCond .eq 10, 3) := by decide +kernel
theorem dX7_copy_7 : decode cX7_copy 7 = .ok (.iload_n 3, 1) := by decide +kernel
theorem dX7_copy_8 : decode cX7_copy 8 = .ok (.invokestatic 152, 3) := by decide +kernel
theorem dX7_copy_11 : decode cX7_copy 11 = .ok (.ifCond .ne 6, 3) := by decide +kernel
theorem dX7_copy_14 : decode cX7_copy 14 = .ok (.bipush (-2), 2) := by decide +kernel
theorem dX7_copy_16 : decode cX7_copy 16 = .ok (.ireturn, 1) := by decide +kernel
theorem dX7_copy_17 : decode cX7_copy 17 = .ok (.aload_n 0, 1) := by decide +kernel
theorem dX7_copy_18 : decode cX7_copy 18 = .ok (.getfield 34, 3) := by decide +kernel
theorem dX7_copy_21 : decode cX7_copy 21 = .ok (.iload_n 1, 1) := by decide +kernel
theorem dX7_copy_22 : decode cX7_copy 22 = .ok (.aaload, 1) := by decide +kernel
theorem dX7_copy_23 : decode cX7_copy 23 = .ok (.astore 6, 2) := by decide +kernel
theorem dX7_copy_25 : decode cX7_copy 25 = .ok (.aload_n 0, 1) := by decide +kernel
theorem dX7_copy_26 : decode cX7_copy 26 = .ok (.getfield 34, 3) := by decide +kernel
theorem dX7_copy_29 : decode cX7_copy 29 = .ok (.iload_n 3, 1) := by decide +kernel
theorem dX7_copy_30 : decode cX7_copy 30 = .ok (.aaload, 1) := by decide +kernel
theorem dX7_copy_31 : decode cX7_copy 31 = .ok (.astore 7, 2) := by decide +kernel
theorem dX7_copy_33 : decode cX7_copy 33 = .ok (.aload 6, 2) := by decide +kernel
theorem dX7_copy_35 : decode cX7_copy 35 = .ok (.invokevirtual 155, 3) := by decide +kernel
theorem dX7_copy_38 : decode cX7_copy 38 = .ok (.ifCond .ne 11, 3) := by decide +kernel
theorem dX7_copy_41 : decode cX7_copy 41 = .ok (.aload 7, 2) := by decide +kernel
theorem dX7_copy_43 : decode cX7_copy 43 = .ok (.invokevirtual 155, 3) := by decide +kernel
theorem dX7_copy_46 : decode cX7_copy 46 = .ok (.ifCond .eq 9, 3) := by decide +kernel
theorem dX7_copy_49 : decode cX7_copy 49 = .ok (.aload_n 0, 1) := by decide +kernel
theorem dX7_copy_50 : decode cX7_copy 50 = .ok (.iconst 1, 1) := by decide +kernel
theorem dX7_copy_51 : decode cX7_copy 51 = .ok (.invokevirtual 159, 3) := by decide +kernel
theorem dX7_copy_54 : decode cX7_copy 54 = .ok (.ireturn, 1) := by decide +kernel
theorem dX7_copy_55 : decode cX7_copy 55 = .ok (.aload 6, 2) := by decide +kernel
theorem dX7_copy_57 : decode cX7_copy 57 = .ok (.getfield 286, 3) := by decide +kernel
theorem dX7_copy_60 : decode cX7_copy 60 = .ok (.aload 7, 2) := by decide +kernel
theorem dX7_copy_62 : decode cX7_copy 62 = .ok (.getfield 286, 3) := by decide +kernel
theorem dX7_copy_65 : decode cX7_copy 65 = .ok (.if_icmp .eq 9, 3) := by decide +kernel
theorem dX7_copy_68 : decode cX7_copy 68 = .ok (.aload_n 0, 1) := by decide +kernel
theorem dX7_copy_69 : decode cX7_copy 69 = .ok (.iconst 4, 1) := by decide +kernel
theorem dX7_copy_70 : decode cX7_copy 70 = .ok (.invokevirtual 159, 3) := by decide +kernel
theorem dX7_copy_73 : decode cX7_copy 73 = .ok (.ireturn, 1) := by decide +kernel
theorem dX7_copy_74 : decode cX7_copy 74 = .ok (.aload 6, 2) := by decide +kernel
theorem dX7_copy_76 : decode cX7_copy 76 = .ok (.iload_n 2, 1) := by decide +kernel
theorem dX7_copy_77 : decode cX7_copy 77 = .ok (.iload 5, 2) := by decide +kernel
theorem dX7_copy_79 : decode cX7_copy 79 = .ok (.invokevirtual 289, 3) := by decide +kernel
theorem dX7_copy_82 : decode cX7_copy 82 = .ok (.ifCond .eq 15, 3) := by decide +kernel
theorem dX7_copy_85 : decode cX7_copy 85 = .ok (.aload 7, 2) := by decide +kernel
theorem dX7_copy_87 : decode cX7_copy 87 = .ok (.iload 4, 2) := by decide +kernel
theorem dX7_copy_89 : decode cX7_copy 89 = .ok (.iload 5, 2) := by decide +kernel
theorem dX7_copy_91 : decode cX7_copy 91 = .ok (.invokevirtual 289, 3) := by decide +kernel
theorem dX7_copy_94 : decode cX7_copy 94 = .ok (.ifCond .ne 9, 3) := by decide +kernel
theorem dX7_copy_97 : decode cX7_copy 97 = .ok (.aload_n 0, 1) := by decide +kernel
theorem dX7_copy_98 : decode cX7_copy 98 = .ok (.iconst 2, 1) := by decide +kernel
theorem dX7_copy_99 : decode cX7_copy 99 = .ok (.invokevirtual 159, 3) := by decide +kernel
theorem dX7_copy_102 : decode cX7_copy 102 = .ok (.ireturn, 1) := by decide +kernel
theorem dX7_copy_103 : decode cX7_copy 103 = .ok (.aload 6, 2) := by decide +kernel
theorem dX7_copy_105 : decode cX7_copy 105 = .ok (.getfield 164, 3) := by decide +kernel
theorem dX7_copy_108 : decode cX7_copy 108 = .ok (.iload_n 2, 1) := by decide +kernel
theorem dX7_copy_109 : decode cX7_copy 109 = .ok (.aload 7, 2) := by decide +kernel
theorem dX7_copy_111 : decode cX7_copy 111 = .ok (.getfield 164, 3) := by decide +kernel
theorem dX7_copy_114 : decode cX7_copy 114 = .ok (.iload 4, 2) := by decide +kernel
theorem dX7_copy_116 : decode cX7_copy 116 = .ok (.iload 5, 2) := by decide +kernel
theorem dX7_copy_118 : decode cX7_copy 118 = .ok (.invokestatic 293, 3) := by decide +kernel
theorem dX7_copy_121 : decode cX7_copy 121 = .ok (.iconst 1, 1) := by decide +kernel
theorem dX7_copy_122 : decode cX7_copy 122 = .ok (.ireturn, 1) := by decide +kernel
theorem dX7_write_0 : decode cX7_write 0 = .ok (.iload_n 1, 1) := by decide +kernel
theorem dX7_write_1 : decode cX7_write 1 = .ok (.invokestatic 152, 3) := by decide +kernel
theorem dX7_write_4 : decode cX7_write 4 = .ok (.ifCond .ne 6, 3) := by decide +kernel
theorem dX7_write_7 : decode cX7_write 7 = .ok (.bipush (-2), 2) := by decide +kernel
theorem dX7_write_9 : decode cX7_write 9 = .ok (.ireturn, 1) := by decide +kernel
theorem dX7_write_10 : decode cX7_write 10 = .ok (.aload_n 0, 1) := by decide +kernel
theorem dX7_write_11 : decode cX7_write 11 = .ok (.getfield 34, 3) := by decide +kernel
theorem dX7_write_14 : decode cX7_write 14 = .ok (.iload_n 1, 1) := by decide +kernel
theorem dX7_write_15 : decode cX7_write 15 = .ok (.aaload, 1) := by decide +kernel
theorem dX7_write_16 : decode cX7_write 16 = .ok (.astore_n 2, 1) := by decide +kernel
theorem dX7_write_17 : decode cX7_write 17 = .ok (.aload_n 2, 1) := by decide +kernel
theorem dX7_write_18 : decode cX7_write 18 = .ok (.invokevirtual 155, 3) := by decide +kernel
theorem dX7_write_21 : decode cX7_write 21 = .ok (.ifCond .eq 9, 3) := by decide +kernel
theorem dX7_write_24 : decode cX7_write 24 = .ok (.aload_n 0, 1) := by decide +kernel
theorem dX7_write_25 : decode cX7_write 25 = .ok (.iconst 1, 1) := by decide +kernel
theorem dX7_write_26 : decode cX7_write 26 = .ok (.invokevirtual 159, 3) := by decide +kernel
theorem dX7_write_29 : decode cX7_write 29 = .ok (.ireturn, 1) := by decide +kernel
theorem dX7_write_30 : decode cX7_write 30 = .ok (.aload_n 0, 1) := by decide +kernel
theorem dX7_write_31 : decode cX7_write 31 = .ok (.invokevirtual 125, 3) := by decide +kernel
theorem dX7_write_34 : decode cX7_write 34 = .ok (.aload_n 2, 1) := by decide +kernel
theorem dX7_write_35 : decode cX7_write 35 = .ok (.getfield 163, 3) := by decide +kernel
theorem dX7_write_38 : decode cX7_write 38 = .ok (.bipush 40, 2) := by decide +kernel
theorem dX7_write_40 : decode cX7_write 40 = .ok (.invokestatic 299, 3) := by decide +kernel
theorem dX7_write_43 : decode cX7_write 43 = .ok (.istore_n 3, 1) := by decide +kernel
theorem dX7_write_44 : decode cX7_write 44 = .ok (.iconst 0, 1) := by decide +kernel
theorem dX7_write_45 : decode cX7_write 45 = .ok (.istore 4, 2) := by decide +kernel
theorem dX7_write_47 : decode cX7_write 47 = .ok (.iload 4, 2) := by decide +kernel
theorem dX7_write_49 : decode cX7_write 49 = .ok (.iload_n 3, 1) := by decide +kernel
theorem dX7_write_50 : decode cX7_write 50 = .ok (.if_icmp .ge 25, 3) := by decide +kernel
theorem dX7_write_53 : decode cX7_write 53 = .ok (.aload_n 2, 1) := by decide +kernel
theorem dX7_write_54 : decode cX7_write 54 = .ok (.iload 4, 2) := by decide +kernel
theorem dX7_write_56 : decode cX7_write 56 = .ok (.aload_n 0, 1) := by decide +kernel
theorem dX7_write_57 : decode cX7_write 57 = .ok (.getfield 69, 3) := by decide +kernel
theorem dX7_write_60 : decode cX7_write 60 = .ok (.getfield 173, 3) := by decide +kernel
theorem dX7_write_63 : decode cX7_write 63 = .ok (.iload 4, 2) := by decide +kernel
theorem dX7_write_65 : decode cX7_write 65 = .ok (.iaload, 1) := by decide +kernel
theorem dX7_write_66 : decode cX7_write 66 = .ok (.invokevirtual 279, 3) := by decide +kernel
theorem dX7_write_69 : decode cX7_write 69 = .ok (.iinc 4 1, 3) := by decide +kernel
theorem dX7_write_72 : decode cX7_write 72 = .ok (.goto (-25), 3) := by decide +kernel
theorem dX7_write_75 : decode cX7_write 75 = .ok (.iload_n 3, 1) := by decide +kernel
theorem dX7_write_76 : decode cX7_write 76 = .ok (.ireturn, 1) := by decide +kernel
theorem dX7_count_0 : decode cX7_count 0 = .ok (.aload_n 0, 1) := by decide +kernel
theorem dX7_count_1 : decode cX7_count 1 = .ok (.invokevirtual 125, 3) := by decide +kernel
theorem dX7_count_4 : decode cX7_count 4 = .ok (.iload_n 1, 1) := by decide +kernel
theorem dX7_count_5 : decode cX7_count 5 = .ok (.tableswitch 143 0 8 #[51, 78, 86, 96, 106, 114, 122, 130, 138], 51) := by decide +kernel
theorem dX7_count_56 : decode cX7_count 56 = .ok (.aload_n 0, 1) := by decide +kernel
theorem dX7_count_57 : decode cX7_count 57 = .ok (.getfield 14, 3) := by decide +kernel
theorem dX7_count_60 : decode cX7_count 60 = .ok (.iconst 0, 1) := by decide +kernel
theorem dX7_count_61 : decode cX7_count 61 = .ok (.aaload, 1) := by decide +kernel
theorem dX7_count_62 : decode cX7_count 62 = .ok (.invokestatic 115, 3) := by decide +kernel
theorem dX7_count_65 : decode cX7_count 65 = .ok (.iconst (-1), 1) := by decide +kernel
theorem dX7_count_66 : decode cX7_count 66 = .ok (.if_icmp .ne 15, 3) := by decide +kernel
theorem dX7_count_69 : decode cX7_count 69 = .ok (.aload_n 0, 1) := by decide +kernel
theorem dX7_count_70 : decode cX7_count 70 = .ok (.getfield 14, 3) := by decide +kernel
theorem dX7_count_73 : decode cX7_count 73 = .ok (.iconst 0, 1) := by decide +kernel
theorem dX7_count_74 : decode cX7_count 74 = .ok (.aaload, 1) := by decide +kernel
theorem dX7_count_75 : decode cX7_count 75 = .ok (.getfield 105, 3) := by decide +kernel
theorem dX7_count_78 : decode cX7_count 78 = .ok (.goto 4, 3) := by decide +kernel
theorem dX7_count_81 : decode cX7_count 81 = .ok (.iconst 0, 1) := by decide +kernel
theorem dX7_count_82 : decode cX7_count 82 = .ok (.ireturn, 1) := by decide +kernel
theorem dX7_count_83 : decode cX7_count 83 = .ok (.aload_n 0, 1) := by decide +kernel
theorem dX7_count_84 : decode cX7_count 84 = .ok (.getfield 41, 3) := by decide +kernel
theorem dX7_count_87 : decode cX7_count 87 = .ok (.getfield 205, 3) := by decide +kernel
theorem dX7_count_90 : decode cX7_count 90 = .ok (.ireturn, 1) := by decide +kernel
theorem dX7_count_91 : decode cX7_count 91 = .ok (.aload_n 0, 1) := by decide +kernel
theorem dX7_count_92 : decode cX7_count 92 = .ok (.getfield 14, 3) := by decide +kernel
theorem dX7_count_95 : decode cX7_count 95 = .ok (.iconst 0, 1) := by decide +kernel
theorem dX7_count_96 : decode cX7_count 96 = .ok (.aaload, 1) := by decide +kernel
theorem dX7_count_97 : decode cX7_count 97 = .ok (.getfield 105, 3) := by decide +kernel
theorem dX7_count_100 : decode cX7_count 100 = .ok (.ireturn, 1) := by decide +kernel
theorem dX7_count_101 : decode cX7_count 101 = .ok (.aload_n 0, 1) := by decide +kernel
theorem dX7_count_102 : decode cX7_count 102 = .ok (.getfield 14, 3) := by decide +kernel
theorem dX7_count_105 : decode cX7_count 105 = .ok (.iconst 1, 1) := by decide +kernel
theorem dX7_count_106 : decode cX7_count 106 = .ok (.aaload, 1) := by decide +kernel
theorem dX7_count_107 : decode cX7_count 107 = .ok (.getfield 105, 3) := by decide +kernel
theorem dX7_count_110 : decode cX7_count 110 = .ok (.ireturn, 1) := by decide +kernel
theorem dX7_count_111 : decode cX7_count 111 = .ok (.aload_n 0, 1) := by decide +kernel
theorem dX7_count_112 : decode cX7_count 112 = .ok (.getfield 18, 3) := by decide +kernel
theorem dX7_count_115 : decode cX7_count 115 = .ok (.getfield 105, 3) := by decide +kernel
theorem dX7_count_118 : decode cX7_count 118 = .ok (.ireturn, 1) := by decide +kernel
theorem dX7_count_119 : decode cX7_count 119 = .ok (.aload_n 0, 1) := by decide +kernel
theorem dX7_count_120 : decode cX7_count 120 = .ok (.getfield 22, 3) := by decide +kernel
theorem dX7_count_123 : decode cX7_count 123 = .ok (.getfield 105, 3) := by decide +kernel
theorem dX7_count_126 : decode cX7_count 126 = .ok (.ireturn, 1) := by decide +kernel
theorem dX7_count_127 : decode cX7_count 127 = .ok (.aload_n 0, 1) := by decide +kernel
theorem dX7_count_128 : decode cX7_count 128 = .ok (.getfield 69, 3) := by decide +kernel
theorem dX7_count_131 : decode cX7_count 131 = .ok (.invokevirtual 232, 3) := by decide +kernel
theorem dX7_count_134 : decode cX7_count 134 = .ok (.ireturn, 1) := by decide +kernel
theorem dX7_count_135 : decode cX7_count 135 = .ok (.aload_n 0, 1) := by decide +kernel
theorem dX7_count_136 : decode cX7_count 136 = .ok (.getfield 25, 3) := by decide +kernel
theorem dX7_count_139 : decode cX7_count 139 = .ok (.getfield 105, 3) := by decide +kernel
theorem dX7_count_142 : decode cX7_count 142 = .ok (.ireturn, 1) := by decide +kernel
theorem dX7_count_143 : decode cX7_count 143 = .ok (.aload_n 0, 1) := by decide +kernel
theorem dX7_count_144 : decode cX7_count 144 = .ok (.getfield 283, 3) := by decide +kernel
theorem dX7_count_147 : decode cX7_count 147 = .ok (.ireturn, 1) := by decide +kernel
theorem dX7_count_148 : decode cX7_count 148 = .ok (.bipush (-2), 2) := by decide +kernel
theorem dX7_count_150 : decode cX7_count 150 = .ok (.ireturn, 1) := by decide +kernel
theorem dX7_digest_0 : decode cX7_digest 0 = .ok (.ldc2_w 304, 3) := by decide +kernel
theorem dX7_digest_3 : decode cX7_digest 3 = .ok (.lstore_n 1, 1) := by decide +kernel
theorem dX7_digest_4 : decode cX7_digest 4 = .ok (.iconst 0, 1) := by decide +kernel
theorem dX7_digest_5 : decode cX7_digest 5 = .ok (.istore_n 3, 1) := by decide +kernel
theorem dX7_digest_6 : decode cX7_digest 6 = .ok (.iload_n 3, 1) := by decide +kernel
theorem dX7_digest_7 : decode cX7_digest 7 = .ok (.bipush 7, 2) := by decide +kernel
theorem dX7_digest_9 : decode cX7_digest 9 = .ok (.if_icmp .gt 22, 3) := by decide +kernel
theorem dX7_digest_12 : decode cX7_digest 12 = .ok (.ldc2_w 306, 3) := by decide +kernel
theorem dX7_digest_15 : decode cX7_digest 15 = .ok (.lload_n 1, 1) := by decide +kernel
theorem dX7_digest_16 : decode cX7_digest 16 = .ok (.lmul, 1) := by decide +kernel
theorem dX7_digest_17 : decode cX7_digest 17 = .ok (.aload_n 0, 1) := by decide +kernel
theorem dX7_digest_18 : decode cX7_digest 18 = .ok (.iload_n 3, 1) := by decide +kernel
theorem dX7_digest_19 : decode cX7_digest 19 = .ok (.invokevirtual 308, 3) := by decide +kernel
theorem dX7_digest_22 : decode cX7_digest 22 = .ok (.i2l, 1) := by decide +kernel
theorem dX7_digest_23 : decode cX7_digest 23 = .ok (.ladd, 1) := by decide +kernel
theorem dX7_digest_24 : decode cX7_digest 24 = .ok (.lstore_n 1, 1) := by decide +kernel
theorem dX7_digest_25 : decode cX7_digest 25 = .ok (.iinc 3 1, 3) := by decide +kernel
theorem dX7_digest_28 : decode cX7_digest 28 = .ok (.goto (-22), 3) := by decide +kernel
theorem dX7_digest_31 : decode cX7_digest 31 = .ok (.ldc2_w 306, 3) := by decide +kernel
theorem dX7_digest_34 : decode cX7_digest 34 = .ok (.lload_n 1, 1) := by decide +kernel
theorem dX7_digest_35 : decode cX7_digest 35 = .ok (.lmul, 1) := by decide +kernel
theorem dX7_digest_36 : decode cX7_digest 36 = .ok (.aload_n 0, 1) := by decide +kernel
theorem dX7_digest_37 : decode cX7_digest 37 = .ok (.iconst 0, 1) := by decide +kernel
theorem dX7_digest_38 : decode cX7_digest 38 = .ok (.invokevirtual 311, 3) := by decide +kernel
theorem dX7_digest_41 : decode cX7_digest 41 = .ok (.i2l, 1) := by decide +kernel
theorem dX7_digest_42 : decode cX7_digest 42 = .ok (.ladd, 1) := by decide +kernel
theorem dX7_digest_43 : decode cX7_digest 43 = .ok (.lstore_n 1, 1) := by decide +kernel
theorem dX7_digest_44 : decode cX7_digest 44 = .ok (.ldc2_w 306, 3) := by decide +kernel
theorem dX7_digest_47 : decode cX7_digest 47 = .ok (.lload_n 1, 1) := by decide +kernel
theorem dX7_digest_48 : decode cX7_digest 48 = .ok (.lmul, 1) := by decide +kernel
theorem dX7_digest_49 : decode cX7_digest 49 = .ok (.aload_n 0, 1) := by decide +kernel
theorem dX7_digest_50 : decode cX7_digest 50 = .ok (.iconst 1, 1) := by decide +kernel
theorem dX7_digest_51 : decode cX7_digest 51 = .ok (.invokevirtual 311, 3) := by decide +kernel
theorem dX7_digest_54 : decode cX7_digest 54 = .ok (.i2l, 1) := by decide +kernel
theorem dX7_digest_55 : decode cX7_digest 55 = .ok (.ladd, 1) := by decide +kernel
theorem dX7_digest_56 : decode cX7_digest 56 = .ok (.lstore_n 1, 1) := by decide +kernel
theorem dX7_digest_57 : decode cX7_digest 57 = .ok (.iconst 0, 1) := by decide +kernel
theorem dX7_digest_58 : decode cX7_digest 58 = .ok (.istore_n 3, 1) := by decide +kernel
theorem dX7_digest_59 : decode cX7_digest 59 = .ok (.iload_n 3, 1) := by decide +kernel
theorem dX7_digest_60 : decode cX7_digest 60 = .ok (.bipush 40, 2) := by decide +kernel
theorem dX7_digest_62 : decode cX7_digest 62 = .ok (.if_icmp .ge 52, 3) := by decide +kernel
theorem dX7_digest_65 : decode cX7_digest 65 = .ok (.ldc2_w 306, 3) := by decide +kernel
theorem dX7_digest_68 : decode cX7_digest 68 = .ok (.lload_n 1, 1) := by decide +kernel
theorem dX7_digest_69 : decode cX7_digest 69 = .ok (.lmul, 1) := by decide +kernel
theorem dX7_digest_70 : decode cX7_digest 70 = .ok (.aload_n 0, 1) := by decide +kernel
theorem dX7_digest_71 : decode cX7_digest 71 = .ok (.iload_n 3, 1) := by decide +kernel
theorem dX7_digest_72 : decode cX7_digest 72 = .ok (.invokevirtual 314, 3) := by decide +kernel
theorem dX7_digest_75 : decode cX7_digest 75 = .ok (.i2l, 1) := by decide +kernel
theorem dX7_digest_76 : decode cX7_digest 76 = .ok (.ladd, 1) := by decide +kernel
theorem dX7_digest_77 : decode cX7_digest 77 = .ok (.lstore_n 1, 1) := by decide +kernel
theorem dX7_digest_78 : decode cX7_digest 78 = .ok (.iconst 0, 1) := by decide +kernel
theorem dX7_digest_79 : decode cX7_digest 79 = .ok (.istore 4, 2) := by decide +kernel
theorem dX7_digest_81 : decode cX7_digest 81 = .ok (.iload 4, 2) := by decide +kernel
theorem dX7_digest_83 : decode cX7_digest 83 = .ok (.iconst 4, 1) := by decide +kernel
theorem dX7_digest_84 : decode cX7_digest 84 = .ok (.if_icmp .gt 24, 3) := by decide +kernel
theorem dX7_digest_87 : decode cX7_digest 87 = .ok (.ldc2_w 306, 3) := by decide +kernel
theorem dX7_digest_90 : decode cX7_digest 90 = .ok (.lload_n 1, 1) := by decide +kernel
theorem dX7_digest_91 : decode cX7_digest 91 = .ok (.lmul, 1) := by decide +kernel
theorem dX7_digest_92 : decode cX7_digest 92 = .ok (.aload_n 0, 1) := by decide +kernel
theorem dX7_digest_93 : decode cX7_digest 93 = .ok (.iload_n 3, 1) := by decide +kernel
theorem dX7_digest_94 : decode cX7_digest 94 = .ok (.iload 4, 2) := by decide +kernel
theorem dX7_digest_96 : decode cX7_digest 96 = .ok (.invokevirtual 316, 3) := by decide +kernel
theorem dX7_digest_99 : decode cX7_digest 99 = .ok (.i2l, 1) := by decide +kernel
theorem dX7_digest_100 : decode cX7_digest 100 = .ok (.ladd, 1) := by decide +kernel
theorem dX7_digest_101 : decode cX7_digest 101 = .ok (.lstore_n 1, 1) := by decide +kernel
theorem dX7_digest_102 : decode cX7_digest 102 = .ok (.iinc 4 1, 3) := by decide +kernel
theorem dX7_digest_105 : decode cX7_digest 105 = .ok (.goto (-24), 3) := by decide +kernel
theorem dX7_digest_108 : decode cX7_digest 108 = .ok (.iinc 3 1, 3) := by decide +kernel
theorem dX7_digest_111 : decode cX7_digest 111 = .ok (.goto (-52), 3) := by decide +kernel
theorem dX7_digest_114 : decode cX7_digest 114 = .ok (.iconst 0, 1) := by decide +kernel
theorem dX7_digest_115 : decode cX7_digest 115 = .ok (.istore_n 3, 1) := by decide +kernel
theorem dX7_digest_116 : decode cX7_digest 116 = .ok (.iload_n 3, 1) := by decide +kernel
theorem dX7_digest_117 : decode cX7_digest 117 = .ok (.aload_n 0, 1) := by decide +kernel
theorem dX7_digest_118 : decode cX7_digest 118 = .ok (.getfield 41, 3) := by decide +kernel
theorem dX7_digest_121 : decode cX7_digest 121 = .ok (.getfield 205, 3) := by decide +kernel
theorem dX7_digest_124 : decode cX7_digest 124 = .ok (.if_icmp .ge 80, 3) := by decide +kernel
theorem dX7_digest_127 : decode cX7_digest 127 = .ok (.iconst 0, 1) := by decide +kernel
theorem dX7_digest_128 : decode cX7_digest 128 = .ok (.istore 4, 2) := by decide +kernel
theorem dX7_digest_130 : decode cX7_digest 130 = .ok (.iload 4, 2) := by decide +kernel
theorem dX7_digest_132 : decode cX7_digest 132 = .ok (.iconst 3, 1) := by decide +kernel
theorem dX7_digest_133 : decode cX7_digest 133 = .ok (.if_icmp .gt 24, 3) := by decide +kernel
theorem dX7_digest_136 : decode cX7_digest 136 = .ok (.ldc2_w 306, 3) := by decide +kernel
theorem dX7_digest_139 : decode cX7_digest 139 = .ok (.lload_n 1, 1) := by decide +kernel
theorem dX7_digest_140 : decode cX7_digest 140 = .ok (.lmul, 1) := by decide +kernel
theorem dX7_digest_141 : decode cX7_digest 141 = .ok (.aload_n 0, 1) := by decide +kernel
theorem dX7_digest_142 : decode cX7_digest 142 = .ok (.iload_n 3, 1) := by decide +kernel
theorem dX7_digest_143 : decode cX7_digest 143 = .ok (.iload 4, 2) := by decide +kernel
theorem dX7_digest_145 : decode cX7_digest 145 = .ok (.invokevirtual 319, 3) := by decide +kernel
theorem dX7_digest_148 : decode cX7_digest 148 = .ok (.i2l, 1) := by decide +kernel
theorem dX7_digest_149 : decode cX7_digest 149 = .ok (.ladd, 1) := by decide +kernel
theorem dX7_digest_150 : decode cX7_digest 150 = .ok (.lstore_n 1, 1) := by decide +kernel
theorem dX7_digest_151 : decode cX7_digest 151 = .ok (.iinc 4 1, 3) := by decide +kernel
theorem dX7_digest_154 : decode cX7_digest 154 = .ok (.goto (-24), 3) := by decide +kernel
theorem dX7_digest_157 : decode cX7_digest 157 = .ok (.ldc2_w 306, 3) := by decide +kernel
theorem dX7_digest_160 : decode cX7_digest 160 = .ok (.lload_n 1, 1) := by decide +kernel
theorem dX7_digest_161 : decode cX7_digest 161 = .ok (.lmul, 1) := by decide +kernel
theorem dX7_digest_162 : decode cX7_digest 162 = .ok (.aload_n 0, 1) := by decide +kernel
theorem dX7_digest_163 : decode cX7_digest 163 = .ok (.iload_n 3, 1) := by decide +kernel
theorem dX7_digest_164 : decode cX7_digest 164 = .ok (.invokevirtual 321, 3) := by decide +kernel
theorem dX7_digest_167 : decode cX7_digest 167 = .ok (.i2l, 1) := by decide +kernel
theorem dX7_digest_168 : decode cX7_digest 168 = .ok (.ladd, 1) := by decide +kernel
theorem dX7_digest_169 : decode cX7_digest 169 = .ok (.lstore_n 1, 1) := by decide +kernel
theorem dX7_digest_170 : decode cX7_digest 170 = .ok (.ldc2_w 306, 3) := by decide +kernel
theorem dX7_digest_173 : decode cX7_digest 173 = .ok (.lload_n 1, 1) := by decide +kernel
theorem dX7_digest_174 : decode cX7_digest 174 = .ok (.lmul, 1) := by decide +kernel
theorem dX7_digest_175 : decode cX7_digest 175 = .ok (.aload_n 0, 1) := by decide +kernel
theorem dX7_digest_176 : decode cX7_digest 176 = .ok (.iconst 5, 1) := by decide +kernel
theorem dX7_digest_177 : decode cX7_digest 177 = .ok (.iload_n 3, 1) := by decide +kernel
theorem dX7_digest_178 : decode cX7_digest 178 = .ok (.iconst 0, 1) := by decide +kernel
theorem dX7_digest_179 : decode cX7_digest 179 = .ok (.invokevirtual 323, 3) := by decide +kernel
theorem dX7_digest_182 : decode cX7_digest 182 = .ok (.ladd, 1) := by decide +kernel
theorem dX7_digest_183 : decode cX7_digest 183 = .ok (.lstore_n 1, 1) := by decide +kernel
theorem dX7_digest_184 : decode cX7_digest 184 = .ok (.ldc2_w 306, 3) := by decide +kernel
theorem dX7_digest_187 : decode cX7_digest 187 = .ok (.lload_n 1, 1) := by decide +kernel
theorem dX7_digest_188 : decode cX7_digest 188 = .ok (.lmul, 1) := by decide +kernel
theorem dX7_digest_189 : decode cX7_digest 189 = .ok (.aload_n 0, 1) := by decide +kernel
theorem dX7_digest_190 : decode cX7_digest 190 = .ok (.iconst 5, 1) := by decide +kernel
theorem dX7_digest_191 : decode cX7_digest 191 = .ok (.iload_n 3, 1) := by decide +kernel
theorem dX7_digest_192 : decode cX7_digest 192 = .ok (.iconst 1, 1) := by decide +kernel
theorem dX7_digest_193 : decode cX7_digest 193 = .ok (.invokevirtual 323, 3) := by decide +kernel
theorem dX7_digest_196 : decode cX7_digest 196 = .ok (.ladd, 1) := by decide +kernel
theorem dX7_digest_197 : decode cX7_digest 197 = .ok (.lstore_n 1, 1) := by decide +kernel
theorem dX7_digest_198 : decode cX7_digest 198 = .ok (.iinc 3 1, 3) := by decide +kernel
theorem dX7_digest_201 : decode cX7_digest 201 = .ok (.goto (-85), 3) := by decide +kernel
theorem dX7_digest_204 : decode cX7_digest 204 = .ok (.ldc2_w 306, 3) := by decide +kernel
theorem dX7_digest_207 : decode cX7_digest 207 = .ok (.lload_n 1, 1) := by decide +kernel
theorem dX7_digest_208 : decode cX7_digest 208 = .ok (.lmul, 1) := by decide +kernel
theorem dX7_digest_209 : decode cX7_digest 209 = .ok (.aload_n 0, 1) := by decide +kernel
theorem dX7_digest_210 : decode cX7_digest 210 = .ok (.invokevirtual 327, 3) := by decide +kernel
theorem dX7_digest_213 : decode cX7_digest 213 = .ok (.i2l, 1) := by decide +kernel
theorem dX7_digest_214 : decode cX7_digest 214 = .ok (.ladd, 1) := by decide +kernel
theorem dX7_digest_215 : decode cX7_digest 215 = .ok (.lstore_n 1, 1) := by decide +kernel
theorem dX7_digest_216 : decode cX7_digest 216 = .ok (.ldc2_w 306, 3) := by decide +kernel
theorem dX7_digest_219 : decode cX7_digest 219 = .ok (.lload_n 1, 1) := by decide +kernel
theorem dX7_digest_220 : decode cX7_digest 220 = .ok (.lmul, 1) := by decide +kernel
theorem dX7_digest_221 : decode cX7_digest 221 = .ok (.aload_n 0, 1) := by decide +kernel
theorem dX7_digest_222 : decode cX7_digest 222 = .ok (.invokevirtual 330, 3) := by decide +kernel
theorem dX7_digest_225 : decode cX7_digest 225 = .ok (.i2l, 1) := by decide +kernel
theorem dX7_digest_226 : decode cX7_digest 226 = .ok (.ladd, 1) := by decide +kernel
theorem dX7_digest_227 : decode cX7_digest 227 = .ok (.lstore_n 1, 1) := by decide +kernel
theorem dX7_digest_228 : decode cX7_digest 228 = .ok (.ldc2_w 306, 3) := by decide +kernel
theorem dX7_digest_231 : decode cX7_digest 231 = .ok (.lload_n 1, 1) := by decide +kernel
theorem dX7_digest_232 : decode cX7_digest 232 = .ok (.lmul, 1) := by decide +kernel
theorem dX7_digest_233 : decode cX7_digest 233 = .ok (.aload_n 0, 1) := by decide +kernel
theorem dX7_digest_234 : decode cX7_digest 234 = .ok (.invokevirtual 332, 3) := by decide +kernel
theorem dX7_digest_237 : decode cX7_digest 237 = .ok (.i2l, 1) := by decide +kernel
theorem dX7_digest_238 : decode cX7_digest 238 = .ok (.ladd, 1) := by decide +kernel
theorem dX7_digest_239 : decode cX7_digest 239 = .ok (.lstore_n 1, 1) := by decide +kernel
theorem dX7_digest_240 : decode cX7_digest 240 = .ok (.ldc2_w 306, 3) := by decide +kernel
theorem dX7_digest_243 : decode cX7_digest 243 = .ok (.lload_n 1, 1) := by decide +kernel
theorem dX7_digest_244 : decode cX7_digest 244 = .ok (.lmul, 1) := by decide +kernel
theorem dX7_digest_245 : decode cX7_digest 245 = .ok (.aload_n 0, 1) := by decide +kernel
theorem dX7_digest_246 : decode cX7_digest 246 = .ok (.invokevirtual 334, 3) := by decide +kernel
theorem dX7_digest_249 : decode cX7_digest 249 = .ok (.i2l, 1) := by decide +kernel
theorem dX7_digest_250 : decode cX7_digest 250 = .ok (.ladd, 1) := by decide +kernel
theorem dX7_digest_251 : decode cX7_digest 251 = .ok (.lstore_n 1, 1) := by decide +kernel
theorem dX7_digest_252 : decode cX7_digest 252 = .ok (.iconst 0, 1) := by decide +kernel
theorem dX7_digest_253 : decode cX7_digest 253 = .ok (.istore_n 3, 1) := by decide +kernel
theorem dX7_digest_254 : decode cX7_digest 254 = .ok (.iload_n 3, 1) := by decide +kernel
theorem dX7_digest_255 : decode cX7_digest 255 = .ok (.iconst 3, 1) := by decide +kernel
theorem dX7_digest_256 : decode cX7_digest 256 = .ok (.if_icmp .gt 22, 3) := by decide +kernel
theorem dX7_digest_259 : decode cX7_digest 259 = .ok (.ldc2_w 306, 3) := by decide +kernel
theorem dX7_digest_262 : decode cX7_digest 262 = .ok (.lload_n 1, 1) := by decide +kernel
theorem dX7_digest_263 : decode cX7_digest 263 = .ok (.lmul, 1) := by decide +kernel
theorem dX7_digest_264 : decode cX7_digest 264 = .ok (.aload_n 0, 1) := by decide +kernel
theorem dX7_digest_265 : decode cX7_digest 265 = .ok (.iload_n 3, 1) := by decide +kernel
theorem dX7_digest_266 : decode cX7_digest 266 = .ok (.invokevirtual 337, 3) := by decide +kernel
theorem dX7_digest_269 : decode cX7_digest 269 = .ok (.i2l, 1) := by decide +kernel
theorem dX7_digest_270 : decode cX7_digest 270 = .ok (.ladd, 1) := by decide +kernel
theorem dX7_digest_271 : decode cX7_digest 271 = .ok (.lstore_n 1, 1) := by decide +kernel
theorem dX7_digest_272 : decode cX7_digest 272 = .ok (.iinc 3 1, 3) := by decide +kernel
theorem dX7_digest_275 : decode cX7_digest 275 = .ok (.goto (-21), 3) := by decide +kernel
theorem dX7_digest_278 : decode cX7_digest 278 = .ok (.ldc2_w 306, 3) := by decide +kernel
theorem dX7_digest_281 : decode cX7_digest 281 = .ok (.lload_n 1, 1) := by decide +kernel
theorem dX7_digest_282 : decode cX7_digest 282 = .ok (.lmul, 1) := by decide +kernel
theorem dX7_digest_283 : decode cX7_digest 283 = .ok (.aload_n 0, 1) := by decide +kernel
theorem dX7_digest_284 : decode cX7_digest 284 = .ok (.iconst 0, 1) := by decide +kernel
theorem dX7_digest_285 : decode cX7_digest 285 = .ok (.invokevirtual 340, 3) := by decide +kernel
theorem dX7_digest_288 : decode cX7_digest 288 = .ok (.i2l, 1) := by decide +kernel
theorem dX7_digest_289 : decode cX7_digest 289 = .ok (.ladd, 1) := by decide +kernel
theorem dX7_digest_290 : decode cX7_digest 290 = .ok (.lstore_n 1, 1) := by decide +kernel
theorem dX7_digest_291 : decode cX7_digest 291 = .ok (.ldc2_w 306, 3) := by decide +kernel
theorem dX7_digest_294 : decode cX7_digest 294 = .ok (.lload_n 1, 1) := by decide +kernel
theorem dX7_digest_295 : decode cX7_digest 295 = .ok (.lmul, 1) := by decide +kernel
theorem dX7_digest_296 : decode cX7_digest 296 = .ok (.aload_n 0, 1) := by decide +kernel
theorem dX7_digest_297 : decode cX7_digest 297 = .ok (.iconst 1, 1) := by decide +kernel
theorem dX7_digest_298 : decode cX7_digest 298 = .ok (.invokevirtual 340, 3) := by decide +kernel
theorem dX7_digest_301 : decode cX7_digest 301 = .ok (.i2l, 1) := by decide +kernel
theorem dX7_digest_302 : decode cX7_digest 302 = .ok (.ladd, 1) := by decide +kernel
theorem dX7_digest_303 : decode cX7_digest 303 = .ok (.lstore_n 1, 1) := by decide +kernel
theorem dX7_digest_304 : decode cX7_digest 304 = .ok (.ldc2_w 306, 3) := by decide +kernel
theorem dX7_digest_307 : decode cX7_digest 307 = .ok (.lload_n 1, 1) := by decide +kernel
theorem dX7_digest_308 : decode cX7_digest 308 = .ok (.lmul, 1) := by decide +kernel
theorem dX7_digest_309 : decode cX7_digest 309 = .ok (.aload_n 0, 1) := by decide +kernel
theorem dX7_digest_310 : decode cX7_digest 310 = .ok (.invokevirtual 343, 3) := by decide +kernel
theorem dX7_digest_313 : decode cX7_digest 313 = .ok (.i2l, 1) := by decide +kernel
theorem dX7_digest_314 : decode cX7_digest 314 = .ok (.ladd, 1) := by decide +kernel
theorem dX7_digest_315 : decode cX7_digest 315 = .ok (.lstore_n 1, 1) := by decide +kernel
theorem dX7_digest_316 : decode cX7_digest 316 = .ok (.ldc2_w 306, 3) := by decide +kernel
theorem dX7_digest_319 : decode cX7_digest 319 = .ok (.lload_n 1, 1) := by decide +kernel
theorem dX7_digest_320 : decode cX7_digest 320 = .ok (.lmul, 1) := by decide +kernel
theorem dX7_digest_321 : decode cX7_digest 321 = .ok (.aload_n 0, 1) := by decide +kernel
theorem dX7_digest_322 : decode cX7_digest 322 = .ok (.iconst 0, 1) := by decide +kernel
theorem dX7_digest_323 : decode cX7_digest 323 = .ok (.invokevirtual 346, 3) := by decide +kernel
theorem dX7_digest_326 : decode cX7_digest 326 = .ok (.i2l, 1) := by decide +kernel
theorem dX7_digest_327 : decode cX7_digest 327 = .ok (.ladd, 1) := by decide +kernel
theorem dX7_digest_328 : decode cX7_digest 328 = .ok (.lstore_n 1, 1) := by decide +kernel
theorem dX7_digest_329 : decode cX7_digest 329 = .ok (.ldc2_w 306, 3) := by decide +kernel
theorem dX7_digest_332 : decode cX7_digest 332 = .ok (.lload_n 1, 1) := by decide +kernel
theorem dX7_digest_333 : decode cX7_digest 333 = .ok (.lmul, 1) := by decide +kernel
theorem dX7_digest_334 : decode cX7_digest 334 = .ok (.aload_n 0, 1) := by decide +kernel
theorem dX7_digest_335 : decode cX7_digest 335 = .ok (.iconst 1, 1) := by decide +kernel
theorem dX7_digest_336 : decode cX7_digest 336 = .ok (.invokevirtual 346, 3) := by decide +kernel
theorem dX7_digest_339 : decode cX7_digest 339 = .ok (.i2l, 1) := by decide +kernel
theorem dX7_digest_340 : decode cX7_digest 340 = .ok (.ladd, 1) := by decide +kernel
theorem dX7_digest_341 : decode cX7_digest 341 = .ok (.lstore_n 1, 1) := by decide +kernel
theorem dX7_digest_342 : decode cX7_digest 342 = .ok (.ldc2_w 306, 3) := by decide +kernel
theorem dX7_digest_345 : decode cX7_digest 345 = .ok (.lload_n 1, 1) := by decide +kernel
theorem dX7_digest_346 : decode cX7_digest 346 = .ok (.lmul, 1) := by decide +kernel
theorem dX7_digest_347 : decode cX7_digest 347 = .ok (.aload_n 0, 1) := by decide +kernel
theorem dX7_digest_348 : decode cX7_digest 348 = .ok (.invokevirtual 349, 3) := by decide +kernel
theorem dX7_digest_351 : decode cX7_digest 351 = .ok (.i2l, 1) := by decide +kernel
theorem dX7_digest_352 : decode cX7_digest 352 = .ok (.ladd, 1) := by decide +kernel
theorem dX7_digest_353 : decode cX7_digest 353 = .ok (.lstore_n 1, 1) := by decide +kernel
theorem dX7_digest_354 : decode cX7_digest 354 = .ok (.ldc2_w 306, 3) := by decide +kernel
theorem dX7_digest_357 : decode cX7_digest 357 = .ok (.lload_n 1, 1) := by decide +kernel
theorem dX7_digest_358 : decode cX7_digest 358 = .ok (.lmul, 1) := by decide +kernel
theorem dX7_digest_359 : decode cX7_digest 359 = .ok (.aload_n 0, 1) := by decide +kernel
theorem dX7_digest_360 : decode cX7_digest 360 = .ok (.iconst 0, 1) := by decide +kernel
theorem dX7_digest_361 : decode cX7_digest 361 = .ok (.invokevirtual 352, 3) := by decide +kernel
theorem dX7_digest_364 : decode cX7_digest 364 = .ok (.i2l, 1) := by decide +kernel
theorem dX7_digest_365 : decode cX7_digest 365 = .ok (.ladd, 1) := by decide +kernel
theorem dX7_digest_366 : decode cX7_digest 366 = .ok (.lstore_n 1, 1) := by decide +kernel
theorem dX7_digest_367 : decode cX7_digest 367 = .ok (.ldc2_w 306, 3) := by decide +kernel
theorem dX7_digest_370 : decode cX7_digest 370 = .ok (.lload_n 1, 1) := by decide +kernel
theorem dX7_digest_371 : decode cX7_digest 371 = .ok (.lmul, 1) := by decide +kernel
theorem dX7_digest_372 : decode cX7_digest 372 = .ok (.aload_n 0, 1) := by decide +kernel
theorem dX7_digest_373 : decode cX7_digest 373 = .ok (.iconst 1, 1) := by decide +kernel
theorem dX7_digest_374 : decode cX7_digest 374 = .ok (.invokevirtual 352, 3) := by decide +kernel
theorem dX7_digest_377 : decode cX7_digest 377 = .ok (.i2l, 1) := by decide +kernel
theorem dX7_digest_378 : decode cX7_digest 378 = .ok (.ladd, 1) := by decide +kernel
theorem dX7_digest_379 : decode cX7_digest 379 = .ok (.lstore_n 1, 1) := by decide +kernel
theorem dX7_digest_380 : decode cX7_digest 380 = .ok (.ldc2_w 306, 3) := by decide +kernel
theorem dX7_digest_383 : decode cX7_digest 383 = .ok (.lload_n 1, 1) := by decide +kernel
theorem dX7_digest_384 : decode cX7_digest 384 = .ok (.lmul, 1) := by decide +kernel
theorem dX7_digest_385 : decode cX7_digest 385 = .ok (.aload_n 0, 1) := by decide +kernel
theorem dX7_digest_386 : decode cX7_digest 386 = .ok (.invokevirtual 355, 3) := by decide +kernel
theorem dX7_digest_389 : decode cX7_digest 389 = .ok (.i2l, 1) := by decide +kernel
theorem dX7_digest_390 : decode cX7_digest 390 = .ok (.ladd, 1) := by decide +kernel
theorem dX7_digest_391 : decode cX7_digest 391 = .ok (.lstore_n 1, 1) := by decide +kernel
theorem dX7_digest_392 : decode cX7_digest 392 = .ok (.ldc2_w 306, 3) := by decide +kernel
theorem dX7_digest_395 : decode cX7_digest 395 = .ok (.lload_n 1, 1) := by decide +kernel
theorem dX7_digest_396 : decode cX7_digest 396 = .ok (.lmul, 1) := by decide +kernel
theorem dX7_digest_397 : decode cX7_digest 397 = .ok (.aload_n 0, 1) := by decide +kernel
theorem dX7_digest_398 : decode cX7_digest 398 = .ok (.bipush 7, 2) := by decide +kernel
theorem dX7_digest_400 : decode cX7_digest 400 = .ok (.bipush 30, 2) := by decide +kernel
theorem dX7_digest_402 : decode cX7_digest 402 = .ok (.iconst 0, 1) := by decide +kernel
theorem dX7_digest_403 : decode cX7_digest 403 = .ok (.invokevirtual 358, 3) := by decide +kernel
theorem dX7_digest_406 : decode cX7_digest 406 = .ok (.i2l, 1) := by decide +kernel
theorem dX7_digest_407 : decode cX7_digest 407 = .ok (.ladd, 1) := by decide +kernel
theorem dX7_digest_408 : decode cX7_digest 408 = .ok (.lstore_n 1, 1) := by decide +kernel
theorem dX7_digest_409 : decode cX7_digest 409 = .ok (.ldc2_w 306, 3) := by decide +kernel
theorem dX7_digest_412 : decode cX7_digest 412 = .ok (.lload_n 1, 1) := by decide +kernel
theorem dX7_digest_413 : decode cX7_digest 413 = .ok (.lmul, 1) := by decide +kernel
theorem dX7_digest_414 : decode cX7_digest 414 = .ok (.aload_n 0, 1) := by decide +kernel
theorem dX7_digest_415 : decode cX7_digest 415 = .ok (.bipush 7, 2) := by decide +kernel
theorem dX7_digest_417 : decode cX7_digest 417 = .ok (.bipush 30, 2) := by decide +kernel
theorem dX7_digest_419 : decode cX7_digest 419 = .ok (.iconst 1, 1) := by decide +kernel
theorem dX7_digest_420 : decode cX7_digest 420 = .ok (.invokevirtual 358, 3) := by decide +kernel
theorem dX7_digest_423 : decode cX7_digest 423 = .ok (.i2l, 1) := by decide +kernel
theorem dX7_digest_424 : decode cX7_digest 424 = .ok (.ladd, 1) := by decide +kernel
theorem dX7_digest_425 : decode cX7_digest 425 = .ok (.lreturn, 1) := by decide +kernel
theorem dX7_within_0 : decode cX7_within 0 = .ok (.iload_n 0, 1) := by decide +kernel
theorem dX7_within_1 : decode cX7_within 1 = .ok (.iload_n 1, 1) := by decide +kernel
theorem dX7_within_2 : decode cX7_within 2 = .ok (.if_icmp .lt 12, 3) := by decide +kernel
theorem dX7_within_5 : decode cX7_within 5 = .ok (.iload_n 0, 1) := by decide +kernel
theorem dX7_within_6 : decode cX7_within 6 = .ok (.iload_n 2, 1) := by decide +kernel
theorem dX7_within_7 : decode cX7_within 7 = .ok (.if_icmp .gt 7, 3) := by decide +kernel
theorem dX7_within_10 : decode cX7_within 10 = .ok (.iconst 1, 1) := by decide +kernel
theorem dX7_within_11 : decode cX7_within 11 = .ok (.goto 4, 3) := by decide +kernel
theorem dX7_within_14 : decode cX7_within 14 = .ok (.iconst 0, 1) := by decide +kernel
theorem dX7_within_15 : decode cX7_within 15 = .ok (.ireturn, 1) := by decide +kernel
theorem dX7_isHour_0 : decode cX7_isHour 0 = .ok (.iload_n 0, 1) := by decide +kernel
theorem dX7_isHour_1 : decode cX7_isHour 1 = .ok (.iconst 0, 1) := by decide +kernel
theorem dX7_isHour_2 : decode cX7_isHour 2 = .ok (.bipush 39, 2) := by decide +kernel
theorem dX7_isHour_4 : decode cX7_isHour 4 = .ok (.invokestatic 97, 3) := by decide +kernel
theorem dX7_isHour_7 : decode cX7_isHour 7 = .ok (.ireturn, 1) := by decide +kernel
theorem dX7_isSheet_0 : decode cX7_isSheet 0 = .ok (.iload_n 0, 1) := by decide +kernel
theorem dX7_isSheet_1 : decode cX7_isSheet 1 = .ok (.iconst 0, 1) := by decide +kernel
theorem dX7_isSheet_2 : decode cX7_isSheet 2 = .ok (.iconst 3, 1) := by decide +kernel
theorem dX7_isSheet_3 : decode cX7_isSheet 3 = .ok (.invokestatic 97, 3) := by decide +kernel
theorem dX7_isSheet_6 : decode cX7_isSheet 6 = .ok (.ireturn, 1) := by decide +kernel
theorem dX7_isForm_0 : decode cX7_isForm 0 = .ok (.iload_n 0, 1) := by decide +kernel
theorem dX7_isForm_1 : decode cX7_isForm 1 = .ok (.iconst 0, 1) := by decide +kernel
theorem dX7_isForm_2 : decode cX7_isForm 2 = .ok (.iconst 2, 1) := by decide +kernel
theorem dX7_isForm_3 : decode cX7_isForm 3 = .ok (.invokestatic 97, 3) := by decide +kernel
theorem dX7_isForm_6 : decode cX7_isForm 6 = .ok (.ireturn, 1) := by decide +kernel
theorem dX7_isOrder_0 : decode cX7_isOrder 0 = .ok (.aload_n 0, 1) := by decide +kernel
theorem dX7_isOrder_1 : decode cX7_isOrder 1 = .ok (.invokevirtual 125, 3) := by decide +kernel
theorem dX7_isOrder_4 : decode cX7_isOrder 4 = .ok (.iload_n 1, 1) := by decide +kernel
theorem dX7_isOrder_5 : decode cX7_isOrder 5 = .ok (.iconst 0, 1) := by decide +kernel
theorem dX7_isOrder_6 : decode cX7_isOrder 6 = .ok (.aload_n 0, 1) := by decide +kernel
theorem dX7_isOrder_7 : decode cX7_isOrder 7 = .ok (.getfield 41, 3) := by decide +kernel
theorem dX7_isOrder_10 : decode cX7_isOrder 10 = .ok (.getfield 205, 3) := by decide +kernel
theorem dX7_isOrder_13 : decode cX7_isOrder 13 = .ok (.iconst 1, 1) := by decide +kernel
theorem dX7_isOrder_14 : decode cX7_isOrder 14 = .ok (.isub, 1) := by decide +kernel
theorem dX7_isOrder_15 : decode cX7_isOrder 15 = .ok (.invokestatic 97, 3) := by decide +kernel
theorem dX7_isOrder_18 : decode cX7_isOrder 18 = .ok (.ireturn, 1) := by decide +kernel
theorem dX7_found_0 : decode cX7_found 0 = .ok (.aload_n 0, 1) := by decide +kernel
theorem dX7_found_1 : decode cX7_found 1 = .ok (.iload_n 1, 1) := by decide +kernel
theorem dX7_found_2 : decode cX7_found 2 = .ok (.putfield 283, 3) := by decide +kernel
theorem dX7_found_5 : decode cX7_found 5 = .ok (.bipush (-10), 2) := by decide +kernel
theorem dX7_found_7 : decode cX7_found 7 = .ok (.iload_n 1, 1) := by decide +kernel
theorem dX7_found_8 : decode cX7_found 8 = .ok (.isub, 1) := by decide +kernel
theorem dX7_found_9 : decode cX7_found 9 = .ok (.ireturn, 1) := by decide +kernel
theorem dX7_more_0 : decode cX7_more 0 = .ok (.aload_n 1, 1) := by decide +kernel
theorem dX7_more_1 : decode cX7_more 1 = .ok (.invokevirtual 167, 3) := by decide +kernel
theorem dX7_more_4 : decode cX7_more 4 = .ok (.ifCond .eq 6, 3) := by decide +kernel
theorem dX7_more_7 : decode cX7_more 7 = .ok (.bipush (-4), 2) := by decide +kernel
theorem dX7_more_9 : decode cX7_more 9 = .ok (.ireturn, 1) := by decide +kernel
theorem dX7_more_10 : decode cX7_more 10 = .ok (.aload_n 1, 1) := by decide +kernel
theorem dX7_more_11 : decode cX7_more 11 = .ok (.iload_n 2, 1) := by decide +kernel
theorem dX7_more_12 : decode cX7_more 12 = .ok (.invokevirtual 170, 3) := by decide +kernel
theorem dX7_more_15 : decode cX7_more 15 = .ok (.aload_n 0, 1) := by decide +kernel
theorem dX7_more_16 : decode cX7_more 16 = .ok (.invokevirtual 108, 3) := by decide +kernel
theorem dX7_more_19 : decode cX7_more 19 = .ok (.aload_n 1, 1) := by decide +kernel
theorem dX7_more_20 : decode cX7_more 20 = .ok (.getfield 105, 3) := by decide +kernel
theorem dX7_more_23 : decode cX7_more 23 = .ok (.ireturn, 1) := by decide +kernel
theorem dX7_less_0 : decode cX7_less 0 = .ok (.aload_n 1, 1) := by decide +kernel
theorem dX7_less_1 : decode cX7_less 1 = .ok (.getfield 105, 3) := by decide +kernel
theorem dX7_less_4 : decode cX7_less 4 = .ok (.ifCond .ne 6, 3) := by decide +kernel
theorem dX7_less_7 : decode cX7_less 7 = .ok (.bipush (-3), 2) := by decide +kernel
theorem dX7_less_9 : decode cX7_less 9 = .ok (.ireturn, 1) := by decide +kernel
theorem dX7_less_10 : decode cX7_less 10 = .ok (.aload_n 1, 1) := by decide +kernel
theorem dX7_less_11 : decode cX7_less 11 = .ok (.dup, 1) := by decide +kernel
theorem dX7_less_12 : decode cX7_less 12 = .ok (.getfield 105, 3) := by decide +kernel
theorem dX7_less_15 : decode cX7_less 15 = .ok (.iconst 1, 1) := by decide +kernel
theorem dX7_less_16 : decode cX7_less 16 = .ok (.isub, 1) := by decide +kernel
theorem dX7_less_17 : decode cX7_less 17 = .ok (.putfield 105, 3) := by decide +kernel
theorem dX7_less_20 : decode cX7_less 20 = .ok (.aload_n 0, 1) := by decide +kernel
theorem dX7_less_21 : decode cX7_less 21 = .ok (.invokevirtual 108, 3) := by decide +kernel
theorem dX7_less_24 : decode cX7_less 24 = .ok (.aload_n 1, 1) := by decide +kernel
theorem dX7_less_25 : decode cX7_less 25 = .ok (.getfield 105, 3) := by decide +kernel
theorem dX7_less_28 : decode cX7_less 28 = .ok (.ireturn, 1) := by decide +kernel
theorem dX7_changed_0 : decode cX7_changed 0 = .ok (.aload_n 0, 1) := by decide +kernel
theorem dX7_changed_1 : decode cX7_changed 1 = .ok (.iconst 0, 1) := by decide +kernel
theorem dX7_changed_2 : decode cX7_changed 2 = .ok (.putfield 362, 3) := by decide +kernel
theorem dX7_changed_5 : decode cX7_changed 5 = .ok (.aload_n 0, 1) := by decide +kernel
theorem dX7_changed_6 : decode cX7_changed 6 = .ok (.iconst 0, 1) := by decide +kernel
theorem dX7_changed_7 : decode cX7_changed 7 = .ok (.putfield 210, 3) := by decide +kernel
theorem dX7_changed_10 : decode cX7_changed 10 = .ok (.aload_n 0, 1) := by decide +kernel
theorem dX7_changed_11 : decode cX7_changed 11 = .ok (.iconst (-1), 1) := by decide +kernel
theorem dX7_changed_12 : decode cX7_changed 12 = .ok (.putfield 93, 3) := by decide +kernel
theorem dX7_changed_15 : decode cX7_changed 15 = .ok (.return_, 1) := by decide +kernel
theorem dX7_settle_0 : decode cX7_settle 0 = .ok (.aload_n 0, 1) := by decide +kernel
theorem dX7_settle_1 : decode cX7_settle 1 = .ok (.getfield 362, 3) := by decide +kernel
theorem dX7_settle_4 : decode cX7_settle 4 = .ok (.ifCond .eq 4, 3) := by decide +kernel
theorem dX7_settle_7 : decode cX7_settle 7 = .ok (.return_, 1) := by decide +kernel
theorem dX7_settle_8 : decode cX7_settle 8 = .ok (.aload_n 0, 1) := by decide +kernel
theorem dX7_settle_9 : decode cX7_settle 9 = .ok (.getfield 41, 3) := by decide +kernel
theorem dX7_settle_12 : decode cX7_settle 12 = .ok (.aload_n 0, 1) := by decide +kernel
theorem dX7_settle_13 : decode cX7_settle 13 = .ok (.getfield 14, 3) := by decide +kernel
theorem dX7_settle_16 : decode cX7_settle 16 = .ok (.iconst 1, 1) := by decide +kernel
theorem dX7_settle_17 : decode cX7_settle 17 = .ok (.aaload, 1) := by decide +kernel
theorem dX7_settle_18 : decode cX7_settle 18 = .ok (.invokevirtual 365, 3) := by decide +kernel
theorem dX7_settle_21 : decode cX7_settle 21 = .ok (.aload_n 0, 1) := by decide +kernel
theorem dX7_settle_22 : decode cX7_settle 22 = .ok (.getfield 62, 3) := by decide +kernel
theorem dX7_settle_25 : decode cX7_settle 25 = .ok (.aload_n 0, 1) := by decide +kernel
theorem dX7_settle_26 : decode cX7_settle 26 = .ok (.getfield 14, 3) := by decide +kernel
theorem dX7_settle_29 : decode cX7_settle 29 = .ok (.iconst 0, 1) := by decide +kernel
theorem dX7_settle_30 : decode cX7_settle 30 = .ok (.aaload, 1) := by decide +kernel
theorem dX7_settle_31 : decode cX7_settle 31 = .ok (.aload_n 0, 1) := by decide +kernel
theorem dX7_settle_32 : decode cX7_settle 32 = .ok (.getfield 54, 3) := by decide +kernel
theorem dX7_settle_35 : decode cX7_settle 35 = .ok (.invokevirtual 369, 3) := by decide +kernel
theorem dX7_settle_38 : decode cX7_settle 38 = .ok (.aload_n 0, 1) := by decide +kernel
theorem dX7_settle_39 : decode cX7_settle 39 = .ok (.getfield 18, 3) := by decide +kernel
theorem dX7_settle_42 : decode cX7_settle 42 = .ok (.aload_n 0, 1) := by decide +kernel
theorem dX7_settle_43 : decode cX7_settle 43 = .ok (.getfield 62, 3) := by decide +kernel
theorem dX7_settle_46 : decode cX7_settle 46 = .ok (.getfield 244, 3) := by decide +kernel
theorem dX7_settle_49 : decode cX7_settle 49 = .ok (.invokestatic 373, 3) := by decide +kernel
theorem dX7_settle_52 : decode cX7_settle 52 = .ok (.aload_n 0, 1) := by decide +kernel
theorem dX7_settle_53 : decode cX7_settle 53 = .ok (.getfield 22, 3) := by decide +kernel
theorem dX7_settle_56 : decode cX7_settle 56 = .ok (.aload_n 0, 1) := by decide +kernel
theorem dX7_settle_57 : decode cX7_settle 57 = .ok (.getfield 62, 3) := by decide +kernel
theorem dX7_settle_60 : decode cX7_settle 60 = .ok (.getfield 227, 3) := by decide +kernel
theorem dX7_settle_63 : decode cX7_settle 63 = .ok (.invokestatic 373, 3) := by decide +kernel
theorem dX7_settle_66 : decode cX7_settle 66 = .ok (.aload_n 0, 1) := by decide +kernel
theorem dX7_settle_67 : decode cX7_settle 67 = .ok (.getfield 69, 3) := by decide +kernel
theorem dX7_settle_70 : decode cX7_settle 70 = .ok (.aload_n 0, 1) := by decide +kernel
theorem dX7_settle_71 : decode cX7_settle 71 = .ok (.getfield 62, 3) := by decide +kernel
theorem dX7_settle_74 : decode cX7_settle 74 = .ok (.invokevirtual 229, 3) := by decide +kernel
theorem dX7_settle_77 : decode cX7_settle 77 = .ok (.aload_n 0, 1) := by decide +kernel
theorem dX7_settle_78 : decode cX7_settle 78 = .ok (.iconst 1, 1) := by decide +kernel
theorem dX7_settle_79 : decode cX7_settle 79 = .ok (.putfield 362, 3) := by decide +kernel
theorem dX7_settle_82 : decode cX7_settle 82 = .ok (.return_, 1) := by decide +kernel
theorem dX7_countHours_0 : decode cX7_countHours 0 = .ok (.aload_n 1, 1) := by decide +kernel
theorem dX7_countHours_1 : decode cX7_countHours 1 = .ok (.iconst 0, 1) := by decide +kernel
theorem dX7_countHours_2 : decode cX7_countHours 2 = .ok (.invokestatic 376, 3) := by decide +kernel
theorem dX7_countHours_5 : decode cX7_countHours 5 = .ok (.iconst 0, 1) := by decide +kernel
theorem dX7_countHours_6 : decode cX7_countHours 6 = .ok (.istore_n 2, 1) := by decide +kernel
theorem dX7_countHours_7 : decode cX7_countHours 7 = .ok (.iload_n 2, 1) := by decide +kernel
theorem dX7_countHours_8 : decode cX7_countHours 8 = .ok (.aload_n 0, 1) := by decide +kernel
theorem dX7_countHours_9 : decode cX7_countHours 9 = .ok (.getfield 105, 3) := by decide +kernel
theorem dX7_countHours_12 : decode cX7_countHours 12 = .ok (.if_icmp .ge 21, 3) := by decide +kernel
theorem dX7_countHours_15 : decode cX7_countHours 15 = .ok (.aload_n 1, 1) := by decide +kernel
theorem dX7_countHours_16 : decode cX7_countHours 16 = .ok (.aload_n 0, 1) := by decide +kernel
theorem dX7_countHours_17 : decode cX7_countHours 17 = .ok (.getfield 246, 3) := by decide +kernel
theorem dX7_countHours_20 : decode cX7_countHours 20 = .ok (.iload_n 2, 1) := by decide +kernel
theorem dX7_countHours_21 : decode cX7_countHours 21 = .ok (.iaload, 1) := by decide +kernel
theorem dX7_countHours_22 : decode cX7_countHours 22 = .ok (.dup2, 1) := by decide +kernel
theorem dX7_countHours_23 : decode cX7_countHours 23 = .ok (.iaload, 1) := by decide +kernel
theorem dX7_countHours_24 : decode cX7_countHours 24 = .ok (.iconst 1, 1) := by decide +kernel
theorem dX7_countHours_25 : decode cX7_countHours 25 = .ok (.iadd, 1) := by decide +kernel
theorem dX7_countHours_26 : decode cX7_countHours 26 = .ok (.iastore, 1) := by decide +kernel
theorem dX7_countHours_27 : decode cX7_countHours 27 = .ok (.iinc 2 1, 3) := by decide +kernel
theorem dX7_countHours_30 : decode cX7_countHours 30 = .ok (.goto (-23), 3) := by decide +kernel
theorem dX7_countHours_33 : decode cX7_countHours 33 = .ok (.return_, 1) := by decide +kernel
theorem dX7_comesOutSo_0 : decode cX7_comesOutSo 0 = .ok (.aload_n 0, 1) := by decide +kernel
theorem dX7_comesOutSo_1 : decode cX7_comesOutSo 1 = .ok (.getfield 76, 3) := by decide +kernel
theorem dX7_comesOutSo_4 : decode cX7_comesOutSo 4 = .ok (.aload_n 0, 1) := by decide +kernel
theorem dX7_comesOutSo_5 : decode cX7_comesOutSo 5 = .ok (.getfield 73, 3) := by decide +kernel
theorem dX7_comesOutSo_8 : decode cX7_comesOutSo 8 = .ok (.invokevirtual 229, 3) := by decide +kernel
theorem dX7_comesOutSo_11 : decode cX7_comesOutSo 11 = .ok (.iconst 0, 1) := by decide +kernel
theorem dX7_comesOutSo_12 : decode cX7_comesOutSo 12 = .ok (.istore_n 1, 1) := by decide +kernel
theorem dX7_comesOutSo_13 : decode cX7_comesOutSo 13 = .ok (.iload_n 1, 1) := by decide +kernel
theorem dX7_comesOutSo_14 : decode cX7_comesOutSo 14 = .ok (.aload_n 0, 1) := by decide +kernel
theorem dX7_comesOutSo_15 : decode cX7_comesOutSo 15 = .ok (.getfield 25, 3) := by decide +kernel
theorem dX7_comesOutSo_18 : decode cX7_comesOutSo 18 = .ok (.getfield 105, 3) := by decide +kernel
theorem dX7_comesOutSo_21 : decode cX7_comesOutSo 21 = .ok (.if_icmp .ge 40, 3) := by decide +kernel
theorem dX7_comesOutSo_24 : decode cX7_comesOutSo 24 = .ok (.aload_n 0, 1) := by decide +kernel
theorem dX7_comesOutSo_25 : decode cX7_comesOutSo 25 = .ok (.getfield 76, 3) := by decide +kernel
theorem dX7_comesOutSo_28 : decode cX7_comesOutSo 28 = .ok (.getfield 173, 3) := by decide +kernel
theorem dX7_comesOutSo_31 : decode cX7_comesOutSo 31 = .ok (.aload_n 0, 1) := by decide +kernel
theorem dX7_comesOutSo_32 : decode cX7_comesOutSo 32 = .ok (.getfield 25, 3) := by decide +kernel
theorem dX7_comesOutSo_35 : decode cX7_comesOutSo 35 = .ok (.getfield 246, 3) := by decide +kernel
theorem dX7_comesOutSo_38 : decode cX7_comesOutSo 38 = .ok (.iload_n 1, 1) := by decide +kernel
theorem dX7_comesOutSo_39 : decode cX7_comesOutSo 39 = .ok (.iaload, 1) := by decide +kernel
theorem dX7_comesOutSo_40 : decode cX7_comesOutSo 40 = .ok (.iaload, 1) := by decide +kernel
theorem dX7_comesOutSo_41 : decode cX7_comesOutSo 41 = .ok (.aload_n 0, 1) := by decide +kernel
theorem dX7_comesOutSo_42 : decode cX7_comesOutSo 42 = .ok (.getfield 28, 3) := by decide +kernel
theorem dX7_comesOutSo_45 : decode cX7_comesOutSo 45 = .ok (.getfield 246, 3) := by decide +kernel
theorem dX7_comesOutSo_48 : decode cX7_comesOutSo 48 = .ok (.iload_n 1, 1) := by decide +kernel
theorem dX7_comesOutSo_49 : decode cX7_comesOutSo 49 = .ok (.iaload, 1) := by decide +kernel
theorem dX7_comesOutSo_50 : decode cX7_comesOutSo 50 = .ok (.if_icmp .eq 5, 3) := by decide +kernel
theorem dX7_comesOutSo_53 : decode cX7_comesOutSo 53 = .ok (.iconst 0, 1) := by decide +kernel
theorem dX7_comesOutSo_54 : decode cX7_comesOutSo 54 = .ok (.ireturn, 1) := by decide +kernel
theorem dX7_comesOutSo_55 : decode cX7_comesOutSo 55 = .ok (.iinc 1 1, 3) := by decide +kernel
theorem dX7_comesOutSo_58 : decode cX7_comesOutSo 58 = .ok (.goto (-45), 3) := by decide +kernel
theorem dX7_comesOutSo_61 : decode cX7_comesOutSo 61 = .ok (.iconst 1, 1) := by decide +kernel
theorem dX7_comesOutSo_62 : decode cX7_comesOutSo 62 = .ok (.ireturn, 1) := by decide +kernel
theorem dX7_countCrowd_0 : decode cX7_countCrowd 0 = .ok (.aload_n 0, 1) := by decide +kernel
theorem dX7_countCrowd_1 : decode cX7_countCrowd 1 = .ok (.getfield 90, 3) := by decide +kernel
theorem dX7_countCrowd_4 : decode cX7_countCrowd 4 = .ok (.iconst 0, 1) := by decide +kernel
theorem dX7_countCrowd_5 : decode cX7_countCrowd 5 = .ok (.invokestatic 376, 3) := by decide +kernel
theorem dX7_countCrowd_8 : decode cX7_countCrowd 8 = .ok (.aload_n 0, 1) := by decide +kernel
theorem dX7_countCrowd_9 : decode cX7_countCrowd 9 = .ok (.getfield 73, 3) := by decide +kernel
theorem dX7_countCrowd_12 : decode cX7_countCrowd 12 = .ok (.aload_n 0, 1) := by decide +kernel
theorem dX7_countCrowd_13 : decode cX7_countCrowd 13 = .ok (.getfield 62, 3) := by decide +kernel
theorem dX7_countCrowd_16 : decode cX7_countCrowd 16 = .ok (.invokevirtual 224, 3) := by decide +kernel
theorem dX7_countCrowd_19 : decode cX7_countCrowd 19 = .ok (.iconst 0, 1) := by decide +kernel
theorem dX7_countCrowd_20 : decode cX7_countCrowd 20 = .ok (.istore_n 1, 1) := by decide +kernel
theorem dX7_countCrowd_21 : decode cX7_countCrowd 21 = .ok (.iload_n 1, 1) := by decide +kernel
theorem dX7_countCrowd_22 : decode cX7_countCrowd 22 = .ok (.bipush 20, 2) := by decide +kernel
theorem dX7_countCrowd_24 : decode cX7_countCrowd 24 = .ok (.if_icmp .gt 63, 3) := by decide +kernel
theorem dX7_countCrowd_27 : decode cX7_countCrowd 27 = .ok (.aload_n 0, 1) := by decide +kernel
theorem dX7_countCrowd_28 : decode cX7_countCrowd 28 = .ok (.getfield 73, 3) := by decide +kernel
theorem dX7_countCrowd_31 : decode cX7_countCrowd 31 = .ok (.getfield 236, 3) := by decide +kernel
theorem dX7_countCrowd_34 : decode cX7_countCrowd 34 = .ok (.iconst 0, 1) := by decide +kernel
theorem dX7_countCrowd_35 : decode cX7_countCrowd 35 = .ok (.iload_n 1, 1) := by decide +kernel
theorem dX7_countCrowd_36 : decode cX7_countCrowd 36 = .ok (.iastore, 1) := by decide +kernel
theorem dX7_countCrowd_37 : decode cX7_countCrowd 37 = .ok (.aload_n 0, 1) := by decide +kernel
theorem dX7_countCrowd_38 : decode cX7_countCrowd 38 = .ok (.invokevirtual 247, 3) := by decide +kernel
theorem dX7_countCrowd_41 : decode cX7_countCrowd 41 = .ok (.ifCond .eq 40, 3) := by decide +kernel
theorem dX7_countCrowd_44 : decode cX7_countCrowd 44 = .ok (.iconst 0, 1) := by decide +kernel
theorem dX7_countCrowd_45 : decode cX7_countCrowd 45 = .ok (.istore_n 2, 1) := by decide +kernel
theorem dX7_countCrowd_46 : decode cX7_countCrowd 46 = .ok (.iload_n 2, 1) := by decide +kernel
theorem dX7_countCrowd_47 : decode cX7_countCrowd 47 = .ok (.bipush 40, 2) := by decide +kernel
theorem dX7_countCrowd_49 : decode cX7_countCrowd 49 = .ok (.if_icmp .ge 32, 3) := by decide +kernel
theorem dX7_countCrowd_52 : decode cX7_countCrowd 52 = .ok (.aload_n 0, 1) := by decide +kernel
theorem dX7_countCrowd_53 : decode cX7_countCrowd 53 = .ok (.getfield 90, 3) := by decide +kernel
theorem dX7_countCrowd_56 : decode cX7_countCrowd 56 = .ok (.iload_n 2, 1) := by decide +kernel
theorem dX7_countCrowd_57 : decode cX7_countCrowd 57 = .ok (.bipush 21, 2) := by decide +kernel
theorem dX7_countCrowd_59 : decode cX7_countCrowd 59 = .ok (.imul, 1) := by decide +kernel
theorem dX7_countCrowd_60 : decode cX7_countCrowd 60 = .ok (.aload_n 0, 1) := by decide +kernel
theorem dX7_countCrowd_61 : decode cX7_countCrowd 61 = .ok (.getfield 76, 3) := by decide +kernel
theorem dX7_countCrowd_64 : decode cX7_countCrowd 64 = .ok (.getfield 173, 3) := by decide +kernel
theorem dX7_countCrowd_67 : decode cX7_countCrowd 67 = .ok (.iload_n 2, 1) := by decide +kernel
theorem dX7_countCrowd_68 : decode cX7_countCrowd 68 = .ok (.iaload, 1) := by decide +kernel
theorem dX7_countCrowd_69 : decode cX7_countCrowd 69 = .ok (.iadd, 1) := by decide +kernel
theorem dX7_countCrowd_70 : decode cX7_countCrowd 70 = .ok (.dup2, 1) := by decide +kernel
theorem dX7_countCrowd_71 : decode cX7_countCrowd 71 = .ok (.iaload, 1) := by decide +kernel
theorem dX7_countCrowd_72 : decode cX7_countCrowd 72 = .ok (.iconst 1, 1) := by decide +kernel
theorem dX7_countCrowd_73 : decode cX7_countCrowd 73 = .ok (.iadd, 1) := by decide +kernel
theorem dX7_countCrowd_74 : decode cX7_countCrowd 74 = .ok (.iastore, 1) := by decide +kernel
theorem dX7_countCrowd_75 : decode cX7_countCrowd 75 = .ok (.iinc 2 1, 3) := by decide +kernel
theorem dX7_countCrowd_78 : decode cX7_countCrowd 78 = .ok (.goto (-32), 3) := by decide +kernel
theorem dX7_countCrowd_81 : decode cX7_countCrowd 81 = .ok (.iinc 1 1, 3) := by decide +kernel
theorem dX7_countCrowd_84 : decode cX7_countCrowd 84 = .ok (.goto (-63), 3) := by decide +kernel
theorem dX7_countCrowd_87 : decode cX7_countCrowd 87 = .ok (.return_, 1) := by decide +kernel
theorem dX7_greatestCrowd_0 : decode cX7_greatestCrowd 0 = .ok (.iconst 0, 1) := by decide +kernel
theorem dX7_greatestCrowd_1 : decode cX7_greatestCrowd 1 = .ok (.istore_n 2, 1) := by decide +kernel
theorem dX7_greatestCrowd_2 : decode cX7_greatestCrowd 2 = .ok (.iconst 0, 1) := by decide +kernel
theorem dX7_greatestCrowd_3 : decode cX7_greatestCrowd 3 = .ok (.istore_n 3, 1) := by decide +kernel
theorem dX7_greatestCrowd_4 : decode cX7_greatestCrowd 4 = .ok (.iload_n 3, 1) := by decide +kernel
theorem dX7_greatestCrowd_5 : decode cX7_greatestCrowd 5 = .ok (.bipush 20, 2) := by decide +kernel
theorem dX7_greatestCrowd_7 : decode cX7_greatestCrowd 7 = .ok (.if_icmp .gt 25, 3) := by decide +kernel
theorem dX7_greatestCrowd_10 : decode cX7_greatestCrowd 10 = .ok (.iload_n 2, 1) := by decide +kernel
theorem dX7_greatestCrowd_11 : decode cX7_greatestCrowd 11 = .ok (.aload_n 0, 1) := by decide +kernel
theorem dX7_greatestCrowd_12 : decode cX7_greatestCrowd 12 = .ok (.getfield 90, 3) := by decide +kernel
theorem dX7_greatestCrowd_15 : decode cX7_greatestCrowd 15 = .ok (.iload_n 1, 1) := by decide +kernel
theorem dX7_greatestCrowd_16 : decode cX7_greatestCrowd 16 = .ok (.bipush 21, 2) := by decide +kernel
theorem dX7_greatestCrowd_18 : decode cX7_greatestCrowd 18 = .ok (.imul, 1) := by decide +kernel
theorem dX7_greatestCrowd_19 : decode cX7_greatestCrowd 19 = .ok (.iload_n 3, 1) := by decide +kernel
theorem dX7_greatestCrowd_20 : decode cX7_greatestCrowd 20 = .ok (.iadd, 1) := by decide +kernel
theorem dX7_greatestCrowd_21 : decode cX7_greatestCrowd 21 = .ok (.iaload, 1) := by decide +kernel
theorem dX7_greatestCrowd_22 : decode cX7_greatestCrowd 22 = .ok (.invokestatic 382, 3) := by decide +kernel
theorem dX7_greatestCrowd_25 : decode cX7_greatestCrowd 25 = .ok (.istore_n 2, 1) := by decide +kernel
theorem dX7_greatestCrowd_26 : decode cX7_greatestCrowd 26 = .ok (.iinc 3 1, 3) := by decide +kernel
theorem dX7_greatestCrowd_29 : decode cX7_greatestCrowd 29 = .ok (.goto (-25), 3) := by decide +kernel
theorem dX7_greatestCrowd_32 : decode cX7_greatestCrowd 32 = .ok (.iload_n 2, 1) := by decide +kernel
theorem dX7_greatestCrowd_33 : decode cX7_greatestCrowd 33 = .ok (.ireturn, 1) := by decide +kernel
theorem dX7_weighShowers_0 : decode cX7_weighShowers 0 = .ok (.aload_n 0, 1) := by decide +kernel
theorem dX7_weighShowers_1 : decode cX7_weighShowers 1 = .ok (.getfield 86, 3) := by decide +kernel
theorem dX7_weighShowers_4 : decode cX7_weighShowers 4 = .ok (.lconst 0, 1) := by decide +kernel
theorem dX7_weighShowers_5 : decode cX7_weighShowers 5 = .ok (.invokestatic 385, 3) := by decide +kernel
theorem dX7_weighShowers_8 : decode cX7_weighShowers 8 = .ok (.aload_n 0, 1) := by decide +kernel
theorem dX7_weighShowers_9 : decode cX7_weighShowers 9 = .ok (.getfield 73, 3) := by decide +kernel
theorem dX7_weighShowers_12 : decode cX7_weighShowers 12 = .ok (.aload_n 0, 1) := by decide +kernel
theorem dX7_weighShowers_13 : decode cX7_weighShowers 13 = .ok (.getfield 62, 3) := by decide +kernel
theorem dX7_weighShowers_16 : decode cX7_weighShowers 16 = .ok (.invokevirtual 224, 3) := by decide +kernel
theorem dX7_weighShowers_19 : decode cX7_weighShowers 19 = .ok (.iconst 0, 1) := by decide +kernel
theorem dX7_weighShowers_20 : decode cX7_weighShowers 20 = .ok (.istore_n 2, 1) := by decide +kernel
theorem dX7_weighShowers_21 : decode cX7_weighShowers 21 = .ok (.iload_n 2, 1) := by decide +kernel
theorem dX7_weighShowers_22 : decode cX7_weighShowers 22 = .ok (.iconst 1, 1) := by decide +kernel
theorem dX7_weighShowers_23 : decode cX7_weighShowers 23 = .ok (.aload_n 0, 1) := by decide +kernel
theorem dX7_weighShowers_24 : decode cX7_weighShowers 24 = .ok (.getfield 18, 3) := by decide +kernel
theorem dX7_weighShowers_27 : decode cX7_weighShowers 27 = .ok (.getfield 105, 3) := by decide +kernel
theorem dX7_weighShowers_30 : decode cX7_weighShowers 30 = .ok (.ishl, 1) := by decide +kernel
theorem dX7_weighShowers_31 : decode cX7_weighShowers 31 = .ok (.if_icmp .ge 168, 3) := by decide +kernel
theorem dX7_weighShowers_34 : decode cX7_weighShowers 34 = .ok (.iload_n 2, 1) := by decide +kernel
theorem dX7_weighShowers_35 : decode cX7_weighShowers 35 = .ok (.invokestatic 388, 3) := by decide +kernel
theorem dX7_weighShowers_38 : decode cX7_weighShowers 38 = .ok (.istore_n 3, 1) := by decide +kernel
theorem dX7_weighShowers_39 : decode cX7_weighShowers 39 = .ok (.iload_n 1, 1) := by decide +kernel
theorem dX7_weighShowers_40 : decode cX7_weighShowers 40 = .ok (.iload_n 3, 1) := by decide +kernel
theorem dX7_weighShowers_41 : decode cX7_weighShowers 41 = .ok (.invokestatic 261, 3) := by decide +kernel
theorem dX7_weighShowers_44 : decode cX7_weighShowers 44 = .ok (.bipush 16, 2) := by decide +kernel
theorem dX7_weighShowers_46 : decode cX7_weighShowers 46 = .ok (.iload_n 1, 1) := by decide +kernel
theorem dX7_weighShowers_47 : decode cX7_weighShowers 47 = .ok (.isub, 1) := by decide +kernel
theorem dX7_weighShowers_48 : decode cX7_weighShowers 48 = .ok (.aload_n 0, 1) := by decide +kernel
theorem dX7_weighShowers_49 : decode cX7_weighShowers 49 = .ok (.getfield 18, 3) := by decide +kernel
theorem dX7_weighShowers_52 : decode cX7_weighShowers 52 = .ok (.getfield 105, 3) := by decide +kernel
theorem dX7_weighShowers_55 : decode cX7_weighShowers 55 = .ok (.iload_n 3, 1) := by decide +kernel
theorem dX7_weighShowers_56 : decode cX7_weighShowers 56 = .ok (.isub, 1) := by decide +kernel
theorem dX7_weighShowers_57 : decode cX7_weighShowers 57 = .ok (.invokestatic 261, 3) := by decide +kernel
theorem dX7_weighShowers_60 : decode cX7_weighShowers 60 = .ok (.lmul, 1) := by decide +kernel
theorem dX7_weighShowers_61 : decode cX7_weighShowers 61 = .ok (.lstore 4, 2) := by decide +kernel
theorem dX7_weighShowers_63 : decode cX7_weighShowers 63 = .ok (.lload 4, 2) := by decide +kernel
theorem dX7_weighShowers_65 : decode cX7_weighShowers 65 = .ok (.lconst 0, 1) := by decide +kernel
theorem dX7_weighShowers_66 : decode cX7_weighShowers 66 = .ok (.lcmp, 1) := by decide +kernel
theorem dX7_weighShowers_67 : decode cX7_weighShowers 67 = .ok (.ifCond .le 126, 3) := by decide +kernel
theorem dX7_weighShowers_70 : decode cX7_weighShowers 70 = .ok (.aload_n 0, 1) := by decide +kernel
theorem dX7_weighShowers_71 : decode cX7_weighShowers 71 = .ok (.getfield 73, 3) := by decide +kernel
theorem dX7_weighShowers_74 : decode cX7_weighShowers 74 = .ok (.getfield 244, 3) := by decide +kernel
theorem dX7_weighShowers_77 : decode cX7_weighShowers 77 = .ok (.iconst 0, 1) := by decide +kernel
theorem dX7_weighShowers_78 : decode cX7_weighShowers 78 = .ok (.invokestatic 376, 3) := by decide +kernel
theorem dX7_weighShowers_81 : decode cX7_weighShowers 81 = .ok (.iconst 0, 1) := by decide +kernel
theorem dX7_weighShowers_82 : decode cX7_weighShowers 82 = .ok (.istore 6, 2) := by decide +kernel
theorem dX7_weighShowers_84 : decode cX7_weighShowers 84 = .ok (.iload 6, 2) := by decide +kernel
theorem dX7_weighShowers_86 : decode cX7_weighShowers 86 = .ok (.aload_n 0, 1) := by decide +kernel
theorem dX7_weighShowers_87 : decode cX7_weighShowers 87 = .ok (.getfield 18, 3) := by decide +kernel
theorem dX7_weighShowers_90 : decode cX7_weighShowers 90 = .ok (.getfield 105, 3) := by decide +kernel
theorem dX7_weighShowers_93 : decode cX7_weighShowers 93 = .ok (.if_icmp .ge 36, 3) := by decide +kernel
theorem dX7_weighShowers_96 : decode cX7_weighShowers 96 = .ok (.aload_n 0, 1) := by decide +kernel
theorem dX7_weighShowers_97 : decode cX7_weighShowers 97 = .ok (.getfield 73, 3) := by decide +kernel
theorem dX7_weighShowers_100 : decode cX7_weighShowers 100 = .ok (.getfield 244, 3) := by decide +kernel
theorem dX7_weighShowers_103 : decode cX7_weighShowers 103 = .ok (.aload_n 0, 1) := by decide +kernel
theorem dX7_weighShowers_104 : decode cX7_weighShowers 104 = .ok (.getfield 18, 3) := by decide +kernel
theorem dX7_weighShowers_107 : decode cX7_weighShowers 107 = .ok (.getfield 246, 3) := by decide +kernel
theorem dX7_weighShowers_110 : decode cX7_weighShowers 110 = .ok (.iload 6, 2) := by decide +kernel
theorem dX7_weighShowers_112 : decode cX7_weighShowers 112 = .ok (.iaload, 1) := by decide +kernel
theorem dX7_weighShowers_113 : decode cX7_weighShowers 113 = .ok (.dup2, 1) := by decide +kernel
theorem dX7_weighShowers_114 : decode cX7_weighShowers 114 = .ok (.iaload, 1) := by decide +kernel
theorem dX7_weighShowers_115 : decode cX7_weighShowers 115 = .ok (.iload_n 2, 1) := by decide +kernel
theorem dX7_weighShowers_116 : decode cX7_weighShowers 116 = .ok (.iload 6, 2) := by decide +kernel
theorem dX7_weighShowers_118 : decode cX7_weighShowers 118 = .ok (.ishr, 1) := by decide +kernel
theorem dX7_weighShowers_119 : decode cX7_weighShowers 119 = .ok (.iconst 1, 1) := by decide +kernel
theorem dX7_weighShowers_120 : decode cX7_weighShowers 120 = .ok (.iand, 1) := by decide +kernel
theorem dX7_weighShowers_121 : decode cX7_weighShowers 121 = .ok (.iadd, 1) := by decide +kernel
theorem dX7_weighShowers_122 : decode cX7_weighShowers 122 = .ok (.iastore, 1) := by decide +kernel
theorem dX7_weighShowers_123 : decode cX7_weighShowers 123 = .ok (.iinc 6 1, 3) := by decide +kernel
theorem dX7_weighShowers_126 : decode cX7_weighShowers 126 = .ok (.goto (-42), 3) := by decide +kernel
theorem dX7_weighShowers_129 : decode cX7_weighShowers 129 = .ok (.aload_n 0, 1) := by decide +kernel
theorem dX7_weighShowers_130 : decode cX7_weighShowers 130 = .ok (.getfield 76, 3) := by decide +kernel
theorem dX7_weighShowers_133 : decode cX7_weighShowers 133 = .ok (.aload_n 0, 1) := by decide +kernel
theorem dX7_weighShowers_134 : decode cX7_weighShowers 134 = .ok (.getfield 73, 3) := by decide +kernel
theorem dX7_weighShowers_137 : decode cX7_weighShowers 137 = .ok (.invokevirtual 229, 3) := by decide +kernel
theorem dX7_weighShowers_140 : decode cX7_weighShowers 140 = .ok (.iconst 0, 1) := by decide +kernel
theorem dX7_weighShowers_141 : decode cX7_weighShowers 141 = .ok (.istore 6, 2) := by decide +kernel
theorem dX7_weighShowers_143 : decode cX7_weighShowers 143 = .ok (.iload 6, 2) := by decide +kernel
theorem dX7_weighShowers_145 : decode cX7_weighShowers 145 = .ok (.aload_n 0, 1) := by decide +kernel
theorem dX7_weighShowers_146 : decode cX7_weighShowers 146 = .ok (.getfield 41, 3) := by decide +kernel
theorem dX7_weighShowers_149 : decode cX7_weighShowers 149 = .ok (.getfield 205, 3) := by decide +kernel
theorem dX7_weighShowers_152 : decode cX7_weighShowers 152 = .ok (.if_icmp .ge 41, 3) := by decide +kernel
theorem dX7_weighShowers_155 : decode cX7_weighShowers 155 = .ok (.aload_n 0, 1) := by decide +kernel
theorem dX7_weighShowers_156 : decode cX7_weighShowers 156 = .ok (.getfield 86, 3) := by decide +kernel
theorem dX7_weighShowers_159 : decode cX7_weighShowers 159 = .ok (.iload 6, 2) := by decide +kernel
theorem dX7_weighShowers_161 : decode cX7_weighShowers 161 = .ok (.dup2, 1) := by decide +kernel
theorem dX7_weighShowers_162 : decode cX7_weighShowers 162 = .ok (.laload, 1) := by decide +kernel
theorem dX7_weighShowers_163 : decode cX7_weighShowers 163 = .ok (.aload_n 0, 1) := by decide +kernel
theorem dX7_weighShowers_164 : decode cX7_weighShowers 164 = .ok (.getfield 76, 3) := by decide +kernel
theorem dX7_weighShowers_167 : decode cX7_weighShowers 167 = .ok (.aload_n 0, 1) := by decide +kernel
theorem dX7_weighShowers_168 : decode cX7_weighShowers 168 = .ok (.getfield 41, 3) := by decide +kernel
theorem dX7_weighShowers_171 : decode cX7_weighShowers 171 = .ok (.iload 6, 2) := by decide +kernel
theorem dX7_weighShowers_173 : decode cX7_weighShowers 173 = .ok (.invokevirtual 206, 3) := by decide +kernel
theorem dX7_weighShowers_176 : decode cX7_weighShowers 176 = .ok (.ifCond .eq 8, 3) := by decide +kernel
theorem dX7_weighShowers_179 : decode cX7_weighShowers 179 = .ok (.lload 4, 2) := by decide +kernel
theorem dX7_weighShowers_181 : decode cX7_weighShowers 181 = .ok (.goto 4, 3) := by decide +kernel
theorem dX7_weighShowers_184 : decode cX7_weighShowers 184 = .ok (.lconst 0, 1) := by decide +kernel
theorem dX7_weighShowers_185 : decode cX7_weighShowers 185 = .ok (.ladd, 1) := by decide +kernel
theorem dX7_weighShowers_186 : decode cX7_weighShowers 186 = .ok (.lastore, 1) := by decide +kernel
theorem dX7_weighShowers_187 : decode cX7_weighShowers 187 = .ok (.iinc 6 1, 3) := by decide +kernel
theorem dX7_weighShowers_190 : decode cX7_weighShowers 190 = .ok (.goto (-47), 3) := by decide +kernel
theorem dX7_weighShowers_193 : decode cX7_weighShowers 193 = .ok (.iinc 2 1, 3) := by decide +kernel
theorem dX7_weighShowers_196 : decode cX7_weighShowers 196 = .ok (.goto (-175), 3) := by decide +kernel
theorem dX7_weighShowers_199 : decode cX7_weighShowers 199 = .ok (.return_, 1) := by decide +kernel
theorem dX7_power_0 : decode cX7_power 0 = .ok (.lconst 1, 1) := by decide +kernel
theorem dX7_power_1 : decode cX7_power 1 = .ok (.lstore_n 2, 1) := by decide +kernel
theorem dX7_power_2 : decode cX7_power 2 = .ok (.iconst 0, 1) := by decide +kernel
theorem dX7_power_3 : decode cX7_power 3 = .ok (.istore 4, 2) := by decide +kernel
theorem dX7_power_5 : decode cX7_power 5 = .ok (.iload 4, 2) := by decide +kernel
theorem dX7_power_7 : decode cX7_power 7 = .ok (.iload_n 1, 1) := by decide +kernel
theorem dX7_power_8 : decode cX7_power 8 = .ok (.if_icmp .ge 14, 3) := by decide +kernel
theorem dX7_power_11 : decode cX7_power 11 = .ok (.lload_n 2, 1) := by decide +kernel
theorem dX7_power_12 : decode cX7_power 12 = .ok (.iload_n 0, 1) := by decide +kernel
theorem dX7_power_13 : decode cX7_power 13 = .ok (.i2l, 1) := by decide +kernel
theorem dX7_power_14 : decode cX7_power 14 = .ok (.lmul, 1) := by decide +kernel
theorem dX7_power_15 : decode cX7_power 15 = .ok (.lstore_n 2, 1) := by decide +kernel
theorem dX7_power_16 : decode cX7_power 16 = .ok (.iinc 4 1, 3) := by decide +kernel
theorem dX7_power_19 : decode cX7_power 19 = .ok (.goto (-14), 3) := by decide +kernel
theorem dX7_power_22 : decode cX7_power 22 = .ok (.lload_n 2, 1) := by decide +kernel
theorem dX7_power_23 : decode cX7_power 23 = .ok (.lreturn, 1) := by decide +kernel
theorem dX7_isFigure_0 : decode cX7_isFigure 0 = .ok (.iload_n 0, 1) := by decide +kernel
theorem dX7_isFigure_1 : decode cX7_isFigure 1 = .ok (.iload_n 1, 1) := by decide +kernel
theorem dX7_isFigure_2 : decode cX7_isFigure 2 = .ok (.if_icmp .lt 12, 3) := by decide +kernel
theorem dX7_isFigure_5 : decode cX7_isFigure 5 = .ok (.iload_n 0, 1) := by decide +kernel
theorem dX7_isFigure_6 : decode cX7_isFigure 6 = .ok (.iload_n 2, 1) := by decide +kernel
theorem dX7_isFigure_7 : decode cX7_isFigure 7 = .ok (.if_icmp .gt 7, 3) := by decide +kernel
theorem dX7_isFigure_10 : decode cX7_isFigure 10 = .ok (.iconst 1, 1) := by decide +kernel
theorem dX7_isFigure_11 : decode cX7_isFigure 11 = .ok (.goto 4, 3) := by decide +kernel
theorem dX7_isFigure_14 : decode cX7_isFigure 14 = .ok (.iconst 0, 1) := by decide +kernel
theorem dX7_isFigure_15 : decode cX7_isFigure 15 = .ok (.ireturn, 1) := by decide +kernel
theorem dX7_tideFault_0 : decode cX7_tideFault 0 = .ok (.iconst 0, 1) := by decide +kernel
theorem dX7_tideFault_1 : decode cX7_tideFault 1 = .ok (.istore_n 1, 1) := by decide +kernel
theorem dX7_tideFault_2 : decode cX7_tideFault 2 = .ok (.iload_n 1, 1) := by decide +kernel
theorem dX7_tideFault_3 : decode cX7_tideFault 3 = .ok (.aload_n 0, 1) := by decide +kernel
theorem dX7_tideFault_4 : decode cX7_tideFault 4 = .ok (.getfield 105, 3) := by decide +kernel
theorem dX7_tideFault_7 : decode cX7_tideFault 7 = .ok (.if_icmp .ge 27, 3) := by decide +kernel
theorem dX7_tideFault_10 : decode cX7_tideFault 10 = .ok (.aload_n 0, 1) := by decide +kernel
theorem dX7_tideFault_11 : decode cX7_tideFault 11 = .ok (.getfield 246, 3) := by decide +kernel
theorem dX7_tideFault_14 : decode cX7_tideFault 14 = .ok (.iload_n 1, 1) := by decide +kernel
theorem dX7_tideFault_15 : decode cX7_tideFault 15 = .ok (.iaload, 1) := by decide +kernel
theorem dX7_tideFault_16 : decode cX7_tideFault 16 = .ok (.bipush 48, 2) := by decide +kernel
theorem dX7_tideFault_18 : decode cX7_tideFault 18 = .ok (.bipush 57, 2) := by decide +kernel
theorem dX7_tideFault_20 : decode cX7_tideFault 20 = .ok (.invokestatic 393, 3) := by decide +kernel
theorem dX7_tideFault_23 : decode cX7_tideFault 23 = .ok (.ifCond .ne 5, 3) := by decide +kernel
theorem dX7_tideFault_26 : decode cX7_tideFault 26 = .ok (.iload_n 1, 1) := by decide +kernel
theorem dX7_tideFault_27 : decode cX7_tideFault 27 = .ok (.ireturn, 1) := by decide +kernel
theorem dX7_tideFault_28 : decode cX7_tideFault 28 = .ok (.iinc 1 1, 3) := by decide +kernel
theorem dX7_tideFault_31 : decode cX7_tideFault 31 = .ok (.goto (-29), 3) := by decide +kernel
theorem dX7_tideFault_34 : decode cX7_tideFault 34 = .ok (.iconst (-1), 1) := by decide +kernel
theorem dX7_tideFault_35 : decode cX7_tideFault 35 = .ok (.ireturn, 1) := by decide +kernel
theorem dX7_orderFault_0 : decode cX7_orderFault 0 = .ok (.iconst 0, 1) := by decide +kernel
theorem dX7_orderFault_1 : decode cX7_orderFault 1 = .ok (.istore_n 1, 1) := by decide +kernel
theorem dX7_orderFault_2 : decode cX7_orderFault 2 = .ok (.iload_n 1, 1) := by decide +kernel
theorem dX7_orderFault_3 : decode cX7_orderFault 3 = .ok (.aload_n 0, 1) := by decide +kernel
theorem dX7_orderFault_4 : decode cX7_orderFault 4 = .ok (.getfield 105, 3) := by decide +kernel
theorem dX7_orderFault_7 : decode cX7_orderFault 7 = .ok (.if_icmp .ge 27, 3) := by decide +kernel
theorem dX7_orderFault_10 : decode cX7_orderFault 10 = .ok (.aload_n 0, 1) := by decide +kernel
theorem dX7_orderFault_11 : decode cX7_orderFault 11 = .ok (.getfield 246, 3) := by decide +kernel
theorem dX7_orderFault_14 : decode cX7_orderFault 14 = .ok (.iload_n 1, 1) := by decide +kernel
theorem dX7_orderFault_15 : decode cX7_orderFault 15 = .ok (.iaload, 1) := by decide +kernel
theorem dX7_orderFault_16 : decode cX7_orderFault 16 = .ok (.iload_n 1, 1) := by decide +kernel
theorem dX7_orderFault_17 : decode cX7_orderFault 17 = .ok (.bipush 6, 2) := by decide +kernel
theorem dX7_orderFault_19 : decode cX7_orderFault 19 = .ok (.irem, 1) := by decide +kernel
theorem dX7_orderFault_20 : decode cX7_orderFault 20 = .ok (.invokestatic 397, 3) := by decide +kernel
theorem dX7_orderFault_23 : decode cX7_orderFault 23 = .ok (.ifCond .ne 5, 3) := by decide +kernel
theorem dX7_orderFault_26 : decode cX7_orderFault 26 = .ok (.iload_n 1, 1) := by decide +kernel
theorem dX7_orderFault_27 : decode cX7_orderFault 27 = .ok (.ireturn, 1) := by decide +kernel
theorem dX7_orderFault_28 : decode cX7_orderFault 28 = .ok (.iinc 1 1, 3) := by decide +kernel
theorem dX7_orderFault_31 : decode cX7_orderFault 31 = .ok (.goto (-29), 3) := by decide +kernel
theorem dX7_orderFault_34 : decode cX7_orderFault 34 = .ok (.aload_n 0, 1) := by decide +kernel
theorem dX7_orderFault_35 : decode cX7_orderFault 35 = .ok (.getfield 105, 3) := by decide +kernel
theorem dX7_orderFault_38 : decode cX7_orderFault 38 = .ok (.ifCond .eq 14, 3) := by decide +kernel
theorem dX7_orderFault_41 : decode cX7_orderFault 41 = .ok (.aload_n 0, 1) := by decide +kernel
theorem dX7_orderFault_42 : decode cX7_orderFault 42 = .ok (.getfield 105, 3) := by decide +kernel
theorem dX7_orderFault_45 : decode cX7_orderFault 45 = .ok (.bipush 6, 2) := by decide +kernel
theorem dX7_orderFault_47 : decode cX7_orderFault 47 = .ok (.irem, 1) := by decide +kernel
theorem dX7_orderFault_48 : decode cX7_orderFault 48 = .ok (.iconst 5, 1) := by decide +kernel
theorem dX7_orderFault_49 : decode cX7_orderFault 49 = .ok (.if_icmp .ne 7, 3) := by decide +kernel
theorem dX7_orderFault_52 : decode cX7_orderFault 52 = .ok (.iconst 1, 1) := by decide +kernel
theorem dX7_orderFault_53 : decode cX7_orderFault 53 = .ok (.goto 4, 3) := by decide +kernel
theorem dX7_orderFault_56 : decode cX7_orderFault 56 = .ok (.iconst 0, 1) := by decide +kernel
theorem dX7_orderFault_57 : decode cX7_orderFault 57 = .ok (.istore_n 1, 1) := by decide +kernel
theorem dX7_orderFault_58 : decode cX7_orderFault 58 = .ok (.iload_n 1, 1) := by decide +kernel
theorem dX7_orderFault_59 : decode cX7_orderFault 59 = .ok (.ifCond .eq 7, 3) := by decide +kernel
theorem dX7_orderFault_62 : decode cX7_orderFault 62 = .ok (.iconst (-1), 1) := by decide +kernel
theorem dX7_orderFault_63 : decode cX7_orderFault 63 = .ok (.goto 7, 3) := by decide +kernel
theorem dX7_orderFault_66 : decode cX7_orderFault 66 = .ok (.aload_n 0, 1) := by decide +kernel
theorem dX7_orderFault_67 : decode cX7_orderFault 67 = .ok (.getfield 105, 3) := by decide +kernel
theorem dX7_orderFault_70 : decode cX7_orderFault 70 = .ok (.ireturn, 1) := by decide +kernel
theorem dX7_fitsOrder_0 : decode cX7_fitsOrder 0 = .ok (.iload_n 1, 1) := by decide +kernel
theorem dX7_fitsOrder_1 : decode cX7_fitsOrder 1 = .ok (.tableswitch 93 0 5 #[39, 63, 72, 93, 93, 81], 39) := by decide +kernel
theorem dX7_fitsOrder_40 : decode cX7_fitsOrder 40 = .ok (.iload_n 0, 1) := by decide +kernel
theorem dX7_fitsOrder_41 : decode cX7_fitsOrder 41 = .ok (.bipush 119, 2) := by decide +kernel
theorem dX7_fitsOrder_43 : decode cX7_fitsOrder 43 = .ok (.if_icmp .eq 15, 3) := by decide +kernel
theorem dX7_fitsOrder_46 : decode cX7_fitsOrder 46 = .ok (.iload_n 0, 1) := by decide +kernel
theorem dX7_fitsOrder_47 : decode cX7_fitsOrder 47 = .ok (.bipush 114, 2) := by decide +kernel
theorem dX7_fitsOrder_49 : decode cX7_fitsOrder 49 = .ok (.if_icmp .eq 9, 3) := by decide +kernel
theorem dX7_fitsOrder_52 : decode cX7_fitsOrder 52 = .ok (.iload_n 0, 1) := by decide +kernel
theorem dX7_fitsOrder_53 : decode cX7_fitsOrder 53 = .ok (.bipush 111, 2) := by decide +kernel
theorem dX7_fitsOrder_55 : decode cX7_fitsOrder 55 = .ok (.if_icmp .ne 7, 3) := by decide +kernel
theorem dX7_fitsOrder_58 : decode cX7_fitsOrder 58 = .ok (.iconst 1, 1) := by decide +kernel
theorem dX7_fitsOrder_59 : decode cX7_fitsOrder 59 = .ok (.goto 4, 3) := by decide +kernel
theorem dX7_fitsOrder_62 : decode cX7_fitsOrder 62 = .ok (.iconst 0, 1) := by decide +kernel
theorem dX7_fitsOrder_63 : decode cX7_fitsOrder 63 = .ok (.ireturn, 1) := by decide +kernel
theorem dX7_fitsOrder_64 : decode cX7_fitsOrder 64 = .ok (.iload_n 0, 1) := by decide +kernel
theorem dX7_fitsOrder_65 : decode cX7_fitsOrder 65 = .ok (.bipush 49, 2) := by decide +kernel
theorem dX7_fitsOrder_67 : decode cX7_fitsOrder 67 = .ok (.bipush 57, 2) := by decide +kernel
theorem dX7_fitsOrder_69 : decode cX7_fitsOrder 69 = .ok (.invokestatic 393, 3) := by decide +kernel
theorem dX7_fitsOrder_72 : decode cX7_fitsOrder 72 = .ok (.ireturn, 1) := by decide +kernel
theorem dX7_fitsOrder_73 : decode cX7_fitsOrder 73 = .ok (.iload_n 0, 1) := by decide +kernel
theorem dX7_fitsOrder_74 : decode cX7_fitsOrder 74 = .ok (.bipush 48, 2) := by decide +kernel
theorem dX7_fitsOrder_76 : decode cX7_fitsOrder 76 = .ok (.bipush 51, 2) := by decide +kernel
theorem dX7_fitsOrder_78 : decode cX7_fitsOrder 78 = .ok (.invokestatic 393, 3) := by decide +kernel
theorem dX7_fitsOrder_81 : decode cX7_fitsOrder 81 = .ok (.ireturn, 1) := by decide +kernel
theorem dX7_fitsOrder_82 : decode cX7_fitsOrder 82 = .ok (.iload_n 0, 1) := by decide +kernel
theorem dX7_fitsOrder_83 : decode cX7_fitsOrder 83 = .ok (.bipush 59, 2) := by decide +kernel
theorem dX7_fitsOrder_85 : decode cX7_fitsOrder 85 = .ok (.if_icmp .ne 7, 3) := by decide +kernel
theorem dX7_fitsOrder_88 : decode cX7_fitsOrder 88 = .ok (.iconst 1, 1) := by decide +kernel
theorem dX7_fitsOrder_89 : decode cX7_fitsOrder 89 = .ok (.goto 4, 3) := by decide +kernel
theorem dX7_fitsOrder_92 : decode cX7_fitsOrder 92 = .ok (.iconst 0, 1) := by decide +kernel
theorem dX7_fitsOrder_93 : decode cX7_fitsOrder 93 = .ok (.ireturn, 1) := by decide +kernel
theorem dX7_fitsOrder_94 : decode cX7_fitsOrder 94 = .ok (.iload_n 0, 1) := by decide +kernel
theorem dX7_fitsOrder_95 : decode cX7_fitsOrder 95 = .ok (.bipush 48, 2) := by decide +kernel
theorem dX7_fitsOrder_97 : decode cX7_fitsOrder 97 = .ok (.bipush 57, 2) := by decide +kernel
theorem dX7_fitsOrder_99 : decode cX7_fitsOrder 99 = .ok (.invokestatic 393, 3) := by decide +kernel
theorem dX7_fitsOrder_102 : decode cX7_fitsOrder 102 = .ok (.ireturn, 1) := by decide +kernel
