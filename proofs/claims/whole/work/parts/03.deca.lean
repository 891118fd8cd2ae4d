theorem dX0_init_0 : decode cX0_init 0 = .ok (.aload_n 0, 1) := by decide +kernel
theorem dX0_init_1 : decode cX0_init 1 = .ok (.invokespecial 3, 3) := by decide +kernel
theorem dX0_init_4 : decode cX0_init 4 = .ok (.aload_n 0, 1) := by decide +kernel
theorem dX0_init_5 : decode cX0_init 5 = .ok (.iconst 5, 1) := by decide +kernel
theorem dX0_init_6 : decode cX0_init 6 = .ok (.newarray .int, 2) := by decide +kernel
theorem dX0_init_8 : decode cX0_init 8 = .ok (.putfield 9, 3) := by decide +kernel
theorem dX0_init_11 : decode cX0_init 11 = .ok (.aload_n 0, 1) := by decide +kernel
theorem dX0_init_12 : decode cX0_init 12 = .ok (.bipush 40, 2) := by decide +kernel
theorem dX0_init_14 : decode cX0_init 14 = .ok (.newarray .int, 2) := by decide +kernel
theorem dX0_init_16 : decode cX0_init 16 = .ok (.putfield 15, 3) := by decide +kernel
theorem dX0_init_19 : decode cX0_init 19 = .ok (.aload_n 0, 1) := by decide +kernel
theorem dX0_init_20 : decode cX0_init 20 = .ok (.bipush 40, 2) := by decide +kernel
theorem dX0_init_22 : decode cX0_init 22 = .ok (.newarray .int, 2) := by decide +kernel
theorem dX0_init_24 : decode cX0_init 24 = .ok (.putfield 18, 3) := by decide +kernel
theorem dX0_init_27 : decode cX0_init 27 = .ok (.aload_n 0, 1) := by decide +kernel
theorem dX0_init_28 : decode cX0_init 28 = .ok (.bipush 40, 2) := by decide +kernel
theorem dX0_init_30 : decode cX0_init 30 = .ok (.newarray .int, 2) := by decide +kernel
theorem dX0_init_32 : decode cX0_init 32 = .ok (.putfield 21, 3) := by decide +kernel
theorem dX0_init_35 : decode cX0_init 35 = .ok (.aload_n 0, 1) := by decide +kernel
theorem dX0_init_36 : decode cX0_init 36 = .ok (.bipush 8, 2) := by decide +kernel
theorem dX0_init_38 : decode cX0_init 38 = .ok (.newarray .int, 2) := by decide +kernel
theorem dX0_init_40 : decode cX0_init 40 = .ok (.putfield 24, 3) := by decide +kernel
theorem dX0_init_43 : decode cX0_init 43 = .ok (.aload_n 0, 1) := by decide +kernel
theorem dX0_init_44 : decode cX0_init 44 = .ok (.aload_n 1, 1) := by decide +kernel
theorem dX0_init_45 : decode cX0_init 45 = .ok (.putfield 27, 3) := by decide +kernel
theorem dX0_init_48 : decode cX0_init 48 = .ok (.return_, 1) := by decide +kernel
theorem dX0_tell_0 : decode cX0_tell 0 = .ok (.aload_n 1, 1) := by decide +kernel
theorem dX0_tell_1 : decode cX0_tell 1 = .ok (.invokestatic 31, 3) := by decide +kernel
theorem dX0_tell_4 : decode cX0_tell 4 = .ok (.iconst (-1), 1) := by decide +kernel
theorem dX0_tell_5 : decode cX0_tell 5 = .ok (.if_icmp .ne 10, 3) := by decide +kernel
theorem dX0_tell_8 : decode cX0_tell 8 = .ok (.aload_n 1, 1) := by decide +kernel
theorem dX0_tell_9 : decode cX0_tell 9 = .ok (.getfield 35, 3) := by decide +kernel
theorem dX0_tell_12 : decode cX0_tell 12 = .ok (.goto 4, 3) := by decide +kernel
theorem dX0_tell_15 : decode cX0_tell 15 = .ok (.iconst 0, 1) := by decide +kernel
theorem dX0_tell_16 : decode cX0_tell 16 = .ok (.istore_n 3, 1) := by decide +kernel
theorem dX0_tell_17 : decode cX0_tell 17 = .ok (.iconst 0, 1) := by decide +kernel
theorem dX0_tell_18 : decode cX0_tell 18 = .ok (.istore 4, 2) := by decide +kernel
theorem dX0_tell_20 : decode cX0_tell 20 = .ok (.iload 4, 2) := by decide +kernel
theorem dX0_tell_22 : decode cX0_tell 22 = .ok (.bipush 40, 2) := by decide +kernel
theorem dX0_tell_24 : decode cX0_tell 24 = .ok (.if_icmp .ge 38, 3) := by decide +kernel
theorem dX0_tell_27 : decode cX0_tell 27 = .ok (.aload_n 0, 1) := by decide +kernel
theorem dX0_tell_28 : decode cX0_tell 28 = .ok (.getfield 15, 3) := by decide +kernel
theorem dX0_tell_31 : decode cX0_tell 31 = .ok (.iload 4, 2) := by decide +kernel
theorem dX0_tell_33 : decode cX0_tell 33 = .ok (.iload 4, 2) := by decide +kernel
theorem dX0_tell_35 : decode cX0_tell 35 = .ok (.iload_n 3, 1) := by decide +kernel
theorem dX0_tell_36 : decode cX0_tell 36 = .ok (.if_icmp .ge 18, 3) := by decide +kernel
theorem dX0_tell_39 : decode cX0_tell 39 = .ok (.iconst 2, 1) := by decide +kernel
theorem dX0_tell_40 : decode cX0_tell 40 = .ok (.aload_n 1, 1) := by decide +kernel
theorem dX0_tell_41 : decode cX0_tell 41 = .ok (.getfield 41, 3) := by decide +kernel
theorem dX0_tell_44 : decode cX0_tell 44 = .ok (.iload 4, 2) := by decide +kernel
theorem dX0_tell_46 : decode cX0_tell 46 = .ok (.iaload, 1) := by decide +kernel
theorem dX0_tell_47 : decode cX0_tell 47 = .ok (.bipush 48, 2) := by decide +kernel
theorem dX0_tell_49 : decode cX0_tell 49 = .ok (.isub, 1) := by decide +kernel
theorem dX0_tell_50 : decode cX0_tell 50 = .ok (.imul, 1) := by decide +kernel
theorem dX0_tell_51 : decode cX0_tell 51 = .ok (.goto 4, 3) := by decide +kernel
theorem dX0_tell_54 : decode cX0_tell 54 = .ok (.iconst 0, 1) := by decide +kernel
theorem dX0_tell_55 : decode cX0_tell 55 = .ok (.iastore, 1) := by decide +kernel
theorem dX0_tell_56 : decode cX0_tell 56 = .ok (.iinc 4 1, 3) := by decide +kernel
theorem dX0_tell_59 : decode cX0_tell 59 = .ok (.goto (-39), 3) := by decide +kernel
theorem dX0_tell_62 : decode cX0_tell 62 = .ok (.aload_n 2, 1) := by decide +kernel
theorem dX0_tell_63 : decode cX0_tell 63 = .ok (.iconst 0, 1) := by decide +kernel
theorem dX0_tell_64 : decode cX0_tell 64 = .ok (.aload_n 0, 1) := by decide +kernel
theorem dX0_tell_65 : decode cX0_tell 65 = .ok (.getfield 9, 3) := by decide +kernel
theorem dX0_tell_68 : decode cX0_tell 68 = .ok (.iconst 0, 1) := by decide +kernel
theorem dX0_tell_69 : decode cX0_tell 69 = .ok (.iconst 5, 1) := by decide +kernel
theorem dX0_tell_70 : decode cX0_tell 70 = .ok (.invokestatic 44, 3) := by decide +kernel
theorem dX0_tell_73 : decode cX0_tell 73 = .ok (.aload_n 0, 1) := by decide +kernel
theorem dX0_tell_74 : decode cX0_tell 74 = .ok (.aload_n 0, 1) := by decide +kernel
theorem dX0_tell_75 : decode cX0_tell 75 = .ok (.getfield 27, 3) := by decide +kernel
theorem dX0_tell_78 : decode cX0_tell 78 = .ok (.getfield 50, 3) := by decide +kernel
theorem dX0_tell_81 : decode cX0_tell 81 = .ok (.putfield 53, 3) := by decide +kernel
theorem dX0_tell_84 : decode cX0_tell 84 = .ok (.iconst 0, 1) := by decide +kernel
theorem dX0_tell_85 : decode cX0_tell 85 = .ok (.istore 4, 2) := by decide +kernel
theorem dX0_tell_87 : decode cX0_tell 87 = .ok (.iload 4, 2) := by decide +kernel
theorem dX0_tell_89 : decode cX0_tell 89 = .ok (.aload_n 0, 1) := by decide +kernel
theorem dX0_tell_90 : decode cX0_tell 90 = .ok (.getfield 53, 3) := by decide +kernel
theorem dX0_tell_93 : decode cX0_tell 93 = .ok (.if_icmp .ge 18, 3) := by decide +kernel
theorem dX0_tell_96 : decode cX0_tell 96 = .ok (.aload_n 0, 1) := by decide +kernel
theorem dX0_tell_97 : decode cX0_tell 97 = .ok (.getfield 24, 3) := by decide +kernel
theorem dX0_tell_100 : decode cX0_tell 100 = .ok (.iload 4, 2) := by decide +kernel
theorem dX0_tell_102 : decode cX0_tell 102 = .ok (.iload 4, 2) := by decide +kernel
theorem dX0_tell_104 : decode cX0_tell 104 = .ok (.iastore, 1) := by decide +kernel
theorem dX0_tell_105 : decode cX0_tell 105 = .ok (.iinc 4 1, 3) := by decide +kernel
theorem dX0_tell_108 : decode cX0_tell 108 = .ok (.goto (-21), 3) := by decide +kernel
theorem dX0_tell_111 : decode cX0_tell 111 = .ok (.return_, 1) := by decide +kernel
theorem dX0_becomeLike_0 : decode cX0_becomeLike 0 = .ok (.aload_n 1, 1) := by decide +kernel
theorem dX0_becomeLike_1 : decode cX0_becomeLike 1 = .ok (.getfield 9, 3) := by decide +kernel
theorem dX0_becomeLike_4 : decode cX0_becomeLike 4 = .ok (.iconst 0, 1) := by decide +kernel
theorem dX0_becomeLike_5 : decode cX0_becomeLike 5 = .ok (.aload_n 0, 1) := by decide +kernel
theorem dX0_becomeLike_6 : decode cX0_becomeLike 6 = .ok (.getfield 9, 3) := by decide +kernel
theorem dX0_becomeLike_9 : decode cX0_becomeLike 9 = .ok (.iconst 0, 1) := by decide +kernel
theorem dX0_becomeLike_10 : decode cX0_becomeLike 10 = .ok (.iconst 5, 1) := by decide +kernel
theorem dX0_becomeLike_11 : decode cX0_becomeLike 11 = .ok (.invokestatic 44, 3) := by decide +kernel
theorem dX0_becomeLike_14 : decode cX0_becomeLike 14 = .ok (.aload_n 1, 1) := by decide +kernel
theorem dX0_becomeLike_15 : decode cX0_becomeLike 15 = .ok (.getfield 15, 3) := by decide +kernel
theorem dX0_becomeLike_18 : decode cX0_becomeLike 18 = .ok (.iconst 0, 1) := by decide +kernel
theorem dX0_becomeLike_19 : decode cX0_becomeLike 19 = .ok (.aload_n 0, 1) := by decide +kernel
theorem dX0_becomeLike_20 : decode cX0_becomeLike 20 = .ok (.getfield 15, 3) := by decide +kernel
theorem dX0_becomeLike_23 : decode cX0_becomeLike 23 = .ok (.iconst 0, 1) := by decide +kernel
theorem dX0_becomeLike_24 : decode cX0_becomeLike 24 = .ok (.bipush 40, 2) := by decide +kernel
theorem dX0_becomeLike_26 : decode cX0_becomeLike 26 = .ok (.invokestatic 44, 3) := by decide +kernel
theorem dX0_becomeLike_29 : decode cX0_becomeLike 29 = .ok (.aload_n 1, 1) := by decide +kernel
theorem dX0_becomeLike_30 : decode cX0_becomeLike 30 = .ok (.getfield 18, 3) := by decide +kernel
theorem dX0_becomeLike_33 : decode cX0_becomeLike 33 = .ok (.iconst 0, 1) := by decide +kernel
theorem dX0_becomeLike_34 : decode cX0_becomeLike 34 = .ok (.aload_n 0, 1) := by decide +kernel
theorem dX0_becomeLike_35 : decode cX0_becomeLike 35 = .ok (.getfield 18, 3) := by decide +kernel
theorem dX0_becomeLike_38 : decode cX0_becomeLike 38 = .ok (.iconst 0, 1) := by decide +kernel
theorem dX0_becomeLike_39 : decode cX0_becomeLike 39 = .ok (.bipush 40, 2) := by decide +kernel
theorem dX0_becomeLike_41 : decode cX0_becomeLike 41 = .ok (.invokestatic 44, 3) := by decide +kernel
theorem dX0_becomeLike_44 : decode cX0_becomeLike 44 = .ok (.aload_n 1, 1) := by decide +kernel
theorem dX0_becomeLike_45 : decode cX0_becomeLike 45 = .ok (.getfield 21, 3) := by decide +kernel
theorem dX0_becomeLike_48 : decode cX0_becomeLike 48 = .ok (.iconst 0, 1) := by decide +kernel
theorem dX0_becomeLike_49 : decode cX0_becomeLike 49 = .ok (.aload_n 0, 1) := by decide +kernel
theorem dX0_becomeLike_50 : decode cX0_becomeLike 50 = .ok (.getfield 21, 3) := by decide +kernel
theorem dX0_becomeLike_53 : decode cX0_becomeLike 53 = .ok (.iconst 0, 1) := by decide +kernel
theorem dX0_becomeLike_54 : decode cX0_becomeLike 54 = .ok (.bipush 40, 2) := by decide +kernel
theorem dX0_becomeLike_56 : decode cX0_becomeLike 56 = .ok (.invokestatic 44, 3) := by decide +kernel
theorem dX0_becomeLike_59 : decode cX0_becomeLike 59 = .ok (.aload_n 1, 1) := by decide +kernel
theorem dX0_becomeLike_60 : decode cX0_becomeLike 60 = .ok (.getfield 24, 3) := by decide +kernel
theorem dX0_becomeLike_63 : decode cX0_becomeLike 63 = .ok (.iconst 0, 1) := by decide +kernel
theorem dX0_becomeLike_64 : decode cX0_becomeLike 64 = .ok (.aload_n 0, 1) := by decide +kernel
theorem dX0_becomeLike_65 : decode cX0_becomeLike 65 = .ok (.getfield 24, 3) := by decide +kernel
theorem dX0_becomeLike_68 : decode cX0_becomeLike 68 = .ok (.iconst 0, 1) := by decide +kernel
theorem dX0_becomeLike_69 : decode cX0_becomeLike 69 = .ok (.bipush 8, 2) := by decide +kernel
theorem dX0_becomeLike_71 : decode cX0_becomeLike 71 = .ok (.invokestatic 44, 3) := by decide +kernel
theorem dX0_becomeLike_74 : decode cX0_becomeLike 74 = .ok (.aload_n 0, 1) := by decide +kernel
theorem dX0_becomeLike_75 : decode cX0_becomeLike 75 = .ok (.aload_n 1, 1) := by decide +kernel
theorem dX0_becomeLike_76 : decode cX0_becomeLike 76 = .ok (.getfield 53, 3) := by decide +kernel
theorem dX0_becomeLike_79 : decode cX0_becomeLike 79 = .ok (.putfield 53, 3) := by decide +kernel
theorem dX0_becomeLike_82 : decode cX0_becomeLike 82 = .ok (.return_, 1) := by decide +kernel
theorem dX0_sendAway_0 : decode cX0_sendAway 0 = .ok (.iconst 0, 1) := by decide +kernel
theorem dX0_sendAway_1 : decode cX0_sendAway 1 = .ok (.istore_n 2, 1) := by decide +kernel
theorem dX0_sendAway_2 : decode cX0_sendAway 2 = .ok (.iconst 0, 1) := by decide +kernel
theorem dX0_sendAway_3 : decode cX0_sendAway 3 = .ok (.istore_n 3, 1) := by decide +kernel
theorem dX0_sendAway_4 : decode cX0_sendAway 4 = .ok (.iload_n 3, 1) := by decide +kernel
theorem dX0_sendAway_5 : decode cX0_sendAway 5 = .ok (.aload_n 0, 1) := by decide +kernel
theorem dX0_sendAway_6 : decode cX0_sendAway 6 = .ok (.getfield 53, 3) := by decide +kernel
theorem dX0_sendAway_9 : decode cX0_sendAway 9 = .ok (.if_icmp .ge 34, 3) := by decide +kernel
theorem dX0_sendAway_12 : decode cX0_sendAway 12 = .ok (.aload_n 0, 1) := by decide +kernel
theorem dX0_sendAway_13 : decode cX0_sendAway 13 = .ok (.getfield 24, 3) := by decide +kernel
theorem dX0_sendAway_16 : decode cX0_sendAway 16 = .ok (.iload_n 3, 1) := by decide +kernel
theorem dX0_sendAway_17 : decode cX0_sendAway 17 = .ok (.iaload, 1) := by decide +kernel
theorem dX0_sendAway_18 : decode cX0_sendAway 18 = .ok (.iload_n 1, 1) := by decide +kernel
theorem dX0_sendAway_19 : decode cX0_sendAway 19 = .ok (.if_icmp .eq 18, 3) := by decide +kernel
theorem dX0_sendAway_22 : decode cX0_sendAway 22 = .ok (.aload_n 0, 1) := by decide +kernel
theorem dX0_sendAway_23 : decode cX0_sendAway 23 = .ok (.getfield 24, 3) := by decide +kernel
theorem dX0_sendAway_26 : decode cX0_sendAway 26 = .ok (.iload_n 2, 1) := by decide +kernel
theorem dX0_sendAway_27 : decode cX0_sendAway 27 = .ok (.aload_n 0, 1) := by decide +kernel
theorem dX0_sendAway_28 : decode cX0_sendAway 28 = .ok (.getfield 24, 3) := by decide +kernel
theorem dX0_sendAway_31 : decode cX0_sendAway 31 = .ok (.iload_n 3, 1) := by decide +kernel
theorem dX0_sendAway_32 : decode cX0_sendAway 32 = .ok (.iaload, 1) := by decide +kernel
theorem dX0_sendAway_33 : decode cX0_sendAway 33 = .ok (.iastore, 1) := by decide +kernel
theorem dX0_sendAway_34 : decode cX0_sendAway 34 = .ok (.iinc 2 1, 3) := by decide +kernel
theorem dX0_sendAway_37 : decode cX0_sendAway 37 = .ok (.iinc 3 1, 3) := by decide +kernel
theorem dX0_sendAway_40 : decode cX0_sendAway 40 = .ok (.goto (-36), 3) := by decide +kernel
theorem dX0_sendAway_43 : decode cX0_sendAway 43 = .ok (.aload_n 0, 1) := by decide +kernel
theorem dX0_sendAway_44 : decode cX0_sendAway 44 = .ok (.iload_n 2, 1) := by decide +kernel
theorem dX0_sendAway_45 : decode cX0_sendAway 45 = .ok (.putfield 53, 3) := by decide +kernel
theorem dX0_sendAway_48 : decode cX0_sendAway 48 = .ok (.return_, 1) := by decide +kernel
theorem dX1_init_0 : decode cX1_init 0 = .ok (.aload_n 0, 1) := by decide +kernel
theorem dX1_init_1 : decode cX1_init 1 = .ok (.invokespecial 3, 3) := by decide +kernel
theorem dX1_init_4 : decode cX1_init 4 = .ok (.aload_n 0, 1) := by decide +kernel
theorem dX1_init_5 : decode cX1_init 5 = .ok (.bipush 8, 2) := by decide +kernel
theorem dX1_init_7 : decode cX1_init 7 = .ok (.newarray .int, 2) := by decide +kernel
theorem dX1_init_9 : decode cX1_init 9 = .ok (.putfield 9, 3) := by decide +kernel
theorem dX1_init_12 : decode cX1_init 12 = .ok (.aload_n 0, 1) := by decide +kernel
theorem dX1_init_13 : decode cX1_init 13 = .ok (.bipush 8, 2) := by decide +kernel
theorem dX1_init_15 : decode cX1_init 15 = .ok (.newarray .int, 2) := by decide +kernel
theorem dX1_init_17 : decode cX1_init 17 = .ok (.putfield 15, 3) := by decide +kernel
theorem dX1_init_20 : decode cX1_init 20 = .ok (.aload_n 0, 1) := by decide +kernel
theorem dX1_init_21 : decode cX1_init 21 = .ok (.bipush 8, 2) := by decide +kernel
theorem dX1_init_23 : decode cX1_init 23 = .ok (.newarray .int, 2) := by decide +kernel
theorem dX1_init_25 : decode cX1_init 25 = .ok (.putfield 18, 3) := by decide +kernel
theorem dX1_init_28 : decode cX1_init 28 = .ok (.aload_n 0, 1) := by decide +kernel
theorem dX1_init_29 : decode cX1_init 29 = .ok (.bipush 8, 2) := by decide +kernel
theorem dX1_init_31 : decode cX1_init 31 = .ok (.newarray .int, 2) := by decide +kernel
theorem dX1_init_33 : decode cX1_init 33 = .ok (.putfield 21, 3) := by decide +kernel
theorem dX1_init_36 : decode cX1_init 36 = .ok (.return_, 1) := by decide +kernel
theorem dX1_readFrom_0 : decode cX1_readFrom 0 = .ok (.aload_n 0, 1) := by decide +kernel
theorem dX1_readFrom_1 : decode cX1_readFrom 1 = .ok (.iconst 0, 1) := by decide +kernel
theorem dX1_readFrom_2 : decode cX1_readFrom 2 = .ok (.putfield 24, 3) := by decide +kernel
theorem dX1_readFrom_5 : decode cX1_readFrom 5 = .ok (.aload_n 1, 1) := by decide +kernel
theorem dX1_readFrom_6 : decode cX1_readFrom 6 = .ok (.invokestatic 28, 3) := by decide +kernel
theorem dX1_readFrom_9 : decode cX1_readFrom 9 = .ok (.iconst (-1), 1) := by decide +kernel
theorem dX1_readFrom_10 : decode cX1_readFrom 10 = .ok (.if_icmp .eq 4, 3) := by decide +kernel
theorem dX1_readFrom_13 : decode cX1_readFrom 13 = .ok (.return_, 1) := by decide +kernel
theorem dX1_readFrom_14 : decode cX1_readFrom 14 = .ok (.iconst 0, 1) := by decide +kernel
theorem dX1_readFrom_15 : decode cX1_readFrom 15 = .ok (.istore_n 2, 1) := by decide +kernel
theorem dX1_readFrom_16 : decode cX1_readFrom 16 = .ok (.iload_n 2, 1) := by decide +kernel
theorem dX1_readFrom_17 : decode cX1_readFrom 17 = .ok (.bipush 6, 2) := by decide +kernel
theorem dX1_readFrom_19 : decode cX1_readFrom 19 = .ok (.iadd, 1) := by decide +kernel
theorem dX1_readFrom_20 : decode cX1_readFrom 20 = .ok (.iconst 1, 1) := by decide +kernel
theorem dX1_readFrom_21 : decode cX1_readFrom 21 = .ok (.isub, 1) := by decide +kernel
theorem dX1_readFrom_22 : decode cX1_readFrom 22 = .ok (.aload_n 1, 1) := by decide +kernel
theorem dX1_readFrom_23 : decode cX1_readFrom 23 = .ok (.getfield 32, 3) := by decide +kernel
theorem dX1_readFrom_26 : decode cX1_readFrom 26 = .ok (.if_icmp .gt 140, 3) := by decide +kernel
theorem dX1_readFrom_29 : decode cX1_readFrom 29 = .ok (.aload_n 0, 1) := by decide +kernel
theorem dX1_readFrom_30 : decode cX1_readFrom 30 = .ok (.getfield 24, 3) := by decide +kernel
theorem dX1_readFrom_33 : decode cX1_readFrom 33 = .ok (.bipush 8, 2) := by decide +kernel
theorem dX1_readFrom_35 : decode cX1_readFrom 35 = .ok (.if_icmp .ge 131, 3) := by decide +kernel
theorem dX1_readFrom_38 : decode cX1_readFrom 38 = .ok (.aload_n 1, 1) := by decide +kernel
theorem dX1_readFrom_39 : decode cX1_readFrom 39 = .ok (.getfield 35, 3) := by decide +kernel
theorem dX1_readFrom_42 : decode cX1_readFrom 42 = .ok (.iload_n 2, 1) := by decide +kernel
theorem dX1_readFrom_43 : decode cX1_readFrom 43 = .ok (.iaload, 1) := by decide +kernel
theorem dX1_readFrom_44 : decode cX1_readFrom 44 = .ok (.istore_n 3, 1) := by decide +kernel
theorem dX1_readFrom_45 : decode cX1_readFrom 45 = .ok (.aload_n 0, 1) := by decide +kernel
theorem dX1_readFrom_46 : decode cX1_readFrom 46 = .ok (.getfield 9, 3) := by decide +kernel
theorem dX1_readFrom_49 : decode cX1_readFrom 49 = .ok (.aload_n 0, 1) := by decide +kernel
theorem dX1_readFrom_50 : decode cX1_readFrom 50 = .ok (.getfield 24, 3) := by decide +kernel
theorem dX1_readFrom_53 : decode cX1_readFrom 53 = .ok (.iload_n 3, 1) := by decide +kernel
theorem dX1_readFrom_54 : decode cX1_readFrom 54 = .ok (.bipush 119, 2) := by decide +kernel
theorem dX1_readFrom_56 : decode cX1_readFrom 56 = .ok (.if_icmp .ne 7, 3) := by decide +kernel
theorem dX1_readFrom_59 : decode cX1_readFrom 59 = .ok (.iconst 0, 1) := by decide +kernel
theorem dX1_readFrom_60 : decode cX1_readFrom 60 = .ok (.goto 14, 3) := by decide +kernel
theorem dX1_readFrom_63 : decode cX1_readFrom 63 = .ok (.iload_n 3, 1) := by decide +kernel
theorem dX1_readFrom_64 : decode cX1_readFrom 64 = .ok (.bipush 114, 2) := by decide +kernel
theorem dX1_readFrom_66 : decode cX1_readFrom 66 = .ok (.if_icmp .ne 7, 3) := by decide +kernel
theorem dX1_readFrom_69 : decode cX1_readFrom 69 = .ok (.iconst 1, 1) := by decide +kernel
theorem dX1_readFrom_70 : decode cX1_readFrom 70 = .ok (.goto 4, 3) := by decide +kernel
theorem dX1_readFrom_73 : decode cX1_readFrom 73 = .ok (.iconst 2, 1) := by decide +kernel
theorem dX1_readFrom_74 : decode cX1_readFrom 74 = .ok (.iastore, 1) := by decide +kernel
theorem dX1_readFrom_75 : decode cX1_readFrom 75 = .ok (.aload_n 0, 1) := by decide +kernel
theorem dX1_readFrom_76 : decode cX1_readFrom 76 = .ok (.getfield 15, 3) := by decide +kernel
theorem dX1_readFrom_79 : decode cX1_readFrom 79 = .ok (.aload_n 0, 1) := by decide +kernel
theorem dX1_readFrom_80 : decode cX1_readFrom 80 = .ok (.getfield 24, 3) := by decide +kernel
theorem dX1_readFrom_83 : decode cX1_readFrom 83 = .ok (.aload_n 1, 1) := by decide +kernel
theorem dX1_readFrom_84 : decode cX1_readFrom 84 = .ok (.getfield 35, 3) := by decide +kernel
theorem dX1_readFrom_87 : decode cX1_readFrom 87 = .ok (.iload_n 2, 1) := by decide +kernel
theorem dX1_readFrom_88 : decode cX1_readFrom 88 = .ok (.iconst 1, 1) := by decide +kernel
theorem dX1_readFrom_89 : decode cX1_readFrom 89 = .ok (.iadd, 1) := by decide +kernel
theorem dX1_readFrom_90 : decode cX1_readFrom 90 = .ok (.iaload, 1) := by decide +kernel
theorem dX1_readFrom_91 : decode cX1_readFrom 91 = .ok (.bipush 48, 2) := by decide +kernel
theorem dX1_readFrom_93 : decode cX1_readFrom 93 = .ok (.isub, 1) := by decide +kernel
theorem dX1_readFrom_94 : decode cX1_readFrom 94 = .ok (.iastore, 1) := by decide +kernel
theorem dX1_readFrom_95 : decode cX1_readFrom 95 = .ok (.aload_n 0, 1) := by decide +kernel
theorem dX1_readFrom_96 : decode cX1_readFrom 96 = .ok (.getfield 18, 3) := by decide +kernel
theorem dX1_readFrom_99 : decode cX1_readFrom 99 = .ok (.aload_n 0, 1) := by decide +kernel
theorem dX1_readFrom_100 : decode cX1_readFrom 100 = .ok (.getfield 24, 3) := by decide +kernel
theorem dX1_readFrom_103 : decode cX1_readFrom 103 = .ok (.aload_n 1, 1) := by decide +kernel
theorem dX1_readFrom_104 : decode cX1_readFrom 104 = .ok (.getfield 35, 3) := by decide +kernel
theorem dX1_readFrom_107 : decode cX1_readFrom 107 = .ok (.iload_n 2, 1) := by decide +kernel
theorem dX1_readFrom_108 : decode cX1_readFrom 108 = .ok (.iconst 2, 1) := by decide +kernel
theorem dX1_readFrom_109 : decode cX1_readFrom 109 = .ok (.iadd, 1) := by decide +kernel
theorem dX1_readFrom_110 : decode cX1_readFrom 110 = .ok (.iaload, 1) := by decide +kernel
theorem dX1_readFrom_111 : decode cX1_readFrom 111 = .ok (.bipush 48, 2) := by decide +kernel
theorem dX1_readFrom_113 : decode cX1_readFrom 113 = .ok (.isub, 1) := by decide +kernel
theorem dX1_readFrom_114 : decode cX1_readFrom 114 = .ok (.bipush 10, 2) := by decide +kernel
theorem dX1_readFrom_116 : decode cX1_readFrom 116 = .ok (.imul, 1) := by decide +kernel
theorem dX1_readFrom_117 : decode cX1_readFrom 117 = .ok (.aload_n 1, 1) := by decide +kernel
theorem dX1_readFrom_118 : decode cX1_readFrom 118 = .ok (.getfield 35, 3) := by decide +kernel
theorem dX1_readFrom_121 : decode cX1_readFrom 121 = .ok (.iload_n 2, 1) := by decide +kernel
theorem dX1_readFrom_122 : decode cX1_readFrom 122 = .ok (.iconst 3, 1) := by decide +kernel
theorem dX1_readFrom_123 : decode cX1_readFrom 123 = .ok (.iadd, 1) := by decide +kernel
theorem dX1_readFrom_124 : decode cX1_readFrom 124 = .ok (.iaload, 1) := by decide +kernel
theorem dX1_readFrom_125 : decode cX1_readFrom 125 = .ok (.iadd, 1) := by decide +kernel
theorem dX1_readFrom_126 : decode cX1_readFrom 126 = .ok (.bipush 48, 2) := by decide +kernel
theorem dX1_readFrom_128 : decode cX1_readFrom 128 = .ok (.isub, 1) := by decide +kernel
theorem dX1_readFrom_129 : decode cX1_readFrom 129 = .ok (.iastore, 1) := by decide +kernel
theorem dX1_readFrom_130 : decode cX1_readFrom 130 = .ok (.aload_n 0, 1) := by decide +kernel
theorem dX1_readFrom_131 : decode cX1_readFrom 131 = .ok (.getfield 21, 3) := by decide +kernel
theorem dX1_readFrom_134 : decode cX1_readFrom 134 = .ok (.aload_n 0, 1) := by decide +kernel
theorem dX1_readFrom_135 : decode cX1_readFrom 135 = .ok (.getfield 24, 3) := by decide +kernel
theorem dX1_readFrom_138 : decode cX1_readFrom 138 = .ok (.aload_n 1, 1) := by decide +kernel
theorem dX1_readFrom_139 : decode cX1_readFrom 139 = .ok (.getfield 35, 3) := by decide +kernel
theorem dX1_readFrom_142 : decode cX1_readFrom 142 = .ok (.iload_n 2, 1) := by decide +kernel
theorem dX1_readFrom_143 : decode cX1_readFrom 143 = .ok (.iconst 4, 1) := by decide +kernel
theorem dX1_readFrom_144 : decode cX1_readFrom 144 = .ok (.iadd, 1) := by decide +kernel
theorem dX1_readFrom_145 : decode cX1_readFrom 145 = .ok (.iaload, 1) := by decide +kernel
theorem dX1_readFrom_146 : decode cX1_readFrom 146 = .ok (.bipush 48, 2) := by decide +kernel
theorem dX1_readFrom_148 : decode cX1_readFrom 148 = .ok (.isub, 1) := by decide +kernel
theorem dX1_readFrom_149 : decode cX1_readFrom 149 = .ok (.iastore, 1) := by decide +kernel
theorem dX1_readFrom_150 : decode cX1_readFrom 150 = .ok (.aload_n 0, 1) := by decide +kernel
theorem dX1_readFrom_151 : decode cX1_readFrom 151 = .ok (.dup, 1) := by decide +kernel
theorem dX1_readFrom_152 : decode cX1_readFrom 152 = .ok (.getfield 24, 3) := by decide +kernel
theorem dX1_readFrom_155 : decode cX1_readFrom 155 = .ok (.iconst 1, 1) := by decide +kernel
theorem dX1_readFrom_156 : decode cX1_readFrom 156 = .ok (.iadd, 1) := by decide +kernel
theorem dX1_readFrom_157 : decode cX1_readFrom 157 = .ok (.putfield 24, 3) := by decide +kernel
theorem dX1_readFrom_160 : decode cX1_readFrom 160 = .ok (.iinc 2 6, 3) := by decide +kernel
theorem dX1_readFrom_163 : decode cX1_readFrom 163 = .ok (.goto (-147), 3) := by decide +kernel
theorem dX1_readFrom_166 : decode cX1_readFrom 166 = .ok (.return_, 1) := by decide +kernel
theorem dX2_init_0 : decode cX2_init 0 = .ok (.aload_n 0, 1) := by decide +kernel
theorem dX2_init_1 : decode cX2_init 1 = .ok (.invokespecial 1, 3) := by decide +kernel
theorem dX2_init_4 : decode cX2_init 4 = .ok (.aload_n 0, 1) := by decide +kernel
theorem dX2_init_5 : decode cX2_init 5 = .ok (.iload_n 1, 1) := by decide +kernel
theorem dX2_init_6 : decode cX2_init 6 = .ok (.iconst 0, 1) := by decide +kernel
theorem dX2_init_7 : decode cX2_init 7 = .ok (.invokestatic 7, 3) := by decide +kernel
theorem dX2_init_10 : decode cX2_init 10 = .ok (.newarray .int, 2) := by decide +kernel
theorem dX2_init_12 : decode cX2_init 12 = .ok (.putfield 13, 3) := by decide +kernel
theorem dX2_init_15 : decode cX2_init 15 = .ok (.return_, 1) := by decide +kernel
theorem dX2_isFull_0 : decode cX2_isFull 0 = .ok (.aload_n 0, 1) := by decide +kernel
theorem dX2_isFull_1 : decode cX2_isFull 1 = .ok (.getfield 19, 3) := by decide +kernel
theorem dX2_isFull_4 : decode cX2_isFull 4 = .ok (.aload_n 0, 1) := by decide +kernel
theorem dX2_isFull_5 : decode cX2_isFull 5 = .ok (.getfield 13, 3) := by decide +kernel
theorem dX2_isFull_8 : decode cX2_isFull 8 = .ok (.arraylength, 1) := by decide +kernel
theorem dX2_isFull_9 : decode cX2_isFull 9 = .ok (.if_icmp .lt 7, 3) := by decide +kernel
theorem dX2_isFull_12 : decode cX2_isFull 12 = .ok (.iconst 1, 1) := by decide +kernel
theorem dX2_isFull_13 : decode cX2_isFull 13 = .ok (.goto 4, 3) := by decide +kernel
theorem dX2_isFull_16 : decode cX2_isFull 16 = .ok (.iconst 0, 1) := by decide +kernel
theorem dX2_isFull_17 : decode cX2_isFull 17 = .ok (.ireturn, 1) := by decide +kernel
theorem dX2_add_0 : decode cX2_add 0 = .ok (.aload_n 0, 1) := by decide +kernel
theorem dX2_add_1 : decode cX2_add 1 = .ok (.invokevirtual 23, 3) := by decide +kernel
theorem dX2_add_4 : decode cX2_add 4 = .ok (.ifCond .ne 23, 3) := by decide +kernel
theorem dX2_add_7 : decode cX2_add 7 = .ok (.aload_n 0, 1) := by decide +kernel
theorem dX2_add_8 : decode cX2_add 8 = .ok (.getfield 13, 3) := by decide +kernel
theorem dX2_add_11 : decode cX2_add 11 = .ok (.aload_n 0, 1) := by decide +kernel
theorem dX2_add_12 : decode cX2_add 12 = .ok (.getfield 19, 3) := by decide +kernel
theorem dX2_add_15 : decode cX2_add 15 = .ok (.iload_n 1, 1) := by decide +kernel
theorem dX2_add_16 : decode cX2_add 16 = .ok (.iastore, 1) := by decide +kernel
theorem dX2_add_17 : decode cX2_add 17 = .ok (.aload_n 0, 1) := by decide +kernel
theorem dX2_add_18 : decode cX2_add 18 = .ok (.dup, 1) := by decide +kernel
theorem dX2_add_19 : decode cX2_add 19 = .ok (.getfield 19, 3) := by decide +kernel
theorem dX2_add_22 : decode cX2_add 22 = .ok (.iconst 1, 1) := by decide +kernel
theorem dX2_add_23 : decode cX2_add 23 = .ok (.iadd, 1) := by decide +kernel
theorem dX2_add_24 : decode cX2_add 24 = .ok (.putfield 19, 3) := by decide +kernel
theorem dX2_add_27 : decode cX2_add 27 = .ok (.return_, 1) := by decide +kernel
theorem dX3_init_0 : decode cX3_init 0 = .ok (.aload_n 0, 1) := by decide +kernel
theorem dX3_init_1 : decode cX3_init 1 = .ok (.invokespecial 3, 3) := by decide +kernel
theorem dX3_init_4 : decode cX3_init 4 = .ok (.aload_n 0, 1) := by decide +kernel
theorem dX3_init_5 : decode cX3_init 5 = .ok (.bipush 9, 2) := by decide +kernel
theorem dX3_init_7 : decode cX3_init 7 = .ok (.anewarray 9, 3) := by decide +kernel
theorem dX3_init_10 : decode cX3_init 10 = .ok (.putfield 11, 3) := by decide +kernel
theorem dX3_init_13 : decode cX3_init 13 = .ok (.aload_n 0, 1) := by decide +kernel
theorem dX3_init_14 : decode cX3_init 14 = .ok (.bipush 8, 2) := by decide +kernel
theorem dX3_init_16 : decode cX3_init 16 = .ok (.newarray .int, 2) := by decide +kernel
theorem dX3_init_18 : decode cX3_init 18 = .ok (.putfield 17, 3) := by decide +kernel
theorem dX3_init_21 : decode cX3_init 21 = .ok (.aload_n 0, 1) := by decide +kernel
theorem dX3_init_22 : decode cX3_init 22 = .ok (.bipush 8, 2) := by decide +kernel
theorem dX3_init_24 : decode cX3_init 24 = .ok (.newarray .int, 2) := by decide +kernel
theorem dX3_init_26 : decode cX3_init 26 = .ok (.putfield 21, 3) := by decide +kernel
theorem dX3_init_29 : decode cX3_init 29 = .ok (.aload_n 0, 1) := by decide +kernel
theorem dX3_init_30 : decode cX3_init 30 = .ok (.sipush 1021, 3) := by decide +kernel
theorem dX3_init_33 : decode cX3_init 33 = .ok (.newarray .int, 2) := by decide +kernel
theorem dX3_init_35 : decode cX3_init 35 = .ok (.putfield 24, 3) := by decide +kernel
theorem dX3_init_38 : decode cX3_init 38 = .ok (.aload_n 0, 1) := by decide +kernel
theorem dX3_init_39 : decode cX3_init 39 = .ok (.sipush 1021, 3) := by decide +kernel
theorem dX3_init_42 : decode cX3_init 42 = .ok (.newarray .int, 2) := by decide +kernel
theorem dX3_init_44 : decode cX3_init 44 = .ok (.putfield 27, 3) := by decide +kernel
theorem dX3_init_47 : decode cX3_init 47 = .ok (.iconst 0, 1) := by decide +kernel
theorem dX3_init_48 : decode cX3_init 48 = .ok (.istore_n 1, 1) := by decide +kernel
theorem dX3_init_49 : decode cX3_init 49 = .ok (.iload_n 1, 1) := by decide +kernel
theorem dX3_init_50 : decode cX3_init 50 = .ok (.aload_n 0, 1) := by decide +kernel
theorem dX3_init_51 : decode cX3_init 51 = .ok (.getfield 11, 3) := by decide +kernel
theorem dX3_init_54 : decode cX3_init 54 = .ok (.arraylength, 1) := by decide +kernel
theorem dX3_init_55 : decode cX3_init 55 = .ok (.if_icmp .ge 22, 3) := by decide +kernel
theorem dX3_init_58 : decode cX3_init 58 = .ok (.aload_n 0, 1) := by decide +kernel
theorem dX3_init_59 : decode cX3_init 59 = .ok (.getfield 11, 3) := by decide +kernel
theorem dX3_init_62 : decode cX3_init 62 = .ok (.iload_n 1, 1) := by decide +kernel
theorem dX3_init_63 : decode cX3_init 63 = .ok (.new 9, 3) := by decide +kernel
theorem dX3_init_66 : decode cX3_init 66 = .ok (.dup, 1) := by decide +kernel
theorem dX3_init_67 : decode cX3_init 67 = .ok (.invokespecial 30, 3) := by decide +kernel
theorem dX3_init_70 : decode cX3_init 70 = .ok (.aastore, 1) := by decide +kernel
theorem dX3_init_71 : decode cX3_init 71 = .ok (.iinc 1 1, 3) := by decide +kernel
theorem dX3_init_74 : decode cX3_init 74 = .ok (.goto (-25), 3) := by decide +kernel
theorem dX3_init_77 : decode cX3_init 77 = .ok (.return_, 1) := by decide +kernel
theorem dX3_look_0 : decode cX3_look 0 = .ok (.aload_n 0, 1) := by decide +kernel
theorem dX3_look_1 : decode cX3_look 1 = .ok (.iconst (-1), 1) := by decide +kernel
theorem dX3_look_2 : decode cX3_look 2 = .ok (.putfield 31, 3) := by decide +kernel
theorem dX3_look_5 : decode cX3_look 5 = .ok (.aload_n 0, 1) := by decide +kernel
theorem dX3_look_6 : decode cX3_look 6 = .ok (.getfield 24, 3) := by decide +kernel
theorem dX3_look_9 : decode cX3_look 9 = .ok (.iconst (-1), 1) := by decide +kernel
theorem dX3_look_10 : decode cX3_look 10 = .ok (.invokestatic 35, 3) := by decide +kernel
theorem dX3_look_13 : decode cX3_look 13 = .ok (.aload_n 0, 1) := by decide +kernel
theorem dX3_look_14 : decode cX3_look 14 = .ok (.getfield 11, 3) := by decide +kernel
theorem dX3_look_17 : decode cX3_look 17 = .ok (.iconst 0, 1) := by decide +kernel
theorem dX3_look_18 : decode cX3_look 18 = .ok (.aaload, 1) := by decide +kernel
theorem dX3_look_19 : decode cX3_look 19 = .ok (.aload_n 1, 1) := by decide +kernel
theorem dX3_look_20 : decode cX3_look 20 = .ok (.invokevirtual 41, 3) := by decide +kernel
theorem dX3_look_23 : decode cX3_look 23 = .ok (.aload_n 0, 1) := by decide +kernel
theorem dX3_look_24 : decode cX3_look 24 = .ok (.aload_n 1, 1) := by decide +kernel
theorem dX3_look_25 : decode cX3_look 25 = .ok (.iconst 0, 1) := by decide +kernel
theorem dX3_look_26 : decode cX3_look 26 = .ok (.iconst 0, 1) := by decide +kernel
theorem dX3_look_27 : decode cX3_look 27 = .ok (.iconst 0, 1) := by decide +kernel
theorem dX3_look_28 : decode cX3_look 28 = .ok (.invokestatic 45, 3) := by decide +kernel
theorem dX3_look_31 : decode cX3_look 31 = .ok (.return_, 1) := by decide +kernel
theorem dX3_extend_0 : decode cX3_extend 0 = .ok (.aload_n 1, 1) := by decide +kernel
theorem dX3_extend_1 : decode cX3_extend 1 = .ok (.getfield 49, 3) := by decide +kernel
theorem dX3_extend_4 : decode cX3_extend 4 = .ok (.astore 5, 2) := by decide +kernel
theorem dX3_extend_6 : decode cX3_extend 6 = .ok (.iload 4, 2) := by decide +kernel
theorem dX3_extend_8 : decode cX3_extend 8 = .ok (.aload 5, 2) := by decide +kernel
theorem dX3_extend_10 : decode cX3_extend 10 = .ok (.aload_n 0, 1) := by decide +kernel
theorem dX3_extend_11 : decode cX3_extend 11 = .ok (.getfield 11, 3) := by decide +kernel
theorem dX3_extend_14 : decode cX3_extend 14 = .ok (.iload_n 2, 1) := by decide +kernel
theorem dX3_extend_15 : decode cX3_extend 15 = .ok (.aaload, 1) := by decide +kernel
theorem dX3_extend_16 : decode cX3_extend 16 = .ok (.getfield 55, 3) := by decide +kernel
theorem dX3_extend_19 : decode cX3_extend 19 = .ok (.iload_n 3, 1) := by decide +kernel
theorem dX3_extend_20 : decode cX3_extend 20 = .ok (.invokestatic 58, 3) := by decide +kernel
theorem dX3_extend_23 : decode cX3_extend 23 = .ok (.iadd, 1) := by decide +kernel
theorem dX3_extend_24 : decode cX3_extend 24 = .ok (.aload_n 0, 1) := by decide +kernel
theorem dX3_extend_25 : decode cX3_extend 25 = .ok (.getfield 31, 3) := by decide +kernel
theorem dX3_extend_28 : decode cX3_extend 28 = .ok (.if_icmp .gt 4, 3) := by decide +kernel
theorem dX3_extend_31 : decode cX3_extend 31 = .ok (.return_, 1) := by decide +kernel
theorem dX3_extend_32 : decode cX3_extend 32 = .ok (.iload_n 2, 1) := by decide +kernel
theorem dX3_extend_33 : decode cX3_extend 33 = .ok (.aload 5, 2) := by decide +kernel
theorem dX3_extend_35 : decode cX3_extend 35 = .ok (.getfield 62, 3) := by decide +kernel
theorem dX3_extend_38 : decode cX3_extend 38 = .ok (.if_icmp .lt 24, 3) := by decide +kernel
theorem dX3_extend_41 : decode cX3_extend 41 = .ok (.aload_n 0, 1) := by decide +kernel
theorem dX3_extend_42 : decode cX3_extend 42 = .ok (.iload 4, 2) := by decide +kernel
theorem dX3_extend_44 : decode cX3_extend 44 = .ok (.putfield 31, 3) := by decide +kernel
theorem dX3_extend_47 : decode cX3_extend 47 = .ok (.aload_n 0, 1) := by decide +kernel
theorem dX3_extend_48 : decode cX3_extend 48 = .ok (.getfield 17, 3) := by decide +kernel
theorem dX3_extend_51 : decode cX3_extend 51 = .ok (.iconst 0, 1) := by decide +kernel
theorem dX3_extend_52 : decode cX3_extend 52 = .ok (.aload_n 0, 1) := by decide +kernel
theorem dX3_extend_53 : decode cX3_extend 53 = .ok (.getfield 21, 3) := by decide +kernel
theorem dX3_extend_56 : decode cX3_extend 56 = .ok (.iconst 0, 1) := by decide +kernel
theorem dX3_extend_57 : decode cX3_extend 57 = .ok (.iload_n 2, 1) := by decide +kernel
theorem dX3_extend_58 : decode cX3_extend 58 = .ok (.invokestatic 67, 3) := by decide +kernel
theorem dX3_extend_61 : decode cX3_extend 61 = .ok (.return_, 1) := by decide +kernel
theorem dX3_extend_62 : decode cX3_extend 62 = .ok (.aload_n 0, 1) := by decide +kernel
theorem dX3_extend_63 : decode cX3_extend 63 = .ok (.aload_n 0, 1) := by decide +kernel
theorem dX3_extend_64 : decode cX3_extend 64 = .ok (.getfield 11, 3) := by decide +kernel
theorem dX3_extend_67 : decode cX3_extend 67 = .ok (.iload_n 2, 1) := by decide +kernel
theorem dX3_extend_68 : decode cX3_extend 68 = .ok (.aaload, 1) := by decide +kernel
theorem dX3_extend_69 : decode cX3_extend 69 = .ok (.iload_n 3, 1) := by decide +kernel
theorem dX3_extend_70 : decode cX3_extend 70 = .ok (.iload 4, 2) := by decide +kernel
theorem dX3_extend_72 : decode cX3_extend 72 = .ok (.invokevirtual 73, 3) := by decide +kernel
theorem dX3_extend_75 : decode cX3_extend 75 = .ok (.ifCond .eq 4, 3) := by decide +kernel
theorem dX3_extend_78 : decode cX3_extend 78 = .ok (.return_, 1) := by decide +kernel
theorem dX3_extend_79 : decode cX3_extend 79 = .ok (.iconst 0, 1) := by decide +kernel
theorem dX3_extend_80 : decode cX3_extend 80 = .ok (.istore 6, 2) := by decide +kernel
theorem dX3_extend_82 : decode cX3_extend 82 = .ok (.iload 6, 2) := by decide +kernel
theorem dX3_extend_84 : decode cX3_extend 84 = .ok (.aload 5, 2) := by decide +kernel
theorem dX3_extend_86 : decode cX3_extend 86 = .ok (.getfield 62, 3) := by decide +kernel
theorem dX3_extend_89 : decode cX3_extend 89 = .ok (.if_icmp .ge 70, 3) := by decide +kernel
theorem dX3_extend_92 : decode cX3_extend 92 = .ok (.iload_n 3, 1) := by decide +kernel
theorem dX3_extend_93 : decode cX3_extend 93 = .ok (.iload 6, 2) := by decide +kernel
theorem dX3_extend_95 : decode cX3_extend 95 = .ok (.ishr, 1) := by decide +kernel
theorem dX3_extend_96 : decode cX3_extend 96 = .ok (.iconst 1, 1) := by decide +kernel
theorem dX3_extend_97 : decode cX3_extend 97 = .ok (.iand, 1) := by decide +kernel
theorem dX3_extend_98 : decode cX3_extend 98 = .ok (.ifCond .ne 55, 3) := by decide +kernel
theorem dX3_extend_101 : decode cX3_extend 101 = .ok (.aload_n 0, 1) := by decide +kernel
theorem dX3_extend_102 : decode cX3_extend 102 = .ok (.getfield 17, 3) := by decide +kernel
theorem dX3_extend_105 : decode cX3_extend 105 = .ok (.iload_n 2, 1) := by decide +kernel
theorem dX3_extend_106 : decode cX3_extend 106 = .ok (.iload 6, 2) := by decide +kernel
theorem dX3_extend_108 : decode cX3_extend 108 = .ok (.iastore, 1) := by decide +kernel
theorem dX3_extend_109 : decode cX3_extend 109 = .ok (.aload_n 0, 1) := by decide +kernel
theorem dX3_extend_110 : decode cX3_extend 110 = .ok (.aload_n 1, 1) := by decide +kernel
theorem dX3_extend_111 : decode cX3_extend 111 = .ok (.iload_n 2, 1) := by decide +kernel
theorem dX3_extend_112 : decode cX3_extend 112 = .ok (.iload 6, 2) := by decide +kernel
theorem dX3_extend_114 : decode cX3_extend 114 = .ok (.invokevirtual 77, 3) := by decide +kernel
theorem dX3_extend_117 : decode cX3_extend 117 = .ok (.istore 7, 2) := by decide +kernel
theorem dX3_extend_119 : decode cX3_extend 119 = .ok (.aload_n 0, 1) := by decide +kernel
theorem dX3_extend_120 : decode cX3_extend 120 = .ok (.aload_n 1, 1) := by decide +kernel
theorem dX3_extend_121 : decode cX3_extend 121 = .ok (.iload_n 2, 1) := by decide +kernel
theorem dX3_extend_122 : decode cX3_extend 122 = .ok (.iconst 1, 1) := by decide +kernel
theorem dX3_extend_123 : decode cX3_extend 123 = .ok (.iadd, 1) := by decide +kernel
theorem dX3_extend_124 : decode cX3_extend 124 = .ok (.iload_n 3, 1) := by decide +kernel
theorem dX3_extend_125 : decode cX3_extend 125 = .ok (.iconst 1, 1) := by decide +kernel
theorem dX3_extend_126 : decode cX3_extend 126 = .ok (.iload 6, 2) := by decide +kernel
theorem dX3_extend_128 : decode cX3_extend 128 = .ok (.ishl, 1) := by decide +kernel
theorem dX3_extend_129 : decode cX3_extend 129 = .ok (.ior, 1) := by decide +kernel
theorem dX3_extend_130 : decode cX3_extend 130 = .ok (.iload 4, 2) := by decide +kernel
theorem dX3_extend_132 : decode cX3_extend 132 = .ok (.iload 7, 2) := by decide +kernel
theorem dX3_extend_134 : decode cX3_extend 134 = .ok (.ifCond .eq 14, 3) := by decide +kernel
theorem dX3_extend_137 : decode cX3_extend 137 = .ok (.aload 5, 2) := by decide +kernel
theorem dX3_extend_139 : decode cX3_extend 139 = .ok (.getfield 81, 3) := by decide +kernel
theorem dX3_extend_142 : decode cX3_extend 142 = .ok (.iload 6, 2) := by decide +kernel
theorem dX3_extend_144 : decode cX3_extend 144 = .ok (.iaload, 1) := by decide +kernel
theorem dX3_extend_145 : decode cX3_extend 145 = .ok (.goto 4, 3) := by decide +kernel
theorem dX3_extend_148 : decode cX3_extend 148 = .ok (.iconst 0, 1) := by decide +kernel
theorem dX3_extend_149 : decode cX3_extend 149 = .ok (.iadd, 1) := by decide +kernel
theorem dX3_extend_150 : decode cX3_extend 150 = .ok (.invokestatic 45, 3) := by decide +kernel
theorem dX3_extend_153 : decode cX3_extend 153 = .ok (.iinc 6 1, 3) := by decide +kernel
theorem dX3_extend_156 : decode cX3_extend 156 = .ok (.goto (-74), 3) := by decide +kernel
theorem dX3_extend_159 : decode cX3_extend 159 = .ok (.return_, 1) := by decide +kernel
theorem dX3_reachedBefore_0 : decode cX3_reachedBefore 0 = .ok (.iload_n 2, 1) := by decide +kernel
theorem dX3_reachedBefore_1 : decode cX3_reachedBefore 1 = .ok (.bipush 41, 2) := by decide +kernel
theorem dX3_reachedBefore_3 : decode cX3_reachedBefore 3 = .ok (.imul, 1) := by decide +kernel
theorem dX3_reachedBefore_4 : decode cX3_reachedBefore 4 = .ok (.aload_n 1, 1) := by decide +kernel
theorem dX3_reachedBefore_5 : decode cX3_reachedBefore 5 = .ok (.getfield 55, 3) := by decide +kernel
theorem dX3_reachedBefore_8 : decode cX3_reachedBefore 8 = .ok (.iadd, 1) := by decide +kernel
theorem dX3_reachedBefore_9 : decode cX3_reachedBefore 9 = .ok (.bipush 21, 2) := by decide +kernel
theorem dX3_reachedBefore_11 : decode cX3_reachedBefore 11 = .ok (.imul, 1) := by decide +kernel
theorem dX3_reachedBefore_12 : decode cX3_reachedBefore 12 = .ok (.aload_n 1, 1) := by decide +kernel
theorem dX3_reachedBefore_13 : decode cX3_reachedBefore 13 = .ok (.getfield 84, 3) := by decide +kernel
theorem dX3_reachedBefore_16 : decode cX3_reachedBefore 16 = .ok (.iadd, 1) := by decide +kernel
theorem dX3_reachedBefore_17 : decode cX3_reachedBefore 17 = .ok (.bipush 41, 2) := by decide +kernel
theorem dX3_reachedBefore_19 : decode cX3_reachedBefore 19 = .ok (.imul, 1) := by decide +kernel
theorem dX3_reachedBefore_20 : decode cX3_reachedBefore 20 = .ok (.aload_n 1, 1) := by decide +kernel
theorem dX3_reachedBefore_21 : decode cX3_reachedBefore 21 = .ok (.getfield 87, 3) := by decide +kernel
theorem dX3_reachedBefore_24 : decode cX3_reachedBefore 24 = .ok (.iadd, 1) := by decide +kernel
theorem dX3_reachedBefore_25 : decode cX3_reachedBefore 25 = .ok (.istore 4, 2) := by decide +kernel
theorem dX3_reachedBefore_27 : decode cX3_reachedBefore 27 = .ok (.iload 4, 2) := by decide +kernel
theorem dX3_reachedBefore_29 : decode cX3_reachedBefore 29 = .ok (.sipush 1021, 3) := by decide +kernel
theorem dX3_reachedBefore_32 : decode cX3_reachedBefore 32 = .ok (.irem, 1) := by decide +kernel
theorem dX3_reachedBefore_33 : decode cX3_reachedBefore 33 = .ok (.istore 5, 2) := by decide +kernel
theorem dX3_reachedBefore_35 : decode cX3_reachedBefore 35 = .ok (.aload_n 0, 1) := by decide +kernel
theorem dX3_reachedBefore_36 : decode cX3_reachedBefore 36 = .ok (.getfield 24, 3) := by decide +kernel
theorem dX3_reachedBefore_39 : decode cX3_reachedBefore 39 = .ok (.iload 5, 2) := by decide +kernel
theorem dX3_reachedBefore_41 : decode cX3_reachedBefore 41 = .ok (.iaload, 1) := by decide +kernel
theorem dX3_reachedBefore_42 : decode cX3_reachedBefore 42 = .ok (.iload 4, 2) := by decide +kernel
theorem dX3_reachedBefore_44 : decode cX3_reachedBefore 44 = .ok (.if_icmp .ne 16, 3) := by decide +kernel
theorem dX3_reachedBefore_47 : decode cX3_reachedBefore 47 = .ok (.aload_n 0, 1) := by decide +kernel
theorem dX3_reachedBefore_48 : decode cX3_reachedBefore 48 = .ok (.getfield 27, 3) := by decide +kernel
theorem dX3_reachedBefore_51 : decode cX3_reachedBefore 51 = .ok (.iload 5, 2) := by decide +kernel
theorem dX3_reachedBefore_53 : decode cX3_reachedBefore 53 = .ok (.iaload, 1) := by decide +kernel
theorem dX3_reachedBefore_54 : decode cX3_reachedBefore 54 = .ok (.iload_n 3, 1) := by decide +kernel
theorem dX3_reachedBefore_55 : decode cX3_reachedBefore 55 = .ok (.if_icmp .lt 5, 3) := by decide +kernel
theorem dX3_reachedBefore_58 : decode cX3_reachedBefore 58 = .ok (.iconst 1, 1) := by decide +kernel
theorem dX3_reachedBefore_59 : decode cX3_reachedBefore 59 = .ok (.ireturn, 1) := by decide +kernel
theorem dX3_reachedBefore_60 : decode cX3_reachedBefore 60 = .ok (.aload_n 0, 1) := by decide +kernel
theorem dX3_reachedBefore_61 : decode cX3_reachedBefore 61 = .ok (.getfield 24, 3) := by decide +kernel
theorem dX3_reachedBefore_64 : decode cX3_reachedBefore 64 = .ok (.iload 5, 2) := by decide +kernel
theorem dX3_reachedBefore_66 : decode cX3_reachedBefore 66 = .ok (.iload 4, 2) := by decide +kernel
theorem dX3_reachedBefore_68 : decode cX3_reachedBefore 68 = .ok (.iastore, 1) := by decide +kernel
theorem dX3_reachedBefore_69 : decode cX3_reachedBefore 69 = .ok (.aload_n 0, 1) := by decide +kernel
theorem dX3_reachedBefore_70 : decode cX3_reachedBefore 70 = .ok (.getfield 27, 3) := by decide +kernel
theorem dX3_reachedBefore_73 : decode cX3_reachedBefore 73 = .ok (.iload 5, 2) := by decide +kernel
theorem dX3_reachedBefore_75 : decode cX3_reachedBefore 75 = .ok (.iload_n 3, 1) := by decide +kernel
theorem dX3_reachedBefore_76 : decode cX3_reachedBefore 76 = .ok (.iastore, 1) := by decide +kernel
theorem dX3_reachedBefore_77 : decode cX3_reachedBefore 77 = .ok (.iconst 0, 1) := by decide +kernel
theorem dX3_reachedBefore_78 : decode cX3_reachedBefore 78 = .ok (.ireturn, 1) := by decide +kernel
theorem dX3_hope_0 : decode cX3_hope 0 = .ok (.iconst 0, 1) := by decide +kernel
theorem dX3_hope_1 : decode cX3_hope 1 = .ok (.istore_n 3, 1) := by decide +kernel
theorem dX3_hope_2 : decode cX3_hope 2 = .ok (.iconst 0, 1) := by decide +kernel
theorem dX3_hope_3 : decode cX3_hope 3 = .ok (.istore 4, 2) := by decide +kernel
theorem dX3_hope_5 : decode cX3_hope 5 = .ok (.iload 4, 2) := by decide +kernel
theorem dX3_hope_7 : decode cX3_hope 7 = .ok (.aload_n 0, 1) := by decide +kernel
theorem dX3_hope_8 : decode cX3_hope 8 = .ok (.getfield 62, 3) := by decide +kernel
theorem dX3_hope_11 : decode cX3_hope 11 = .ok (.if_icmp .ge 49, 3) := by decide +kernel
theorem dX3_hope_14 : decode cX3_hope 14 = .ok (.iload_n 2, 1) := by decide +kernel
theorem dX3_hope_15 : decode cX3_hope 15 = .ok (.iload 4, 2) := by decide +kernel
theorem dX3_hope_17 : decode cX3_hope 17 = .ok (.ishr, 1) := by decide +kernel
theorem dX3_hope_18 : decode cX3_hope 18 = .ok (.iconst 1, 1) := by decide +kernel
theorem dX3_hope_19 : decode cX3_hope 19 = .ok (.iand, 1) := by decide +kernel
theorem dX3_hope_20 : decode cX3_hope 20 = .ok (.ifCond .ne 34, 3) := by decide +kernel
theorem dX3_hope_23 : decode cX3_hope 23 = .ok (.iload_n 1, 1) := by decide +kernel
theorem dX3_hope_24 : decode cX3_hope 24 = .ok (.aload_n 0, 1) := by decide +kernel
theorem dX3_hope_25 : decode cX3_hope 25 = .ok (.getfield 90, 3) := by decide +kernel
theorem dX3_hope_28 : decode cX3_hope 28 = .ok (.iload 4, 2) := by decide +kernel
theorem dX3_hope_30 : decode cX3_hope 30 = .ok (.iaload, 1) := by decide +kernel
theorem dX3_hope_31 : decode cX3_hope 31 = .ok (.iadd, 1) := by decide +kernel
theorem dX3_hope_32 : decode cX3_hope 32 = .ok (.iconst 1, 1) := by decide +kernel
theorem dX3_hope_33 : decode cX3_hope 33 = .ok (.isub, 1) := by decide +kernel
theorem dX3_hope_34 : decode cX3_hope 34 = .ok (.aload_n 0, 1) := by decide +kernel
theorem dX3_hope_35 : decode cX3_hope 35 = .ok (.getfield 93, 3) := by decide +kernel
theorem dX3_hope_38 : decode cX3_hope 38 = .ok (.iload 4, 2) := by decide +kernel
theorem dX3_hope_40 : decode cX3_hope 40 = .ok (.iaload, 1) := by decide +kernel
theorem dX3_hope_41 : decode cX3_hope 41 = .ok (.if_icmp .gt 13, 3) := by decide +kernel
theorem dX3_hope_44 : decode cX3_hope 44 = .ok (.iload_n 3, 1) := by decide +kernel
theorem dX3_hope_45 : decode cX3_hope 45 = .ok (.aload_n 0, 1) := by decide +kernel
theorem dX3_hope_46 : decode cX3_hope 46 = .ok (.getfield 81, 3) := by decide +kernel
theorem dX3_hope_49 : decode cX3_hope 49 = .ok (.iload 4, 2) := by decide +kernel
theorem dX3_hope_51 : decode cX3_hope 51 = .ok (.iaload, 1) := by decide +kernel
theorem dX3_hope_52 : decode cX3_hope 52 = .ok (.iadd, 1) := by decide +kernel
theorem dX3_hope_53 : decode cX3_hope 53 = .ok (.istore_n 3, 1) := by decide +kernel
theorem dX3_hope_54 : decode cX3_hope 54 = .ok (.iinc 4 1, 3) := by decide +kernel
theorem dX3_hope_57 : decode cX3_hope 57 = .ok (.goto (-52), 3) := by decide +kernel
theorem dX3_hope_60 : decode cX3_hope 60 = .ok (.iload_n 3, 1) := by decide +kernel
theorem dX3_hope_61 : decode cX3_hope 61 = .ok (.ireturn, 1) := by decide +kernel
theorem dX3_grind_0 : decode cX3_grind 0 = .ok (.aload_n 0, 1) := by decide +kernel
theorem dX3_grind_1 : decode cX3_grind 1 = .ok (.getfield 11, 3) := by decide +kernel
theorem dX3_grind_4 : decode cX3_grind 4 = .ok (.iload_n 2, 1) := by decide +kernel
theorem dX3_grind_5 : decode cX3_grind 5 = .ok (.iconst 1, 1) := by decide +kernel
theorem dX3_grind_6 : decode cX3_grind 6 = .ok (.iadd, 1) := by decide +kernel
theorem dX3_grind_7 : decode cX3_grind 7 = .ok (.aaload, 1) := by decide +kernel
theorem dX3_grind_8 : decode cX3_grind 8 = .ok (.astore 4, 2) := by decide +kernel
theorem dX3_grind_10 : decode cX3_grind 10 = .ok (.aload 4, 2) := by decide +kernel
theorem dX3_grind_12 : decode cX3_grind 12 = .ok (.aload_n 0, 1) := by decide +kernel
theorem dX3_grind_13 : decode cX3_grind 13 = .ok (.getfield 11, 3) := by decide +kernel
theorem dX3_grind_16 : decode cX3_grind 16 = .ok (.iload_n 2, 1) := by decide +kernel
theorem dX3_grind_17 : decode cX3_grind 17 = .ok (.aaload, 1) := by decide +kernel
theorem dX3_grind_18 : decode cX3_grind 18 = .ok (.invokevirtual 96, 3) := by decide +kernel
theorem dX3_grind_21 : decode cX3_grind 21 = .ok (.aload_n 1, 1) := by decide +kernel
theorem dX3_grind_22 : decode cX3_grind 22 = .ok (.getfield 49, 3) := by decide +kernel
theorem dX3_grind_25 : decode cX3_grind 25 = .ok (.getfield 90, 3) := by decide +kernel
theorem dX3_grind_28 : decode cX3_grind 28 = .ok (.iload_n 3, 1) := by decide +kernel
theorem dX3_grind_29 : decode cX3_grind 29 = .ok (.iaload, 1) := by decide +kernel
theorem dX3_grind_30 : decode cX3_grind 30 = .ok (.istore 5, 2) := by decide +kernel
theorem dX3_grind_32 : decode cX3_grind 32 = .ok (.aload 4, 2) := by decide +kernel
theorem dX3_grind_34 : decode cX3_grind 34 = .ok (.getfield 55, 3) := by decide +kernel
theorem dX3_grind_37 : decode cX3_grind 37 = .ok (.istore 6, 2) := by decide +kernel
theorem dX3_grind_39 : decode cX3_grind 39 = .ok (.iload 5, 2) := by decide +kernel
theorem dX3_grind_41 : decode cX3_grind 41 = .ok (.ifCond .le 37, 3) := by decide +kernel
theorem dX3_grind_44 : decode cX3_grind 44 = .ok (.iload 6, 2) := by decide +kernel
theorem dX3_grind_46 : decode cX3_grind 46 = .ok (.bipush 40, 2) := by decide +kernel
theorem dX3_grind_48 : decode cX3_grind 48 = .ok (.if_icmp .ge 30, 3) := by decide +kernel
theorem dX3_grind_51 : decode cX3_grind 51 = .ok (.aload 4, 2) := by decide +kernel
theorem dX3_grind_53 : decode cX3_grind 53 = .ok (.aload_n 1, 1) := by decide +kernel
theorem dX3_grind_54 : decode cX3_grind 54 = .ok (.aload_n 1, 1) := by decide +kernel
theorem dX3_grind_55 : decode cX3_grind 55 = .ok (.getfield 49, 3) := by decide +kernel
theorem dX3_grind_58 : decode cX3_grind 58 = .ok (.getfield 100, 3) := by decide +kernel
theorem dX3_grind_61 : decode cX3_grind 61 = .ok (.iload_n 3, 1) := by decide +kernel
theorem dX3_grind_62 : decode cX3_grind 62 = .ok (.iaload, 1) := by decide +kernel
theorem dX3_grind_63 : decode cX3_grind 63 = .ok (.invokevirtual 103, 3) := by decide +kernel
theorem dX3_grind_66 : decode cX3_grind 66 = .ok (.ifCond .eq 6, 3) := by decide +kernel
theorem dX3_grind_69 : decode cX3_grind 69 = .ok (.iinc 5 (-1), 3) := by decide +kernel
theorem dX3_grind_72 : decode cX3_grind 72 = .ok (.iinc 6 1, 3) := by decide +kernel
theorem dX3_grind_75 : decode cX3_grind 75 = .ok (.goto (-36), 3) := by decide +kernel
theorem dX3_grind_78 : decode cX3_grind 78 = .ok (.iload 5, 2) := by decide +kernel
theorem dX3_grind_80 : decode cX3_grind 80 = .ok (.ifCond .ne 26, 3) := by decide +kernel
theorem dX3_grind_83 : decode cX3_grind 83 = .ok (.aload 4, 2) := by decide +kernel
theorem dX3_grind_85 : decode cX3_grind 85 = .ok (.getfield 55, 3) := by decide +kernel
theorem dX3_grind_88 : decode cX3_grind 88 = .ok (.iconst 1, 1) := by decide +kernel
theorem dX3_grind_89 : decode cX3_grind 89 = .ok (.isub, 1) := by decide +kernel
theorem dX3_grind_90 : decode cX3_grind 90 = .ok (.aload_n 1, 1) := by decide +kernel
theorem dX3_grind_91 : decode cX3_grind 91 = .ok (.getfield 49, 3) := by decide +kernel
theorem dX3_grind_94 : decode cX3_grind 94 = .ok (.getfield 93, 3) := by decide +kernel
theorem dX3_grind_97 : decode cX3_grind 97 = .ok (.iload_n 3, 1) := by decide +kernel
theorem dX3_grind_98 : decode cX3_grind 98 = .ok (.iaload, 1) := by decide +kernel
theorem dX3_grind_99 : decode cX3_grind 99 = .ok (.if_icmp .gt 7, 3) := by decide +kernel
theorem dX3_grind_102 : decode cX3_grind 102 = .ok (.iconst 1, 1) := by decide +kernel
theorem dX3_grind_103 : decode cX3_grind 103 = .ok (.goto 4, 3) := by decide +kernel
theorem dX3_grind_106 : decode cX3_grind 106 = .ok (.iconst 0, 1) := by decide +kernel
theorem dX3_grind_107 : decode cX3_grind 107 = .ok (.ireturn, 1) := by decide +kernel
theorem dX4_init_0 : decode cX4_init 0 = .ok (.aload_n 0, 1) := by decide +kernel
theorem dX4_init_1 : decode cX4_init 1 = .ok (.invokespecial 3, 3) := by decide +kernel
theorem dX4_init_4 : decode cX4_init 4 = .ok (.return_, 1) := by decide +kernel
theorem dX4_begin_0 : decode cX4_begin 0 = .ok (.aload_n 0, 1) := by decide +kernel
theorem dX4_begin_1 : decode cX4_begin 1 = .ok (.iconst 0, 1) := by decide +kernel
theorem dX4_begin_2 : decode cX4_begin 2 = .ok (.putfield 9, 3) := by decide +kernel
theorem dX4_begin_5 : decode cX4_begin 5 = .ok (.aload_n 0, 1) := by decide +kernel
theorem dX4_begin_6 : decode cX4_begin 6 = .ok (.aload_n 1, 1) := by decide +kernel
theorem dX4_begin_7 : decode cX4_begin 7 = .ok (.getfield 15, 3) := by decide +kernel
theorem dX4_begin_10 : decode cX4_begin 10 = .ok (.iconst 0, 1) := by decide +kernel
theorem dX4_begin_11 : decode cX4_begin 11 = .ok (.iaload, 1) := by decide +kernel
theorem dX4_begin_12 : decode cX4_begin 12 = .ok (.putfield 21, 3) := by decide +kernel
theorem dX4_begin_15 : decode cX4_begin 15 = .ok (.aload_n 0, 1) := by decide +kernel
theorem dX4_begin_16 : decode cX4_begin 16 = .ok (.iconst 0, 1) := by decide +kernel
theorem dX4_begin_17 : decode cX4_begin 17 = .ok (.putfield 24, 3) := by decide +kernel
theorem dX4_begin_20 : decode cX4_begin 20 = .ok (.aload_n 0, 1) := by decide +kernel
theorem dX4_begin_21 : decode cX4_begin 21 = .ok (.iconst 0, 1) := by decide +kernel
theorem dX4_begin_22 : decode cX4_begin 22 = .ok (.putfield 27, 3) := by decide +kernel
theorem dX4_begin_25 : decode cX4_begin 25 = .ok (.return_, 1) := by decide +kernel
theorem dX4_becomeLike_0 : decode cX4_becomeLike 0 = .ok (.aload_n 0, 1) := by decide +kernel
theorem dX4_becomeLike_1 : decode cX4_becomeLike 1 = .ok (.aload_n 1, 1) := by decide +kernel
theorem dX4_becomeLike_2 : decode cX4_becomeLike 2 = .ok (.getfield 9, 3) := by decide +kernel
theorem dX4_becomeLike_5 : decode cX4_becomeLike 5 = .ok (.putfield 9, 3) := by decide +kernel
theorem dX4_becomeLike_8 : decode cX4_becomeLike 8 = .ok (.aload_n 0, 1) := by decide +kernel
theorem dX4_becomeLike_9 : decode cX4_becomeLike 9 = .ok (.aload_n 1, 1) := by decide +kernel
theorem dX4_becomeLike_10 : decode cX4_becomeLike 10 = .ok (.getfield 21, 3) := by decide +kernel
theorem dX4_becomeLike_13 : decode cX4_becomeLike 13 = .ok (.putfield 21, 3) := by decide +kernel
theorem dX4_becomeLike_16 : decode cX4_becomeLike 16 = .ok (.aload_n 0, 1) := by decide +kernel
theorem dX4_becomeLike_17 : decode cX4_becomeLike 17 = .ok (.aload_n 1, 1) := by decide +kernel
theorem dX4_becomeLike_18 : decode cX4_becomeLike 18 = .ok (.getfield 24, 3) := by decide +kernel
theorem dX4_becomeLike_21 : decode cX4_becomeLike 21 = .ok (.putfield 24, 3) := by decide +kernel
theorem dX4_becomeLike_24 : decode cX4_becomeLike 24 = .ok (.aload_n 0, 1) := by decide +kernel
theorem dX4_becomeLike_25 : decode cX4_becomeLike 25 = .ok (.aload_n 1, 1) := by decide +kernel
theorem dX4_becomeLike_26 : decode cX4_becomeLike 26 = .ok (.getfield 27, 3) := by decide +kernel
theorem dX4_becomeLike_29 : decode cX4_becomeLike 29 = .ok (.putfield 27, 3) := by decide +kernel
theorem dX4_becomeLike_32 : decode cX4_becomeLike 32 = .ok (.return_, 1) := by decide +kernel
theorem dX4_pass_0 : decode cX4_pass 0 = .ok (.aload_n 0, 1) := by decide +kernel
theorem dX4_pass_1 : decode cX4_pass 1 = .ok (.getfield 9, 3) := by decide +kernel
theorem dX4_pass_4 : decode cX4_pass 4 = .ok (.ifCond .lt 12, 3) := by decide +kernel
theorem dX4_pass_7 : decode cX4_pass 7 = .ok (.aload_n 0, 1) := by decide +kernel
theorem dX4_pass_8 : decode cX4_pass 8 = .ok (.getfield 9, 3) := by decide +kernel
theorem dX4_pass_11 : decode cX4_pass 11 = .ok (.bipush 40, 2) := by decide +kernel
theorem dX4_pass_13 : decode cX4_pass 13 = .ok (.if_icmp .lt 5, 3) := by decide +kernel
theorem dX4_pass_16 : decode cX4_pass 16 = .ok (.iconst 0, 1) := by decide +kernel
theorem dX4_pass_17 : decode cX4_pass 17 = .ok (.ireturn, 1) := by decide +kernel
theorem dX4_pass_18 : decode cX4_pass 18 = .ok (.aload_n 1, 1) := by decide +kernel
theorem dX4_pass_19 : decode cX4_pass 19 = .ok (.getfield 30, 3) := by decide +kernel
theorem dX4_pass_22 : decode cX4_pass 22 = .ok (.aload_n 0, 1) := by decide +kernel
theorem dX4_pass_23 : decode cX4_pass 23 = .ok (.getfield 9, 3) := by decide +kernel
theorem dX4_pass_26 : decode cX4_pass 26 = .ok (.iaload, 1) := by decide +kernel
theorem dX4_pass_27 : decode cX4_pass 27 = .ok (.istore_n 3, 1) := by decide +kernel
theorem dX4_pass_28 : decode cX4_pass 28 = .ok (.aload_n 0, 1) := by decide +kernel
theorem dX4_pass_29 : decode cX4_pass 29 = .ok (.dup, 1) := by decide +kernel
theorem dX4_pass_30 : decode cX4_pass 30 = .ok (.getfield 21, 3) := by decide +kernel
theorem dX4_pass_33 : decode cX4_pass 33 = .ok (.iload_n 3, 1) := by decide +kernel
theorem dX4_pass_34 : decode cX4_pass 34 = .ok (.aload_n 0, 1) := by decide +kernel
theorem dX4_pass_35 : decode cX4_pass 35 = .ok (.getfield 21, 3) := by decide +kernel
theorem dX4_pass_38 : decode cX4_pass 38 = .ok (.isub, 1) := by decide +kernel
theorem dX4_pass_39 : decode cX4_pass 39 = .ok (.iconst 0, 1) := by decide +kernel
theorem dX4_pass_40 : decode cX4_pass 40 = .ok (.invokestatic 33, 3) := by decide +kernel
theorem dX4_pass_43 : decode cX4_pass 43 = .ok (.aload_n 1, 1) := by decide +kernel
theorem dX4_pass_44 : decode cX4_pass 44 = .ok (.getfield 15, 3) := by decide +kernel
theorem dX4_pass_47 : decode cX4_pass 47 = .ok (.iconst 1, 1) := by decide +kernel
theorem dX4_pass_48 : decode cX4_pass 48 = .ok (.iaload, 1) := by decide +kernel
theorem dX4_pass_49 : decode cX4_pass 49 = .ok (.invokestatic 39, 3) := by decide +kernel
theorem dX4_pass_52 : decode cX4_pass 52 = .ok (.iconst 3, 1) := by decide +kernel
theorem dX4_pass_53 : decode cX4_pass 53 = .ok (.aload_n 1, 1) := by decide +kernel
theorem dX4_pass_54 : decode cX4_pass 54 = .ok (.getfield 42, 3) := by decide +kernel
theorem dX4_pass_57 : decode cX4_pass 57 = .ok (.aload_n 0, 1) := by decide +kernel
theorem dX4_pass_58 : decode cX4_pass 58 = .ok (.getfield 9, 3) := by decide +kernel
theorem dX4_pass_61 : decode cX4_pass 61 = .ok (.iaload, 1) := by decide +kernel
theorem dX4_pass_62 : decode cX4_pass 62 = .ok (.imul, 1) := by decide +kernel
theorem dX4_pass_63 : decode cX4_pass 63 = .ok (.iadd, 1) := by decide +kernel
theorem dX4_pass_64 : decode cX4_pass 64 = .ok (.iadd, 1) := by decide +kernel
theorem dX4_pass_65 : decode cX4_pass 65 = .ok (.putfield 21, 3) := by decide +kernel
theorem dX4_pass_68 : decode cX4_pass 68 = .ok (.aload_n 0, 1) := by decide +kernel
theorem dX4_pass_69 : decode cX4_pass 69 = .ok (.getfield 21, 3) := by decide +kernel
theorem dX4_pass_72 : decode cX4_pass 72 = .ok (.bipush 20, 2) := by decide +kernel
theorem dX4_pass_74 : decode cX4_pass 74 = .ok (.if_icmp .le 25, 3) := by decide +kernel
theorem dX4_pass_77 : decode cX4_pass 77 = .ok (.aload_n 0, 1) := by decide +kernel
theorem dX4_pass_78 : decode cX4_pass 78 = .ok (.dup, 1) := by decide +kernel
theorem dX4_pass_79 : decode cX4_pass 79 = .ok (.getfield 27, 3) := by decide +kernel
theorem dX4_pass_82 : decode cX4_pass 82 = .ok (.aload_n 0, 1) := by decide +kernel
theorem dX4_pass_83 : decode cX4_pass 83 = .ok (.getfield 21, 3) := by decide +kernel
theorem dX4_pass_86 : decode cX4_pass 86 = .ok (.bipush 20, 2) := by decide +kernel
theorem dX4_pass_88 : decode cX4_pass 88 = .ok (.isub, 1) := by decide +kernel
theorem dX4_pass_89 : decode cX4_pass 89 = .ok (.iadd, 1) := by decide +kernel
theorem dX4_pass_90 : decode cX4_pass 90 = .ok (.putfield 27, 3) := by decide +kernel
theorem dX4_pass_93 : decode cX4_pass 93 = .ok (.aload_n 0, 1) := by decide +kernel
theorem dX4_pass_94 : decode cX4_pass 94 = .ok (.bipush 20, 2) := by decide +kernel
theorem dX4_pass_96 : decode cX4_pass 96 = .ok (.putfield 21, 3) := by decide +kernel
theorem dX4_pass_99 : decode cX4_pass 99 = .ok (.aload_n 0, 1) := by decide +kernel
theorem dX4_pass_100 : decode cX4_pass 100 = .ok (.aload_n 0, 1) := by decide +kernel
theorem dX4_pass_101 : decode cX4_pass 101 = .ok (.getfield 21, 3) := by decide +kernel
theorem dX4_pass_104 : decode cX4_pass 104 = .ok (.aload_n 1, 1) := by decide +kernel
theorem dX4_pass_105 : decode cX4_pass 105 = .ok (.getfield 15, 3) := by decide +kernel
theorem dX4_pass_108 : decode cX4_pass 108 = .ok (.iconst 2, 1) := by decide +kernel
theorem dX4_pass_109 : decode cX4_pass 109 = .ok (.iaload, 1) := by decide +kernel
theorem dX4_pass_110 : decode cX4_pass 110 = .ok (.isub, 1) := by decide +kernel
theorem dX4_pass_111 : decode cX4_pass 111 = .ok (.iconst 0, 1) := by decide +kernel
theorem dX4_pass_112 : decode cX4_pass 112 = .ok (.invokestatic 33, 3) := by decide +kernel
theorem dX4_pass_115 : decode cX4_pass 115 = .ok (.putfield 21, 3) := by decide +kernel
theorem dX4_pass_118 : decode cX4_pass 118 = .ok (.aload_n 1, 1) := by decide +kernel
theorem dX4_pass_119 : decode cX4_pass 119 = .ok (.getfield 45, 3) := by decide +kernel
theorem dX4_pass_122 : decode cX4_pass 122 = .ok (.aload_n 0, 1) := by decide +kernel
theorem dX4_pass_123 : decode cX4_pass 123 = .ok (.getfield 9, 3) := by decide +kernel
theorem dX4_pass_126 : decode cX4_pass 126 = .ok (.iaload, 1) := by decide +kernel
theorem dX4_pass_127 : decode cX4_pass 127 = .ok (.ifCond .le 7, 3) := by decide +kernel
theorem dX4_pass_130 : decode cX4_pass 130 = .ok (.iconst 1, 1) := by decide +kernel
theorem dX4_pass_131 : decode cX4_pass 131 = .ok (.goto 4, 3) := by decide +kernel
theorem dX4_pass_134 : decode cX4_pass 134 = .ok (.iconst 0, 1) := by decide +kernel
theorem dX4_pass_135 : decode cX4_pass 135 = .ok (.istore 4, 2) := by decide +kernel
theorem dX4_pass_137 : decode cX4_pass 137 = .ok (.aload_n 0, 1) := by decide +kernel
theorem dX4_pass_138 : decode cX4_pass 138 = .ok (.dup, 1) := by decide +kernel
theorem dX4_pass_139 : decode cX4_pass 139 = .ok (.getfield 9, 3) := by decide +kernel
theorem dX4_pass_142 : decode cX4_pass 142 = .ok (.iconst 1, 1) := by decide +kernel
theorem dX4_pass_143 : decode cX4_pass 143 = .ok (.iadd, 1) := by decide +kernel
theorem dX4_pass_144 : decode cX4_pass 144 = .ok (.putfield 9, 3) := by decide +kernel
theorem dX4_pass_147 : decode cX4_pass 147 = .ok (.iload 4, 2) := by decide +kernel
theorem dX4_pass_149 : decode cX4_pass 149 = .ok (.ifCond .eq 10, 3) := by decide +kernel
theorem dX4_pass_152 : decode cX4_pass 152 = .ok (.aload_n 0, 1) := by decide +kernel
theorem dX4_pass_153 : decode cX4_pass 153 = .ok (.iconst 0, 1) := by decide +kernel
theorem dX4_pass_154 : decode cX4_pass 154 = .ok (.putfield 24, 3) := by decide +kernel
theorem dX4_pass_157 : decode cX4_pass 157 = .ok (.iconst 0, 1) := by decide +kernel
theorem dX4_pass_158 : decode cX4_pass 158 = .ok (.ireturn, 1) := by decide +kernel
theorem dX4_pass_159 : decode cX4_pass 159 = .ok (.iload_n 2, 1) := by decide +kernel
theorem dX4_pass_160 : decode cX4_pass 160 = .ok (.iconst (-1), 1) := by decide +kernel
theorem dX4_pass_161 : decode cX4_pass 161 = .ok (.if_icmp .eq 30, 3) := by decide +kernel
theorem dX4_pass_164 : decode cX4_pass 164 = .ok (.aload_n 0, 1) := by decide +kernel
theorem dX4_pass_165 : decode cX4_pass 165 = .ok (.getfield 21, 3) := by decide +kernel
theorem dX4_pass_168 : decode cX4_pass 168 = .ok (.iload_n 3, 1) := by decide +kernel
theorem dX4_pass_169 : decode cX4_pass 169 = .ok (.isub, 1) := by decide +kernel
theorem dX4_pass_170 : decode cX4_pass 170 = .ok (.aload_n 1, 1) := by decide +kernel
theorem dX4_pass_171 : decode cX4_pass 171 = .ok (.getfield 15, 3) := by decide +kernel
theorem dX4_pass_174 : decode cX4_pass 174 = .ok (.iconst 3, 1) := by decide +kernel
theorem dX4_pass_175 : decode cX4_pass 175 = .ok (.iaload, 1) := by decide +kernel
theorem dX4_pass_176 : decode cX4_pass 176 = .ok (.getstatic 48, 3) := by decide +kernel
theorem dX4_pass_179 : decode cX4_pass 179 = .ok (.iload_n 2, 1) := by decide +kernel
theorem dX4_pass_180 : decode cX4_pass 180 = .ok (.iaload, 1) := by decide +kernel
theorem dX4_pass_181 : decode cX4_pass 181 = .ok (.iadd, 1) := by decide +kernel
theorem dX4_pass_182 : decode cX4_pass 182 = .ok (.aload_n 0, 1) := by decide +kernel
theorem dX4_pass_183 : decode cX4_pass 183 = .ok (.aload_n 1, 1) := by decide +kernel
theorem dX4_pass_184 : decode cX4_pass 184 = .ok (.invokevirtual 51, 3) := by decide +kernel
theorem dX4_pass_187 : decode cX4_pass 187 = .ok (.iadd, 1) := by decide +kernel
theorem dX4_pass_188 : decode cX4_pass 188 = .ok (.if_icmp .ge 5, 3) := by decide +kernel
theorem dX4_pass_191 : decode cX4_pass 191 = .ok (.iconst 0, 1) := by decide +kernel
theorem dX4_pass_192 : decode cX4_pass 192 = .ok (.ireturn, 1) := by decide +kernel
theorem dX4_pass_193 : decode cX4_pass 193 = .ok (.aload_n 0, 1) := by decide +kernel
theorem dX4_pass_194 : decode cX4_pass 194 = .ok (.aload_n 0, 1) := by decide +kernel
theorem dX4_pass_195 : decode cX4_pass 195 = .ok (.getfield 21, 3) := by decide +kernel
theorem dX4_pass_198 : decode cX4_pass 198 = .ok (.getstatic 55, 3) := by decide +kernel
theorem dX4_pass_201 : decode cX4_pass 201 = .ok (.iload_n 2, 1) := by decide +kernel
theorem dX4_pass_202 : decode cX4_pass 202 = .ok (.iaload, 1) := by decide +kernel
theorem dX4_pass_203 : decode cX4_pass 203 = .ok (.isub, 1) := by decide +kernel
theorem dX4_pass_204 : decode cX4_pass 204 = .ok (.iconst 0, 1) := by decide +kernel
theorem dX4_pass_205 : decode cX4_pass 205 = .ok (.invokestatic 33, 3) := by decide +kernel
theorem dX4_pass_208 : decode cX4_pass 208 = .ok (.putfield 21, 3) := by decide +kernel
theorem dX4_pass_211 : decode cX4_pass 211 = .ok (.aload_n 0, 1) := by decide +kernel
theorem dX4_pass_212 : decode cX4_pass 212 = .ok (.dup, 1) := by decide +kernel
theorem dX4_pass_213 : decode cX4_pass 213 = .ok (.getfield 24, 3) := by decide +kernel
theorem dX4_pass_216 : decode cX4_pass 216 = .ok (.iconst 1, 1) := by decide +kernel
theorem dX4_pass_217 : decode cX4_pass 217 = .ok (.iadd, 1) := by decide +kernel
theorem dX4_pass_218 : decode cX4_pass 218 = .ok (.putfield 24, 3) := by decide +kernel
theorem dX4_pass_221 : decode cX4_pass 221 = .ok (.iconst 1, 1) := by decide +kernel
theorem dX4_pass_222 : decode cX4_pass 222 = .ok (.ireturn, 1) := by decide +kernel
theorem dX4_dullness_0 : decode cX4_dullness 0 = .ok (.aload_n 1, 1) := by decide +kernel
theorem dX4_dullness_1 : decode cX4_dullness 1 = .ok (.getfield 15, 3) := by decide +kernel
theorem dX4_dullness_4 : decode cX4_dullness 4 = .ok (.iconst 4, 1) := by decide +kernel
theorem dX4_dullness_5 : decode cX4_dullness 5 = .ok (.iaload, 1) := by decide +kernel
theorem dX4_dullness_6 : decode cX4_dullness 6 = .ok (.istore_n 2, 1) := by decide +kernel
theorem dX4_dullness_7 : decode cX4_dullness 7 = .ok (.iload_n 2, 1) := by decide +kernel
theorem dX4_dullness_8 : decode cX4_dullness 8 = .ok (.ifCond .le 12, 3) := by decide +kernel
theorem dX4_dullness_11 : decode cX4_dullness 11 = .ok (.aload_n 0, 1) := by decide +kernel
theorem dX4_dullness_12 : decode cX4_dullness 12 = .ok (.getfield 24, 3) := by decide +kernel
theorem dX4_dullness_15 : decode cX4_dullness 15 = .ok (.iload_n 2, 1) := by decide +kernel
theorem dX4_dullness_16 : decode cX4_dullness 16 = .ok (.idiv, 1) := by decide +kernel
theorem dX4_dullness_17 : decode cX4_dullness 17 = .ok (.goto 4, 3) := by decide +kernel
theorem dX4_dullness_20 : decode cX4_dullness 20 = .ok (.iconst 0, 1) := by decide +kernel
theorem dX4_dullness_21 : decode cX4_dullness 21 = .ok (.ireturn, 1) := by decide +kernel
theorem dX5_init_0 : decode cX5_init 0 = .ok (.aload_n 0, 1) := by decide +kernel
theorem dX5_init_1 : decode cX5_init 1 = .ok (.invokespecial 3, 3) := by decide +kernel
theorem dX5_init_4 : decode cX5_init 4 = .ok (.aload_n 0, 1) := by decide +kernel
theorem dX5_init_5 : decode cX5_init 5 = .ok (.new 9, 3) := by decide +kernel
theorem dX5_init_8 : decode cX5_init 8 = .ok (.dup, 1) := by decide +kernel
theorem dX5_init_9 : decode cX5_init 9 = .ok (.invokespecial 11, 3) := by decide +kernel
theorem dX5_init_12 : decode cX5_init 12 = .ok (.putfield 12, 3) := by decide +kernel
theorem dX5_init_15 : decode cX5_init 15 = .ok (.aload_n 0, 1) := by decide +kernel
theorem dX5_init_16 : decode cX5_init 16 = .ok (.bipush 40, 2) := by decide +kernel
theorem dX5_init_18 : decode cX5_init 18 = .ok (.newarray .int, 2) := by decide +kernel
theorem dX5_init_20 : decode cX5_init 20 = .ok (.putfield 18, 3) := by decide +kernel
theorem dX5_init_23 : decode cX5_init 23 = .ok (.aload_n 0, 1) := by decide +kernel
theorem dX5_init_24 : decode cX5_init 24 = .ok (.bipush 40, 2) := by decide +kernel
theorem dX5_init_26 : decode cX5_init 26 = .ok (.newarray .int, 2) := by decide +kernel
theorem dX5_init_28 : decode cX5_init 28 = .ok (.putfield 22, 3) := by decide +kernel
theorem dX5_init_31 : decode cX5_init 31 = .ok (.aload_n 0, 1) := by decide +kernel
theorem dX5_init_32 : decode cX5_init 32 = .ok (.bipush 40, 2) := by decide +kernel
theorem dX5_init_34 : decode cX5_init 34 = .ok (.newarray .int, 2) := by decide +kernel
theorem dX5_init_36 : decode cX5_init 36 = .ok (.putfield 25, 3) := by decide +kernel
theorem dX5_init_39 : decode cX5_init 39 = .ok (.aload_n 0, 1) := by decide +kernel
theorem dX5_init_40 : decode cX5_init 40 = .ok (.bipush 40, 2) := by decide +kernel
theorem dX5_init_42 : decode cX5_init 42 = .ok (.newarray .int, 2) := by decide +kernel
theorem dX5_init_44 : decode cX5_init 44 = .ok (.putfield 28, 3) := by decide +kernel
theorem dX5_init_47 : decode cX5_init 47 = .ok (.aload_n 0, 1) := by decide +kernel
theorem dX5_init_48 : decode cX5_init 48 = .ok (.bipush 40, 2) := by decide +kernel
theorem dX5_init_50 : decode cX5_init 50 = .ok (.newarray .int, 2) := by decide +kernel
theorem dX5_init_52 : decode cX5_init 52 = .ok (.putfield 31, 3) := by decide +kernel
theorem dX5_init_55 : decode cX5_init 55 = .ok (.aload_n 0, 1) := by decide +kernel
theorem dX5_init_56 : decode cX5_init 56 = .ok (.bipush 8, 2) := by decide +kernel
theorem dX5_init_58 : decode cX5_init 58 = .ok (.newarray .int, 2) := by decide +kernel
theorem dX5_init_60 : decode cX5_init 60 = .ok (.putfield 34, 3) := by decide +kernel
theorem dX5_init_63 : decode cX5_init 63 = .ok (.return_, 1) := by decide +kernel
theorem dX5_play_0 : decode cX5_play 0 = .ok (.aload_n 0, 1) := by decide +kernel
theorem dX5_play_1 : decode cX5_play 1 = .ok (.getfield 34, 3) := by decide +kernel
theorem dX5_play_4 : decode cX5_play 4 = .ok (.iconst (-1), 1) := by decide +kernel
theorem dX5_play_5 : decode cX5_play 5 = .ok (.invokestatic 37, 3) := by decide +kernel
theorem dX5_play_8 : decode cX5_play 8 = .ok (.aload_n 0, 1) := by decide +kernel
theorem dX5_play_9 : decode cX5_play 9 = .ok (.iconst 0, 1) := by decide +kernel
theorem dX5_play_10 : decode cX5_play 10 = .ok (.putfield 43, 3) := by decide +kernel
theorem dX5_play_13 : decode cX5_play 13 = .ok (.aload_n 0, 1) := by decide +kernel
theorem dX5_play_14 : decode cX5_play 14 = .ok (.getfield 12, 3) := by decide +kernel
theorem dX5_play_17 : decode cX5_play 17 = .ok (.aload_n 1, 1) := by decide +kernel
theorem dX5_play_18 : decode cX5_play 18 = .ok (.invokevirtual 47, 3) := by decide +kernel
theorem dX5_play_21 : decode cX5_play 21 = .ok (.iconst 0, 1) := by decide +kernel
theorem dX5_play_22 : decode cX5_play 22 = .ok (.istore_n 2, 1) := by decide +kernel
theorem dX5_play_23 : decode cX5_play 23 = .ok (.iconst 0, 1) := by decide +kernel
theorem dX5_play_24 : decode cX5_play 24 = .ok (.istore_n 3, 1) := by decide +kernel
theorem dX5_play_25 : decode cX5_play 25 = .ok (.iconst 0, 1) := by decide +kernel
theorem dX5_play_26 : decode cX5_play 26 = .ok (.istore 4, 2) := by decide +kernel
theorem dX5_play_28 : decode cX5_play 28 = .ok (.iconst 0, 1) := by decide +kernel
theorem dX5_play_29 : decode cX5_play 29 = .ok (.istore 5, 2) := by decide +kernel
theorem dX5_play_31 : decode cX5_play 31 = .ok (.iload 5, 2) := by decide +kernel
theorem dX5_play_33 : decode cX5_play 33 = .ok (.bipush 40, 2) := by decide +kernel
theorem dX5_play_35 : decode cX5_play 35 = .ok (.if_icmp .ge 208, 3) := by decide +kernel
theorem dX5_play_38 : decode cX5_play 38 = .ok (.iload_n 2, 1) := by decide +kernel
theorem dX5_play_39 : decode cX5_play 39 = .ok (.aload_n 1, 1) := by decide +kernel
theorem dX5_play_40 : decode cX5_play 40 = .ok (.getfield 51, 3) := by decide +kernel
theorem dX5_play_43 : decode cX5_play 43 = .ok (.if_icmp .ge 12, 3) := by decide +kernel
theorem dX5_play_46 : decode cX5_play 46 = .ok (.aload_n 1, 1) := by decide +kernel
theorem dX5_play_47 : decode cX5_play 47 = .ok (.getfield 56, 3) := by decide +kernel
theorem dX5_play_50 : decode cX5_play 50 = .ok (.iload_n 2, 1) := by decide +kernel
theorem dX5_play_51 : decode cX5_play 51 = .ok (.iaload, 1) := by decide +kernel
theorem dX5_play_52 : decode cX5_play 52 = .ok (.goto 4, 3) := by decide +kernel
theorem dX5_play_55 : decode cX5_play 55 = .ok (.iconst (-1), 1) := by decide +kernel
theorem dX5_play_56 : decode cX5_play 56 = .ok (.istore 6, 2) := by decide +kernel
theorem dX5_play_58 : decode cX5_play 58 = .ok (.aload_n 0, 1) := by decide +kernel
theorem dX5_play_59 : decode cX5_play 59 = .ok (.getfield 12, 3) := by decide +kernel
theorem dX5_play_62 : decode cX5_play 62 = .ok (.aload_n 1, 1) := by decide +kernel
theorem dX5_play_63 : decode cX5_play 63 = .ok (.iload 6, 2) := by decide +kernel
theorem dX5_play_65 : decode cX5_play 65 = .ok (.iconst (-1), 1) := by decide +kernel
theorem dX5_play_66 : decode cX5_play 66 = .ok (.if_icmp .ne 7, 3) := by decide +kernel
theorem dX5_play_69 : decode cX5_play 69 = .ok (.iconst (-1), 1) := by decide +kernel
theorem dX5_play_70 : decode cX5_play 70 = .ok (.goto 13, 3) := by decide +kernel
theorem dX5_play_73 : decode cX5_play 73 = .ok (.aload_n 1, 1) := by decide +kernel
theorem dX5_play_74 : decode cX5_play 74 = .ok (.getfield 59, 3) := by decide +kernel
theorem dX5_play_77 : decode cX5_play 77 = .ok (.getfield 63, 3) := by decide +kernel
theorem dX5_play_80 : decode cX5_play 80 = .ok (.iload 6, 2) := by decide +kernel
theorem dX5_play_82 : decode cX5_play 82 = .ok (.iaload, 1) := by decide +kernel
theorem dX5_play_83 : decode cX5_play 83 = .ok (.invokevirtual 68, 3) := by decide +kernel
theorem dX5_play_86 : decode cX5_play 86 = .ok (.istore 7, 2) := by decide +kernel
theorem dX5_play_88 : decode cX5_play 88 = .ok (.iload 7, 2) := by decide +kernel
theorem dX5_play_90 : decode cX5_play 90 = .ok (.ifCond .eq 9, 3) := by decide +kernel
theorem dX5_play_93 : decode cX5_play 93 = .ok (.iinc 4 1, 3) := by decide +kernel
theorem dX5_play_96 : decode cX5_play 96 = .ok (.iinc 3 1, 3) := by decide +kernel
theorem dX5_play_99 : decode cX5_play 99 = .ok (.iload 7, 2) := by decide +kernel
theorem dX5_play_101 : decode cX5_play 101 = .ok (.ifCond .eq 31, 3) := by decide +kernel
theorem dX5_play_104 : decode cX5_play 104 = .ok (.iload_n 3, 1) := by decide +kernel
theorem dX5_play_105 : decode cX5_play 105 = .ok (.aload_n 1, 1) := by decide +kernel
theorem dX5_play_106 : decode cX5_play 106 = .ok (.getfield 59, 3) := by decide +kernel
theorem dX5_play_109 : decode cX5_play 109 = .ok (.getfield 72, 3) := by decide +kernel
theorem dX5_play_112 : decode cX5_play 112 = .ok (.iload 6, 2) := by decide +kernel
theorem dX5_play_114 : decode cX5_play 114 = .ok (.iaload, 1) := by decide +kernel
theorem dX5_play_115 : decode cX5_play 115 = .ok (.if_icmp .ne 17, 3) := by decide +kernel
theorem dX5_play_118 : decode cX5_play 118 = .ok (.aload_n 0, 1) := by decide +kernel
theorem dX5_play_119 : decode cX5_play 119 = .ok (.getfield 34, 3) := by decide +kernel
theorem dX5_play_122 : decode cX5_play 122 = .ok (.iload 6, 2) := by decide +kernel
theorem dX5_play_124 : decode cX5_play 124 = .ok (.iload 5, 2) := by decide +kernel
theorem dX5_play_126 : decode cX5_play 126 = .ok (.iastore, 1) := by decide +kernel
theorem dX5_play_127 : decode cX5_play 127 = .ok (.iinc 2 1, 3) := by decide +kernel
theorem dX5_play_130 : decode cX5_play 130 = .ok (.iconst 0, 1) := by decide +kernel
theorem dX5_play_131 : decode cX5_play 131 = .ok (.istore_n 3, 1) := by decide +kernel
theorem dX5_play_132 : decode cX5_play 132 = .ok (.aload_n 0, 1) := by decide +kernel
theorem dX5_play_133 : decode cX5_play 133 = .ok (.getfield 25, 3) := by decide +kernel
theorem dX5_play_136 : decode cX5_play 136 = .ok (.iload 5, 2) := by decide +kernel
theorem dX5_play_138 : decode cX5_play 138 = .ok (.aload_n 1, 1) := by decide +kernel
theorem dX5_play_139 : decode cX5_play 139 = .ok (.getfield 73, 3) := by decide +kernel
theorem dX5_play_142 : decode cX5_play 142 = .ok (.iload 5, 2) := by decide +kernel
theorem dX5_play_144 : decode cX5_play 144 = .ok (.iaload, 1) := by decide +kernel
theorem dX5_play_145 : decode cX5_play 145 = .ok (.ifCond .le 7, 3) := by decide +kernel
theorem dX5_play_148 : decode cX5_play 148 = .ok (.iconst (-1), 1) := by decide +kernel
theorem dX5_play_149 : decode cX5_play 149 = .ok (.goto 5, 3) := by decide +kernel
theorem dX5_play_152 : decode cX5_play 152 = .ok (.iload 6, 2) := by decide +kernel
theorem dX5_play_154 : decode cX5_play 154 = .ok (.iastore, 1) := by decide +kernel
theorem dX5_play_155 : decode cX5_play 155 = .ok (.aload_n 0, 1) := by decide +kernel
theorem dX5_play_156 : decode cX5_play 156 = .ok (.getfield 28, 3) := by decide +kernel
theorem dX5_play_159 : decode cX5_play 159 = .ok (.iload 5, 2) := by decide +kernel
theorem dX5_play_161 : decode cX5_play 161 = .ok (.aload_n 0, 1) := by decide +kernel
theorem dX5_play_162 : decode cX5_play 162 = .ok (.getfield 25, 3) := by decide +kernel
theorem dX5_play_165 : decode cX5_play 165 = .ok (.iload 5, 2) := by decide +kernel
theorem dX5_play_167 : decode cX5_play 167 = .ok (.iaload, 1) := by decide +kernel
theorem dX5_play_168 : decode cX5_play 168 = .ok (.iconst (-1), 1) := by decide +kernel
theorem dX5_play_169 : decode cX5_play 169 = .ok (.if_icmp .eq 12, 3) := by decide +kernel
theorem dX5_play_172 : decode cX5_play 172 = .ok (.iload 7, 2) := by decide +kernel
theorem dX5_play_174 : decode cX5_play 174 = .ok (.ifCond .ne 7, 3) := by decide +kernel
theorem dX5_play_177 : decode cX5_play 177 = .ok (.iconst 1, 1) := by decide +kernel
theorem dX5_play_178 : decode cX5_play 178 = .ok (.goto 4, 3) := by decide +kernel
theorem dX5_play_181 : decode cX5_play 181 = .ok (.iconst 0, 1) := by decide +kernel
theorem dX5_play_182 : decode cX5_play 182 = .ok (.iastore, 1) := by decide +kernel
theorem dX5_play_183 : decode cX5_play 183 = .ok (.aload_n 0, 1) := by decide +kernel
theorem dX5_play_184 : decode cX5_play 184 = .ok (.dup, 1) := by decide +kernel
theorem dX5_play_185 : decode cX5_play 185 = .ok (.getfield 43, 3) := by decide +kernel
theorem dX5_play_188 : decode cX5_play 188 = .ok (.aload_n 0, 1) := by decide +kernel
theorem dX5_play_189 : decode cX5_play 189 = .ok (.getfield 28, 3) := by decide +kernel
theorem dX5_play_192 : decode cX5_play 192 = .ok (.iload 5, 2) := by decide +kernel
theorem dX5_play_194 : decode cX5_play 194 = .ok (.iaload, 1) := by decide +kernel
theorem dX5_play_195 : decode cX5_play 195 = .ok (.iadd, 1) := by decide +kernel
theorem dX5_play_196 : decode cX5_play 196 = .ok (.putfield 43, 3) := by decide +kernel
theorem dX5_play_199 : decode cX5_play 199 = .ok (.aload_n 0, 1) := by decide +kernel
theorem dX5_play_200 : decode cX5_play 200 = .ok (.getfield 18, 3) := by decide +kernel
theorem dX5_play_203 : decode cX5_play 203 = .ok (.iload 5, 2) := by decide +kernel
theorem dX5_play_205 : decode cX5_play 205 = .ok (.aload_n 0, 1) := by decide +kernel
theorem dX5_play_206 : decode cX5_play 206 = .ok (.getfield 12, 3) := by decide +kernel
theorem dX5_play_209 : decode cX5_play 209 = .ok (.getfield 76, 3) := by decide +kernel
theorem dX5_play_212 : decode cX5_play 212 = .ok (.iastore, 1) := by decide +kernel
theorem dX5_play_213 : decode cX5_play 213 = .ok (.aload_n 0, 1) := by decide +kernel
theorem dX5_play_214 : decode cX5_play 214 = .ok (.getfield 22, 3) := by decide +kernel
theorem dX5_play_217 : decode cX5_play 217 = .ok (.iload 5, 2) := by decide +kernel
theorem dX5_play_219 : decode cX5_play 219 = .ok (.iload 4, 2) := by decide +kernel
theorem dX5_play_221 : decode cX5_play 221 = .ok (.iastore, 1) := by decide +kernel
theorem dX5_play_222 : decode cX5_play 222 = .ok (.aload_n 0, 1) := by decide +kernel
theorem dX5_play_223 : decode cX5_play 223 = .ok (.getfield 31, 3) := by decide +kernel
theorem dX5_play_226 : decode cX5_play 226 = .ok (.iload 5, 2) := by decide +kernel
theorem dX5_play_228 : decode cX5_play 228 = .ok (.aload_n 0, 1) := by decide +kernel
theorem dX5_play_229 : decode cX5_play 229 = .ok (.getfield 12, 3) := by decide +kernel
theorem dX5_play_232 : decode cX5_play 232 = .ok (.aload_n 1, 1) := by decide +kernel
theorem dX5_play_233 : decode cX5_play 233 = .ok (.invokevirtual 78, 3) := by decide +kernel
theorem dX5_play_236 : decode cX5_play 236 = .ok (.iastore, 1) := by decide +kernel
theorem dX5_play_237 : decode cX5_play 237 = .ok (.iinc 5 1, 3) := by decide +kernel
theorem dX5_play_240 : decode cX5_play 240 = .ok (.goto (-209), 3) := by decide +kernel
theorem dX5_play_243 : decode cX5_play 243 = .ok (.return_, 1) := by decide +kernel
theorem dX5_allSacks_0 : decode cX5_allSacks 0 = .ok (.aload_n 0, 1) := by decide +kernel
theorem dX5_allSacks_1 : decode cX5_allSacks 1 = .ok (.getfield 22, 3) := by decide +kernel
theorem dX5_allSacks_4 : decode cX5_allSacks 4 = .ok (.bipush 39, 2) := by decide +kernel
theorem dX5_allSacks_6 : decode cX5_allSacks 6 = .ok (.iaload, 1) := by decide +kernel
theorem dX5_allSacks_7 : decode cX5_allSacks 7 = .ok (.ireturn, 1) := by decide +kernel
theorem dX5_pays_0 : decode cX5_pays 0 = .ok (.aload_n 0, 1) := by decide +kernel
theorem dX5_pays_1 : decode cX5_pays 1 = .ok (.getfield 34, 3) := by decide +kernel
theorem dX5_pays_4 : decode cX5_pays 4 = .ok (.iload_n 2, 1) := by decide +kernel
theorem dX5_pays_5 : decode cX5_pays 5 = .ok (.iaload, 1) := by decide +kernel
theorem dX5_pays_6 : decode cX5_pays 6 = .ok (.iconst (-1), 1) := by decide +kernel
theorem dX5_pays_7 : decode cX5_pays 7 = .ok (.if_icmp .eq 22, 3) := by decide +kernel
theorem dX5_pays_10 : decode cX5_pays 10 = .ok (.aload_n 0, 1) := by decide +kernel
theorem dX5_pays_11 : decode cX5_pays 11 = .ok (.getfield 34, 3) := by decide +kernel
theorem dX5_pays_14 : decode cX5_pays 14 = .ok (.iload_n 2, 1) := by decide +kernel
theorem dX5_pays_15 : decode cX5_pays 15 = .ok (.iaload, 1) := by decide +kernel
theorem dX5_pays_16 : decode cX5_pays 16 = .ok (.aload_n 1, 1) := by decide +kernel
theorem dX5_pays_17 : decode cX5_pays 17 = .ok (.getfield 82, 3) := by decide +kernel
theorem dX5_pays_20 : decode cX5_pays 20 = .ok (.iload_n 2, 1) := by decide +kernel
theorem dX5_pays_21 : decode cX5_pays 21 = .ok (.iaload, 1) := by decide +kernel
theorem dX5_pays_22 : decode cX5_pays 22 = .ok (.if_icmp .gt 7, 3) := by decide +kernel
theorem dX5_pays_25 : decode cX5_pays 25 = .ok (.iconst 1, 1) := by decide +kernel
theorem dX5_pays_26 : decode cX5_pays 26 = .ok (.goto 4, 3) := by decide +kernel
theorem dX5_pays_29 : decode cX5_pays 29 = .ok (.iconst 0, 1) := by decide +kernel
theorem dX5_pays_30 : decode cX5_pays 30 = .ok (.ireturn, 1) := by decide +kernel
theorem dX5_sumPaid_0 : decode cX5_sumPaid 0 = .ok (.iconst 0, 1) := by decide +kernel
theorem dX5_sumPaid_1 : decode cX5_sumPaid 1 = .ok (.istore_n 2, 1) := by decide +kernel
theorem dX5_sumPaid_2 : decode cX5_sumPaid 2 = .ok (.iconst 0, 1) := by decide +kernel
theorem dX5_sumPaid_3 : decode cX5_sumPaid 3 = .ok (.istore_n 3, 1) := by decide +kernel
theorem dX5_sumPaid_4 : decode cX5_sumPaid 4 = .ok (.iload_n 3, 1) := by decide +kernel
theorem dX5_sumPaid_5 : decode cX5_sumPaid 5 = .ok (.aload_n 1, 1) := by decide +kernel
theorem dX5_sumPaid_6 : decode cX5_sumPaid 6 = .ok (.getfield 85, 3) := by decide +kernel
theorem dX5_sumPaid_9 : decode cX5_sumPaid 9 = .ok (.if_icmp .ge 31, 3) := by decide +kernel
theorem dX5_sumPaid_12 : decode cX5_sumPaid 12 = .ok (.iload_n 2, 1) := by decide +kernel
theorem dX5_sumPaid_13 : decode cX5_sumPaid 13 = .ok (.aload_n 0, 1) := by decide +kernel
theorem dX5_sumPaid_14 : decode cX5_sumPaid 14 = .ok (.aload_n 1, 1) := by decide +kernel
theorem dX5_sumPaid_15 : decode cX5_sumPaid 15 = .ok (.iload_n 3, 1) := by decide +kernel
theorem dX5_sumPaid_16 : decode cX5_sumPaid 16 = .ok (.invokevirtual 88, 3) := by decide +kernel
theorem dX5_sumPaid_19 : decode cX5_sumPaid 19 = .ok (.ifCond .eq 12, 3) := by decide +kernel
theorem dX5_sumPaid_22 : decode cX5_sumPaid 22 = .ok (.aload_n 1, 1) := by decide +kernel
theorem dX5_sumPaid_23 : decode cX5_sumPaid 23 = .ok (.getfield 92, 3) := by decide +kernel
theorem dX5_sumPaid_26 : decode cX5_sumPaid 26 = .ok (.iload_n 3, 1) := by decide +kernel
theorem dX5_sumPaid_27 : decode cX5_sumPaid 27 = .ok (.iaload, 1) := by decide +kernel
theorem dX5_sumPaid_28 : decode cX5_sumPaid 28 = .ok (.goto 4, 3) := by decide +kernel
theorem dX5_sumPaid_31 : decode cX5_sumPaid 31 = .ok (.iconst 0, 1) := by decide +kernel
theorem dX5_sumPaid_32 : decode cX5_sumPaid 32 = .ok (.iadd, 1) := by decide +kernel
theorem dX5_sumPaid_33 : decode cX5_sumPaid 33 = .ok (.istore_n 2, 1) := by decide +kernel
theorem dX5_sumPaid_34 : decode cX5_sumPaid 34 = .ok (.iinc 3 1, 3) := by decide +kernel
theorem dX5_sumPaid_37 : decode cX5_sumPaid 37 = .ok (.goto (-33), 3) := by decide +kernel
theorem dX5_sumPaid_40 : decode cX5_sumPaid 40 = .ok (.iload_n 2, 1) := by decide +kernel
theorem dX5_sumPaid_41 : decode cX5_sumPaid 41 = .ok (.ireturn, 1) := by decide +kernel
theorem dX5_endsAll_0 : decode cX5_endsAll 0 = .ok (.iconst 0, 1) := by decide +kernel
theorem dX5_endsAll_1 : decode cX5_endsAll 1 = .ok (.istore_n 2, 1) := by decide +kernel
theorem dX5_endsAll_2 : decode cX5_endsAll 2 = .ok (.iload_n 2, 1) := by decide +kernel
theorem dX5_endsAll_3 : decode cX5_endsAll 3 = .ok (.aload_n 1, 1) := by decide +kernel
theorem dX5_endsAll_4 : decode cX5_endsAll 4 = .ok (.getfield 85, 3) := by decide +kernel
theorem dX5_endsAll_7 : decode cX5_endsAll 7 = .ok (.if_icmp .ge 21, 3) := by decide +kernel
theorem dX5_endsAll_10 : decode cX5_endsAll 10 = .ok (.aload_n 0, 1) := by decide +kernel
theorem dX5_endsAll_11 : decode cX5_endsAll 11 = .ok (.getfield 34, 3) := by decide +kernel
theorem dX5_endsAll_14 : decode cX5_endsAll 14 = .ok (.iload_n 2, 1) := by decide +kernel
theorem dX5_endsAll_15 : decode cX5_endsAll 15 = .ok (.iaload, 1) := by decide +kernel
theorem dX5_endsAll_16 : decode cX5_endsAll 16 = .ok (.iconst (-1), 1) := by decide +kernel
theorem dX5_endsAll_17 : decode cX5_endsAll 17 = .ok (.if_icmp .ne 5, 3) := by decide +kernel
theorem dX5_endsAll_20 : decode cX5_endsAll 20 = .ok (.iconst 0, 1) := by decide +kernel
theorem dX5_endsAll_21 : decode cX5_endsAll 21 = .ok (.ireturn, 1) := by decide +kernel
theorem dX5_endsAll_22 : decode cX5_endsAll 22 = .ok (.iinc 2 1, 3) := by decide +kernel
theorem dX5_endsAll_25 : decode cX5_endsAll 25 = .ok (.goto (-23), 3) := by decide +kernel
theorem dX5_endsAll_28 : decode cX5_endsAll 28 = .ok (.iconst 1, 1) := by decide +kernel
theorem dX5_endsAll_29 : decode cX5_endsAll 29 = .ok (.ireturn, 1) := by decide +kernel
theorem dX6_init_0 : decode cX6_init 0 = .ok (.aload_n 0, 1) := by decide +kernel
theorem dX6_init_1 : decode cX6_init 1 = .ok (.invokespecial 3, 3) := by decide +kernel
theorem dX6_init_4 : decode cX6_init 4 = .ok (.aload_n 0, 1) := by decide +kernel
theorem dX6_init_5 : decode cX6_init 5 = .ok (.bipush 60, 2) := by decide +kernel
theorem dX6_init_7 : decode cX6_init 7 = .ok (.newarray .int, 2) := by decide +kernel
theorem dX6_init_9 : decode cX6_init 9 = .ok (.putfield 9, 3) := by decide +kernel
theorem dX6_init_12 : decode cX6_init 12 = .ok (.aload_n 0, 1) := by decide +kernel
theorem dX6_init_13 : decode cX6_init 13 = .ok (.iconst (-1), 1) := by decide +kernel
theorem dX6_init_14 : decode cX6_init 14 = .ok (.putfield 15, 3) := by decide +kernel
theorem dX6_init_17 : decode cX6_init 17 = .ok (.return_, 1) := by decide +kernel
theorem dX6_begin_0 : decode cX6_begin 0 = .ok (.aload_n 0, 1) := by decide +kernel
theorem dX6_begin_1 : decode cX6_begin 1 = .ok (.iload_n 1, 1) := by decide +kernel
theorem dX6_begin_2 : decode cX6_begin 2 = .ok (.putfield 15, 3) := by decide +kernel
theorem dX6_begin_5 : decode cX6_begin 5 = .ok (.aload_n 0, 1) := by decide +kernel
theorem dX6_begin_6 : decode cX6_begin 6 = .ok (.iload_n 2, 1) := by decide +kernel
theorem dX6_begin_7 : decode cX6_begin 7 = .ok (.putfield 19, 3) := by decide +kernel
theorem dX6_begin_10 : decode cX6_begin 10 = .ok (.aload_n 0, 1) := by decide +kernel
theorem dX6_begin_11 : decode cX6_begin 11 = .ok (.getfield 9, 3) := by decide +kernel
theorem dX6_begin_14 : decode cX6_begin 14 = .ok (.iconst 0, 1) := by decide +kernel
theorem dX6_begin_15 : decode cX6_begin 15 = .ok (.invokestatic 22, 3) := by decide +kernel
theorem dX6_begin_18 : decode cX6_begin 18 = .ok (.return_, 1) := by decide +kernel
theorem dX6_isLost_0 : decode cX6_isLost 0 = .ok (.aload_n 0, 1) := by decide +kernel
theorem dX6_isLost_1 : decode cX6_isLost 1 = .ok (.getfield 15, 3) := by decide +kernel
theorem dX6_isLost_4 : decode cX6_isLost 4 = .ok (.iconst (-1), 1) := by decide +kernel
theorem dX6_isLost_5 : decode cX6_isLost 5 = .ok (.if_icmp .ne 7, 3) := by decide +kernel
theorem dX6_isLost_8 : decode cX6_isLost 8 = .ok (.iconst 1, 1) := by decide +kernel
theorem dX6_isLost_9 : decode cX6_isLost 9 = .ok (.goto 4, 3) := by decide +kernel
theorem dX6_isLost_12 : decode cX6_isLost 12 = .ok (.iconst 0, 1) := by decide +kernel
theorem dX6_isLost_13 : decode cX6_isLost 13 = .ok (.ireturn, 1) := by decide +kernel
theorem dX6_holds_0 : decode cX6_holds 0 = .ok (.iload_n 1, 1) := by decide +kernel
theorem dX6_holds_1 : decode cX6_holds 1 = .ok (.ifCond .lt 21, 3) := by decide +kernel
theorem dX6_holds_4 : decode cX6_holds 4 = .ok (.iload_n 2, 1) := by decide +kernel
theorem dX6_holds_5 : decode cX6_holds 5 = .ok (.ifCond .lt 17, 3) := by decide +kernel
theorem dX6_holds_8 : decode cX6_holds 8 = .ok (.iload_n 2, 1) := by decide +kernel
theorem dX6_holds_9 : decode cX6_holds 9 = .ok (.aload_n 0, 1) := by decide +kernel
theorem dX6_holds_10 : decode cX6_holds 10 = .ok (.getfield 19, 3) := by decide +kernel
theorem dX6_holds_13 : decode cX6_holds 13 = .ok (.iload_n 1, 1) := by decide +kernel
theorem dX6_holds_14 : decode cX6_holds 14 = .ok (.isub, 1) := by decide +kernel
theorem dX6_holds_15 : decode cX6_holds 15 = .ok (.if_icmp .gt 7, 3) := by decide +kernel
theorem dX6_holds_18 : decode cX6_holds 18 = .ok (.iconst 1, 1) := by decide +kernel
theorem dX6_holds_19 : decode cX6_holds 19 = .ok (.goto 4, 3) := by decide +kernel
theorem dX6_holds_22 : decode cX6_holds 22 = .ok (.iconst 0, 1) := by decide +kernel
theorem dX6_holds_23 : decode cX6_holds 23 = .ok (.ireturn, 1) := by decide +kernel
theorem dX6_wrongWith_0 : decode cX6_wrongWith 0 = .ok (.aload_n 0, 1) := by decide +kernel
theorem dX6_wrongWith_1 : decode cX6_wrongWith 1 = .ok (.invokevirtual 28, 3) := by decide +kernel
theorem dX6_wrongWith_4 : decode cX6_wrongWith 4 = .ok (.ifCond .eq 5, 3) := by decide +kernel
theorem dX6_wrongWith_7 : decode cX6_wrongWith 7 = .ok (.iconst 1, 1) := by decide +kernel
theorem dX6_wrongWith_8 : decode cX6_wrongWith 8 = .ok (.ireturn, 1) := by decide +kernel
theorem dX6_wrongWith_9 : decode cX6_wrongWith 9 = .ok (.aload_n 0, 1) := by decide +kernel
theorem dX6_wrongWith_10 : decode cX6_wrongWith 10 = .ok (.getfield 15, 3) := by decide +kernel
theorem dX6_wrongWith_13 : decode cX6_wrongWith 13 = .ok (.iload_n 1, 1) := by decide +kernel
theorem dX6_wrongWith_14 : decode cX6_wrongWith 14 = .ok (.if_icmp .eq 5, 3) := by decide +kernel
theorem dX6_wrongWith_17 : decode cX6_wrongWith 17 = .ok (.iconst 3, 1) := by decide +kernel
theorem dX6_wrongWith_18 : decode cX6_wrongWith 18 = .ok (.ireturn, 1) := by decide +kernel
theorem dX6_wrongWith_19 : decode cX6_wrongWith 19 = .ok (.aload_n 0, 1) := by decide +kernel
theorem dX6_wrongWith_20 : decode cX6_wrongWith 20 = .ok (.iload_n 2, 1) := by decide +kernel
theorem dX6_wrongWith_21 : decode cX6_wrongWith 21 = .ok (.iconst 1, 1) := by decide +kernel
theorem dX6_wrongWith_22 : decode cX6_wrongWith 22 = .ok (.invokevirtual 32, 3) := by decide +kernel
theorem dX6_wrongWith_25 : decode cX6_wrongWith 25 = .ok (.ifCond .eq 7, 3) := by decide +kernel
theorem dX6_wrongWith_28 : decode cX6_wrongWith 28 = .ok (.iconst 0, 1) := by decide +kernel
theorem dX6_wrongWith_29 : decode cX6_wrongWith 29 = .ok (.goto 4, 3) := by decide +kernel
theorem dX6_wrongWith_32 : decode cX6_wrongWith 32 = .ok (.iconst 2, 1) := by decide +kernel
theorem dX6_wrongWith_33 : decode cX6_wrongWith 33 = .ok (.ireturn, 1) := by decide +kernel
theorem dX6_store_0 : decode cX6_store 0 = .ok (.aload_n 0, 1) := by decide +kernel
theorem dX6_store_1 : decode cX6_store 1 = .ok (.getfield 9, 3) := by decide +kernel
theorem dX6_store_4 : decode cX6_store 4 = .ok (.iload_n 1, 1) := by decide +kernel
theorem dX6_store_5 : decode cX6_store 5 = .ok (.aload_n 0, 1) := by decide +kernel
theorem dX6_store_6 : decode cX6_store 6 = .ok (.getfield 15, 3) := by decide +kernel
theorem dX6_store_9 : decode cX6_store 9 = .ok (.ifCond .ne 8, 3) := by decide +kernel
theorem dX6_store_12 : decode cX6_store 12 = .ok (.iload_n 2, 1) := by decide +kernel
theorem dX6_store_13 : decode cX6_store 13 = .ok (.i2b, 1) := by decide +kernel
theorem dX6_store_14 : decode cX6_store 14 = .ok (.goto 17, 3) := by decide +kernel
theorem dX6_store_17 : decode cX6_store 17 = .ok (.aload_n 0, 1) := by decide +kernel
theorem dX6_store_18 : decode cX6_store 18 = .ok (.getfield 15, 3) := by decide +kernel
theorem dX6_store_21 : decode cX6_store 21 = .ok (.iconst 1, 1) := by decide +kernel
theorem dX6_store_22 : decode cX6_store 22 = .ok (.if_icmp .ne 8, 3) := by decide +kernel
theorem dX6_store_25 : decode cX6_store 25 = .ok (.iload_n 2, 1) := by decide +kernel
theorem dX6_store_26 : decode cX6_store 26 = .ok (.i2s, 1) := by decide +kernel
theorem dX6_store_27 : decode cX6_store 27 = .ok (.goto 4, 3) := by decide +kernel
theorem dX6_store_30 : decode cX6_store 30 = .ok (.iload_n 2, 1) := by decide +kernel
theorem dX6_store_31 : decode cX6_store 31 = .ok (.iastore, 1) := by decide +kernel
theorem dX6_store_32 : decode cX6_store 32 = .ok (.return_, 1) := by decide +kernel
theorem dJ6_bitCount_0f7a4_0 : decode cJ6_bitCount_0f7a4 0 = .ok (.iload_n 0, 1) := by decide +kernel
theorem dJ6_bitCount_0f7a4_1 : decode cJ6_bitCount_0f7a4 1 = .ok (.iload_n 0, 1) := by decide +kernel
theorem dJ6_bitCount_0f7a4_2 : decode cJ6_bitCount_0f7a4 2 = .ok (.iconst 1, 1) := by decide +kernel
theorem dJ6_bitCount_0f7a4_3 : decode cJ6_bitCount_0f7a4 3 = .ok (.iushr, 1) := by decide +kernel
theorem dJ6_bitCount_0f7a4_4 : decode cJ6_bitCount_0f7a4 4 = .ok (.ldc_w 265, 3) := by decide +kernel
theorem dJ6_bitCount_0f7a4_7 : decode cJ6_bitCount_0f7a4 7 = .ok (.iand, 1) := by decide +kernel
theorem dJ6_bitCount_0f7a4_8 : decode cJ6_bitCount_0f7a4 8 = .ok (.isub, 1) := by decide +kernel
theorem dJ6_bitCount_0f7a4_9 : decode cJ6_bitCount_0f7a4 9 = .ok (.istore_n 0, 1) := by decide +kernel
theorem dJ6_bitCount_0f7a4_10 : decode cJ6_bitCount_0f7a4 10 = .ok (.iload_n 0, 1) := by decide +kernel
theorem dJ6_bitCount_0f7a4_11 : decode cJ6_bitCount_0f7a4 11 = .ok (.ldc_w 266, 3) := by decide +kernel
theorem dJ6_bitCount_0f7a4_14 : decode cJ6_bitCount_0f7a4 14 = .ok (.iand, 1) := by decide +kernel
theorem dJ6_bitCount_0f7a4_15 : decode cJ6_bitCount_0f7a4 15 = .ok (.iload_n 0, 1) := by decide +kernel
theorem dJ6_bitCount_0f7a4_16 : decode cJ6_bitCount_0f7a4 16 = .ok (.iconst 2, 1) := by decide +kernel
theorem dJ6_bitCount_0f7a4_17 : decode cJ6_bitCount_0f7a4 17 = .ok (.iushr, 1) := by decide +kernel
theorem dJ6_bitCount_0f7a4_18 : decode cJ6_bitCount_0f7a4 18 = .ok (.ldc_w 266, 3) := by decide +kernel
theorem dJ6_bitCount_0f7a4_21 : decode cJ6_bitCount_0f7a4 21 = .ok (.iand, 1) := by decide +kernel
theorem dJ6_bitCount_0f7a4_22 : decode cJ6_bitCount_0f7a4 22 = .ok (.iadd, 1) := by decide +kernel
theorem dJ6_bitCount_0f7a4_23 : decode cJ6_bitCount_0f7a4 23 = .ok (.istore_n 0, 1) := by decide +kernel
theorem dJ6_bitCount_0f7a4_24 : decode cJ6_bitCount_0f7a4 24 = .ok (.iload_n 0, 1) := by decide +kernel
theorem dJ6_bitCount_0f7a4_25 : decode cJ6_bitCount_0f7a4 25 = .ok (.iload_n 0, 1) := by decide +kernel
theorem dJ6_bitCount_0f7a4_26 : decode cJ6_bitCount_0f7a4 26 = .ok (.iconst 4, 1) := by decide +kernel
theorem dJ6_bitCount_0f7a4_27 : decode cJ6_bitCount_0f7a4 27 = .ok (.iushr, 1) := by decide +kernel
theorem dJ6_bitCount_0f7a4_28 : decode cJ6_bitCount_0f7a4 28 = .ok (.iadd, 1) := by decide +kernel
theorem dJ6_bitCount_0f7a4_29 : decode cJ6_bitCount_0f7a4 29 = .ok (.ldc_w 267, 3) := by decide +kernel
theorem dJ6_bitCount_0f7a4_32 : decode cJ6_bitCount_0f7a4 32 = .ok (.iand, 1) := by decide +kernel
theorem dJ6_bitCount_0f7a4_33 : decode cJ6_bitCount_0f7a4 33 = .ok (.istore_n 0, 1) := by decide +kernel
theorem dJ6_bitCount_0f7a4_34 : decode cJ6_bitCount_0f7a4 34 = .ok (.iload_n 0, 1) := by decide +kernel
theorem dJ6_bitCount_0f7a4_35 : decode cJ6_bitCount_0f7a4 35 = .ok (.iload_n 0, 1) := by decide +kernel
theorem dJ6_bitCount_0f7a4_36 : decode cJ6_bitCount_0f7a4 36 = .ok (.bipush 8, 2) := by decide +kernel
theorem dJ6_bitCount_0f7a4_38 : decode cJ6_bitCount_0f7a4 38 = .ok (.iushr, 1) := by decide +kernel
theorem dJ6_bitCount_0f7a4_39 : decode cJ6_bitCount_0f7a4 39 = .ok (.iadd, 1) := by decide +kernel
theorem dJ6_bitCount_0f7a4_40 : decode cJ6_bitCount_0f7a4 40 = .ok (.istore_n 0, 1) := by decide +kernel
theorem dJ6_bitCount_0f7a4_41 : decode cJ6_bitCount_0f7a4 41 = .ok (.iload_n 0, 1) := by decide +kernel
theorem dJ6_bitCount_0f7a4_42 : decode cJ6_bitCount_0f7a4 42 = .ok (.iload_n 0, 1) := by decide +kernel
theorem dJ6_bitCount_0f7a4_43 : decode cJ6_bitCount_0f7a4 43 = .ok (.bipush 16, 2) := by decide +kernel
theorem dJ6_bitCount_0f7a4_45 : decode cJ6_bitCount_0f7a4 45 = .ok (.iushr, 1) := by decide +kernel
theorem dJ6_bitCount_0f7a4_46 : decode cJ6_bitCount_0f7a4 46 = .ok (.iadd, 1) := by decide +kernel
theorem dJ6_bitCount_0f7a4_47 : decode cJ6_bitCount_0f7a4 47 = .ok (.istore_n 0, 1) := by decide +kernel
theorem dJ6_bitCount_0f7a4_48 : decode cJ6_bitCount_0f7a4 48 = .ok (.iload_n 0, 1) := by decide +kernel
theorem dJ6_bitCount_0f7a4_49 : decode cJ6_bitCount_0f7a4 49 = .ok (.bipush 63, 2) := by decide +kernel
theorem dJ6_bitCount_0f7a4_51 : decode cJ6_bitCount_0f7a4 51 = .ok (.iand, 1) := by decide +kernel
theorem dJ6_bitCount_0f7a4_52 : decode cJ6_bitCount_0f7a4 52 = .ok (.ireturn, 1) := by decide +kernel
theorem dJ9_max_7cf53_0 : decode cJ9_max_7cf53 0 = .ok (.iload_n 0, 1) := by decide +kernel
theorem dJ9_max_7cf53_1 : decode cJ9_max_7cf53 1 = .ok (.iload_n 1, 1) := by decide +kernel
theorem dJ9_max_7cf53_2 : decode cJ9_max_7cf53 2 = .ok (.if_icmp .lt 7, 3) := by decide +kernel
theorem dJ9_max_7cf53_5 : decode cJ9_max_7cf53 5 = .ok (.iload_n 0, 1) := by decide +kernel
theorem dJ9_max_7cf53_6 : decode cJ9_max_7cf53 6 = .ok (.goto 4, 3) := by decide +kernel
theorem dJ9_max_7cf53_9 : decode cJ9_max_7cf53 9 = .ok (.iload_n 1, 1) := by decide +kernel
theorem dJ9_max_7cf53_10 : decode cJ9_max_7cf53 10 = .ok (.ireturn, 1) := by decide +kernel
theorem dJ9_min_7cf53_0 : decode cJ9_min_7cf53 0 = .ok (.iload_n 0, 1) := by decide +kernel
theorem dJ9_min_7cf53_1 : decode cJ9_min_7cf53 1 = .ok (.iload_n 1, 1) := by decide +kernel
theorem dJ9_min_7cf53_2 : decode cJ9_min_7cf53 2 = .ok (.if_icmp .gt 7, 3) := by decide +kernel
theorem dJ9_min_7cf53_5 : decode cJ9_min_7cf53 5 = .ok (.iload_n 0, 1) := by decide +kernel
theorem dJ9_min_7cf53_6 : decode cJ9_min_7cf53 6 = .ok (.goto 4, 3) := by decide +kernel
theorem dJ9_min_7cf53_9 : decode cJ9_min_7cf53 9 = .ok (.iload_n 1, 1) := by decide +kernel
theorem dJ9_min_7cf53_10 : decode cJ9_min_7cf53 10 = .ok (.ireturn, 1) := by decide +kernel
theorem dJ7_fill_d0a16_0 : decode cJ7_fill_d0a16 0 = .ok (.iconst 0, 1) := by decide +kernel
theorem dJ7_fill_d0a16_1 : decode cJ7_fill_d0a16 1 = .ok (.istore_n 3, 1) := by decide +kernel
theorem dJ7_fill_d0a16_2 : decode cJ7_fill_d0a16 2 = .ok (.aload_n 0, 1) := by decide +kernel
theorem dJ7_fill_d0a16_3 : decode cJ7_fill_d0a16 3 = .ok (.arraylength, 1) := by decide +kernel
theorem dJ7_fill_d0a16_4 : decode cJ7_fill_d0a16 4 = .ok (.istore 4, 2) := by decide +kernel
theorem dJ7_fill_d0a16_6 : decode cJ7_fill_d0a16 6 = .ok (.iload_n 3, 1) := by decide +kernel
theorem dJ7_fill_d0a16_7 : decode cJ7_fill_d0a16 7 = .ok (.iload 4, 2) := by decide +kernel
theorem dJ7_fill_d0a16_9 : decode cJ7_fill_d0a16 9 = .ok (.if_icmp .ge 13, 3) := by decide +kernel
theorem dJ7_fill_d0a16_12 : decode cJ7_fill_d0a16 12 = .ok (.aload_n 0, 1) := by decide +kernel
theorem dJ7_fill_d0a16_13 : decode cJ7_fill_d0a16 13 = .ok (.iload_n 3, 1) := by decide +kernel
theorem dJ7_fill_d0a16_14 : decode cJ7_fill_d0a16 14 = .ok (.lload_n 1, 1) := by decide +kernel
theorem dJ7_fill_d0a16_15 : decode cJ7_fill_d0a16 15 = .ok (.lastore, 1) := by decide +kernel
theorem dJ7_fill_d0a16_16 : decode cJ7_fill_d0a16 16 = .ok (.iinc 3 1, 3) := by decide +kernel
theorem dJ7_fill_d0a16_19 : decode cJ7_fill_d0a16 19 = .ok (.goto (-13), 3) := by decide +kernel
theorem dJ7_fill_d0a16_22 : decode cJ7_fill_d0a16 22 = .ok (.return_, 1) := by decide +kernel
theorem dJ7_fill_53178_0 : decode cJ7_fill_53178 0 = .ok (.iconst 0, 1) := by decide +kernel
theorem dJ7_fill_53178_1 : decode cJ7_fill_53178 1 = .ok (.istore_n 2, 1) := by decide +kernel
theorem dJ7_fill_53178_2 : decode cJ7_fill_53178 2 = .ok (.aload_n 0, 1) := by decide +kernel
theorem dJ7_fill_53178_3 : decode cJ7_fill_53178 3 = .ok (.arraylength, 1) := by decide +kernel
theorem dJ7_fill_53178_4 : decode cJ7_fill_53178 4 = .ok (.istore_n 3, 1) := by decide +kernel
theorem dJ7_fill_53178_5 : decode cJ7_fill_53178 5 = .ok (.iload_n 2, 1) := by decide +kernel
theorem dJ7_fill_53178_6 : decode cJ7_fill_53178 6 = .ok (.iload_n 3, 1) := by decide +kernel
theorem dJ7_fill_53178_7 : decode cJ7_fill_53178 7 = .ok (.if_icmp .ge 13, 3) := by decide +kernel
theorem dJ7_fill_53178_10 : decode cJ7_fill_53178 10 = .ok (.aload_n 0, 1) := by decide +kernel
theorem dJ7_fill_53178_11 : decode cJ7_fill_53178 11 = .ok (.iload_n 2, 1) := by decide +kernel
theorem dJ7_fill_53178_12 : decode cJ7_fill_53178 12 = .ok (.iload_n 1, 1) := by decide +kernel
theorem dJ7_fill_53178_13 : decode cJ7_fill_53178 13 = .ok (.iastore, 1) := by decide +kernel
theorem dJ7_fill_53178_14 : decode cJ7_fill_53178 14 = .ok (.iinc 2 1, 3) := by decide +kernel
theorem dJ7_fill_53178_17 : decode cJ7_fill_53178 17 = .ok (.goto (-12), 3) := by decide +kernel
theorem dJ7_fill_53178_20 : decode cJ7_fill_53178 20 = .ok (.return_, 1) := by decide +kernel
