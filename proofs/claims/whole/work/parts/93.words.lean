theorem oi_b : Cond.instanceMethod Lib.objectInit ∈ tm_tbl := tm_mem 75 (by decide +kernel) rfl
theorem oi_c : Cond.code Lib.objectInit ⟨#[0xb1]⟩ 1 none ∈ tm_tbl := tm_mem 76 (by decide +kernel) rfl
theorem oi_X7 : Cond.methodLink RX7 1 Lib.objectInit ∈ tm_tbl := tm_mem 74 (by decide +kernel) rfl
theorem oi_X2 : Cond.methodLink RX2 1 Lib.objectInit ∈ tm_tbl := tm_mem 83 (by decide +kernel) rfl
theorem oi_X6 : Cond.methodLink RX6 3 Lib.objectInit ∈ tm_tbl := tm_mem 107 (by decide +kernel) rfl
theorem oi_X1 : Cond.methodLink RX1 3 Lib.objectInit ∈ tm_tbl := tm_mem 126 (by decide +kernel) rfl
theorem oi_X0 : Cond.methodLink RX0 3 Lib.objectInit ∈ tm_tbl := tm_mem 173 (by decide +kernel) rfl
theorem oi_X5 : Cond.methodLink RX5 3 Lib.objectInit ∈ tm_tbl := tm_mem 214 (by decide +kernel) rfl
theorem oi_X4 : Cond.methodLink RX4 3 Lib.objectInit ∈ tm_tbl := tm_mem 220 (by decide +kernel) rfl
theorem oi_X3 : Cond.methodLink RX3 3 Lib.objectInit ∈ tm_tbl := tm_mem 277 (by decide +kernel) rfl
theorem oi_X8 : Cond.methodLink RX8 1 Lib.objectInit ∈ tm_tbl := tm_mem 746 (by decide +kernel) rfl
theorem ar_int : Cond.arrayClass .int ∈ tm_tbl := tm_mem 100 (by decide +kernel) rfl
theorem ar_long : Cond.arrayClass .long ∈ tm_tbl := tm_mem 360 (by decide +kernel) rfl
theorem ar_boolean : Cond.arrayClass .boolean ∈ tm_tbl := tm_mem 883 (by decide +kernel) rfl
theorem kk_L_7 : Cond.classLink "TideMillLaw" 7 RX7 ∈ tm_tbl := tm_mem 69 (by decide +kernel) rfl
theorem in_7 : Cond.instantiable RX7 19 ∈ tm_tbl := tm_mem 70 (by decide +kernel) rfl
theorem kk_X7_7 : Cond.classLink RX7 7 RX2 ∈ tm_tbl := tm_mem 77 (by decide +kernel) rfl
theorem in_2 : Cond.instantiable RX2 2 ∈ tm_tbl := tm_mem 79 (by decide +kernel) rfl
theorem kk_X7_31 : Cond.classLink RX7 31 RX6 ∈ tm_tbl := tm_mem 101 (by decide +kernel) rfl
theorem in_6 : Cond.instantiable RX6 3 ∈ tm_tbl := tm_mem 103 (by decide +kernel) rfl
theorem kk_X7_38 : Cond.classLink RX7 38 RX1 ∈ tm_tbl := tm_mem 121 (by decide +kernel) rfl
theorem in_1 : Cond.instantiable RX1 5 ∈ tm_tbl := tm_mem 122 (by decide +kernel) rfl
theorem kk_X7_50 : Cond.classLink RX7 50 "[I" ∈ tm_tbl := tm_mem 167 (by decide +kernel) rfl
theorem kk_X7_57 : Cond.classLink RX7 57 RX0 ∈ tm_tbl := tm_mem 168 (by decide +kernel) rfl
theorem in_0 : Cond.instantiable RX0 7 ∈ tm_tbl := tm_mem 169 (by decide +kernel) rfl
theorem kk_X7_66 : Cond.classLink RX7 66 RX5 ∈ tm_tbl := tm_mem 209 (by decide +kernel) rfl
theorem in_5 : Cond.instantiable RX5 8 ∈ tm_tbl := tm_mem 210 (by decide +kernel) rfl
theorem kk_X5_9 : Cond.classLink RX5 9 RX4 ∈ tm_tbl := tm_mem 215 (by decide +kernel) rfl
theorem in_4 : Cond.instantiable RX4 4 ∈ tm_tbl := tm_mem 216 (by decide +kernel) rfl
theorem kk_X7_79 : Cond.classLink RX7 79 RX3 ∈ tm_tbl := tm_mem 272 (by decide +kernel) rfl
theorem in_3 : Cond.instantiable RX3 6 ∈ tm_tbl := tm_mem 273 (by decide +kernel) rfl
theorem kk_X3_9 : Cond.classLink RX3 9 RX4 ∈ tm_tbl := tm_mem 278 (by decide +kernel) rfl
theorem kk_L_10 : Cond.classLink "TideMillLaw" 10 RX8 ∈ tm_tbl := tm_mem 741 (by decide +kernel) rfl
theorem in_8 : Cond.instantiable RX8 45 ∈ tm_tbl := tm_mem 742 (by decide +kernel) rfl
theorem it_0 : Cond.initialized RX0 ∈ tm_tbl := tm_mem 61 (by decide +kernel) rfl
theorem it_1 : Cond.initialized RX1 ∈ tm_tbl := tm_mem 60 (by decide +kernel) rfl
theorem it_2 : Cond.initialized RX2 ∈ tm_tbl := tm_mem 57 (by decide +kernel) rfl
theorem it_3 : Cond.initialized RX3 ∈ tm_tbl := tm_mem 64 (by decide +kernel) rfl
theorem it_4 : Cond.initialized RX4 ∈ tm_tbl := tm_mem 63 (by decide +kernel) rfl
theorem it_5 : Cond.initialized RX5 ∈ tm_tbl := tm_mem 62 (by decide +kernel) rfl
theorem it_6 : Cond.initialized RX6 ∈ tm_tbl := tm_mem 59 (by decide +kernel) rfl
theorem it_7 : Cond.initialized RX7 ∈ tm_tbl := tm_mem 56 (by decide +kernel) rfl
theorem it_8 : Cond.initialized RX8 ∈ tm_tbl := tm_mem 65 (by decide +kernel) rfl
theorem ci_L_9 : tn_ci "TideMillLaw" 9 yX7_init cX7_init 1 0 := ⟨tm_mem 71 (by decide +kernel) rfl, tm_mem 72 (by decide +kernel) rfl, tm_mem 56 (by decide +kernel) rfl, tm_mem 73 (by decide +kernel) rfl, ⟨by decide +kernel, by decide +kernel, by decide +kernel⟩, by decide, rfl⟩
theorem ci_X7_11 : tn_ci RX7 11 yX2_init cX2_init 2 1 := ⟨tm_mem 80 (by decide +kernel) rfl, tm_mem 81 (by decide +kernel) rfl, tm_mem 57 (by decide +kernel) rfl, tm_mem 82 (by decide +kernel) rfl, ⟨by decide +kernel, by decide +kernel, by decide +kernel⟩, by decide, rfl⟩
theorem ci_X7_33 : tn_cn RX7 33 yX6_init cX6_init 1 0 := ⟨by decide +kernel, tm_mem 105 (by decide +kernel) rfl, tm_mem 59 (by decide +kernel) rfl, tm_mem 106 (by decide +kernel) rfl, ⟨by decide +kernel, by decide +kernel, by decide +kernel⟩, by decide, rfl⟩
theorem ci_X7_40 : tn_cn RX7 40 yX1_init cX1_init 1 0 := ⟨by decide +kernel, tm_mem 124 (by decide +kernel) rfl, tm_mem 60 (by decide +kernel) rfl, tm_mem 125 (by decide +kernel) rfl, ⟨by decide +kernel, by decide +kernel, by decide +kernel⟩, by decide, rfl⟩
theorem ci_X7_59 : tn_ci RX7 59 yX0_init cX0_init 2 1 := ⟨tm_mem 170 (by decide +kernel) rfl, tm_mem 171 (by decide +kernel) rfl, tm_mem 61 (by decide +kernel) rfl, tm_mem 172 (by decide +kernel) rfl, ⟨by decide +kernel, by decide +kernel, by decide +kernel⟩, by decide, rfl⟩
theorem ci_X7_68 : tn_cn RX7 68 yX5_init cX5_init 1 0 := ⟨by decide +kernel, tm_mem 212 (by decide +kernel) rfl, tm_mem 62 (by decide +kernel) rfl, tm_mem 213 (by decide +kernel) rfl, ⟨by decide +kernel, by decide +kernel, by decide +kernel⟩, by decide, rfl⟩
theorem ci_X5_11 : tn_cn RX5 11 yX4_init cX4_init 1 0 := ⟨by decide +kernel, tm_mem 218 (by decide +kernel) rfl, tm_mem 63 (by decide +kernel) rfl, tm_mem 219 (by decide +kernel) rfl, ⟨by decide +kernel, by decide +kernel, by decide +kernel⟩, by decide, rfl⟩
theorem ci_X7_81 : tn_ci RX7 81 yX3_init cX3_init 2 0 := ⟨tm_mem 274 (by decide +kernel) rfl, tm_mem 275 (by decide +kernel) rfl, tm_mem 64 (by decide +kernel) rfl, tm_mem 276 (by decide +kernel) rfl, ⟨by decide +kernel, by decide +kernel, by decide +kernel⟩, by decide, rfl⟩
theorem ci_X3_30 : tn_cn RX3 30 yX4_init cX4_init 1 0 := ⟨by decide +kernel, tm_mem 218 (by decide +kernel) rfl, tm_mem 63 (by decide +kernel) rfl, tm_mem 219 (by decide +kernel) rfl, ⟨by decide +kernel, by decide +kernel, by decide +kernel⟩, by decide, rfl⟩
theorem ci_L_12 : tn_ci "TideMillLaw" 12 yX8_init cX8_init 1 0 := ⟨tm_mem 743 (by decide +kernel) rfl, tm_mem 744 (by decide +kernel) rfl, tm_mem 65 (by decide +kernel) rfl, tm_mem 745 (by decide +kernel) rfl, ⟨by decide +kernel, by decide +kernel, by decide +kernel⟩, by decide, rfl⟩
theorem fr_X0_9 : tn_fr RX0 9 0 1 := ⟨_, _, _, _, cls_0, by decide, tm_mem 177 (by decide +kernel) rfl, rfl, rfl, fun a => ⟨rfl, rfl⟩⟩
theorem fr_X0_15 : tn_fr RX0 15 0 2 := ⟨_, _, _, _, cls_0, by decide, tm_mem 180 (by decide +kernel) rfl, rfl, rfl, fun a => ⟨rfl, rfl⟩⟩
theorem fr_X0_18 : tn_fr RX0 18 0 3 := ⟨_, _, _, _, cls_0, by decide, tm_mem 183 (by decide +kernel) rfl, rfl, rfl, fun a => ⟨rfl, rfl⟩⟩
theorem fr_X0_21 : tn_fr RX0 21 0 4 := ⟨_, _, _, _, cls_0, by decide, tm_mem 186 (by decide +kernel) rfl, rfl, rfl, fun a => ⟨rfl, rfl⟩⟩
theorem fr_X0_24 : tn_fr RX0 24 0 5 := ⟨_, _, _, _, cls_0, by decide, tm_mem 190 (by decide +kernel) rfl, rfl, rfl, fun a => ⟨rfl, rfl⟩⟩
theorem fr_X0_27 : tn_fr RX0 27 0 0 := ⟨_, _, _, _, cls_0, by decide, tm_mem 174 (by decide +kernel) rfl, rfl, rfl, fun a => ⟨rfl, rfl⟩⟩
theorem fr_X1_9 : tn_fr RX1 9 1 0 := ⟨_, _, _, _, cls_1, by decide, tm_mem 127 (by decide +kernel) rfl, rfl, rfl, fun a => ⟨rfl, rfl⟩⟩
theorem fr_X1_15 : tn_fr RX1 15 1 1 := ⟨_, _, _, _, cls_1, by decide, tm_mem 131 (by decide +kernel) rfl, rfl, rfl, fun a => ⟨rfl, rfl⟩⟩
theorem fr_X1_18 : tn_fr RX1 18 1 2 := ⟨_, _, _, _, cls_1, by decide, tm_mem 135 (by decide +kernel) rfl, rfl, rfl, fun a => ⟨rfl, rfl⟩⟩
theorem fr_X1_21 : tn_fr RX1 21 1 3 := ⟨_, _, _, _, cls_1, by decide, tm_mem 139 (by decide +kernel) rfl, rfl, rfl, fun a => ⟨rfl, rfl⟩⟩
theorem fr_X2_13 : tn_fr RX2 13 2 0 := ⟨_, _, _, _, cls_2, by decide, tm_mem 87 (by decide +kernel) rfl, rfl, rfl, fun a => ⟨rfl, rfl⟩⟩
theorem fr_X3_11 : tn_fr RX3 11 3 0 := ⟨_, _, _, _, cls_3, by decide, tm_mem 281 (by decide +kernel) rfl, rfl, rfl, fun a => ⟨rfl, rfl⟩⟩
theorem fr_X3_17 : tn_fr RX3 17 3 1 := ⟨_, _, _, _, cls_3, by decide, tm_mem 282 (by decide +kernel) rfl, rfl, rfl, fun a => ⟨rfl, rfl⟩⟩
theorem fr_X3_21 : tn_fr RX3 21 3 2 := ⟨_, _, _, _, cls_3, by decide, tm_mem 283 (by decide +kernel) rfl, rfl, rfl, fun a => ⟨rfl, rfl⟩⟩
theorem fr_X3_24 : tn_fr RX3 24 3 3 := ⟨_, _, _, _, cls_3, by decide, tm_mem 285 (by decide +kernel) rfl, rfl, rfl, fun a => ⟨rfl, rfl⟩⟩
theorem fr_X3_27 : tn_fr RX3 27 3 4 := ⟨_, _, _, _, cls_3, by decide, tm_mem 286 (by decide +kernel) rfl, rfl, rfl, fun a => ⟨rfl, rfl⟩⟩
theorem fr_X5_12 : tn_fr RX5 12 5 0 := ⟨_, _, _, _, cls_5, by decide, tm_mem 239 (by decide +kernel) rfl, rfl, rfl, fun a => ⟨rfl, rfl⟩⟩
theorem fr_X5_18 : tn_fr RX5 18 5 1 := ⟨_, _, _, _, cls_5, by decide, tm_mem 241 (by decide +kernel) rfl, rfl, rfl, fun a => ⟨rfl, rfl⟩⟩
theorem fr_X5_22 : tn_fr RX5 22 5 2 := ⟨_, _, _, _, cls_5, by decide, tm_mem 243 (by decide +kernel) rfl, rfl, rfl, fun a => ⟨rfl, rfl⟩⟩
theorem fr_X5_25 : tn_fr RX5 25 5 3 := ⟨_, _, _, _, cls_5, by decide, tm_mem 245 (by decide +kernel) rfl, rfl, rfl, fun a => ⟨rfl, rfl⟩⟩
theorem fr_X5_28 : tn_fr RX5 28 5 4 := ⟨_, _, _, _, cls_5, by decide, tm_mem 247 (by decide +kernel) rfl, rfl, rfl, fun a => ⟨rfl, rfl⟩⟩
theorem fr_X5_31 : tn_fr RX5 31 5 5 := ⟨_, _, _, _, cls_5, by decide, tm_mem 249 (by decide +kernel) rfl, rfl, rfl, fun a => ⟨rfl, rfl⟩⟩
theorem fr_X5_34 : tn_fr RX5 34 5 6 := ⟨_, _, _, _, cls_5, by decide, tm_mem 251 (by decide +kernel) rfl, rfl, rfl, fun a => ⟨rfl, rfl⟩⟩
theorem fr_X6_9 : tn_fr RX6 9 6 0 := ⟨_, _, _, _, cls_6, by decide, tm_mem 108 (by decide +kernel) rfl, rfl, rfl, fun a => ⟨rfl, rfl⟩⟩
theorem fr_X7_14 : tn_fr RX7 14 7 0 := ⟨_, _, _, _, cls_7, by decide, tm_mem 302 (by decide +kernel) rfl, rfl, rfl, fun a => ⟨rfl, rfl⟩⟩
theorem fr_X7_18 : tn_fr RX7 18 7 1 := ⟨_, _, _, _, cls_7, by decide, tm_mem 303 (by decide +kernel) rfl, rfl, rfl, fun a => ⟨rfl, rfl⟩⟩
theorem fr_X7_22 : tn_fr RX7 22 7 2 := ⟨_, _, _, _, cls_7, by decide, tm_mem 304 (by decide +kernel) rfl, rfl, rfl, fun a => ⟨rfl, rfl⟩⟩
theorem fr_X7_25 : tn_fr RX7 25 7 3 := ⟨_, _, _, _, cls_7, by decide, tm_mem 305 (by decide +kernel) rfl, rfl, rfl, fun a => ⟨rfl, rfl⟩⟩
theorem fr_X7_28 : tn_fr RX7 28 7 4 := ⟨_, _, _, _, cls_7, by decide, tm_mem 306 (by decide +kernel) rfl, rfl, rfl, fun a => ⟨rfl, rfl⟩⟩
theorem fr_X7_34 : tn_fr RX7 34 7 5 := ⟨_, _, _, _, cls_7, by decide, tm_mem 307 (by decide +kernel) rfl, rfl, rfl, fun a => ⟨rfl, rfl⟩⟩
theorem fr_X7_41 : tn_fr RX7 41 7 7 := ⟨_, _, _, _, cls_7, by decide, tm_mem 309 (by decide +kernel) rfl, rfl, rfl, fun a => ⟨rfl, rfl⟩⟩
theorem fr_X7_54 : tn_fr RX7 54 7 8 := ⟨_, _, _, _, cls_7, by decide, tm_mem 310 (by decide +kernel) rfl, rfl, rfl, fun a => ⟨rfl, rfl⟩⟩
theorem fr_X7_62 : tn_fr RX7 62 7 9 := ⟨_, _, _, _, cls_7, by decide, tm_mem 311 (by decide +kernel) rfl, rfl, rfl, fun a => ⟨rfl, rfl⟩⟩
theorem fr_X7_69 : tn_fr RX7 69 7 10 := ⟨_, _, _, _, cls_7, by decide, tm_mem 312 (by decide +kernel) rfl, rfl, rfl, fun a => ⟨rfl, rfl⟩⟩
theorem fr_X7_73 : tn_fr RX7 73 7 11 := ⟨_, _, _, _, cls_7, by decide, tm_mem 313 (by decide +kernel) rfl, rfl, rfl, fun a => ⟨rfl, rfl⟩⟩
theorem fr_X7_76 : tn_fr RX7 76 7 12 := ⟨_, _, _, _, cls_7, by decide, tm_mem 314 (by decide +kernel) rfl, rfl, rfl, fun a => ⟨rfl, rfl⟩⟩
theorem fr_X7_82 : tn_fr RX7 82 7 13 := ⟨_, _, _, _, cls_7, by decide, tm_mem 315 (by decide +kernel) rfl, rfl, rfl, fun a => ⟨rfl, rfl⟩⟩
theorem fr_X7_86 : tn_fr RX7 86 7 14 := ⟨_, _, _, _, cls_7, by decide, tm_mem 316 (by decide +kernel) rfl, rfl, rfl, fun a => ⟨rfl, rfl⟩⟩
theorem fr_X7_90 : tn_fr RX7 90 7 15 := ⟨_, _, _, _, cls_7, by decide, tm_mem 317 (by decide +kernel) rfl, rfl, rfl, fun a => ⟨rfl, rfl⟩⟩
theorem fr_X8_7 : tn_fr RX8 7 8 0 := ⟨_, _, _, _, cls_8, by decide, tm_mem 747 (by decide +kernel) rfl, rfl, rfl, fun a => ⟨rfl, rfl⟩⟩
theorem fr_X8_13 : tn_fr RX8 13 8 1 := ⟨_, _, _, _, cls_8, by decide, tm_mem 748 (by decide +kernel) rfl, rfl, rfl, fun a => ⟨rfl, rfl⟩⟩
theorem fr_X8_16 : tn_fr RX8 16 8 3 := ⟨_, _, _, _, cls_8, by decide, tm_mem 750 (by decide +kernel) rfl, rfl, rfl, fun a => ⟨rfl, rfl⟩⟩
theorem fr_X8_19 : tn_fr RX8 19 8 5 := ⟨_, _, _, _, cls_8, by decide, tm_mem 752 (by decide +kernel) rfl, rfl, rfl, fun a => ⟨rfl, rfl⟩⟩
theorem fr_X8_22 : tn_fr RX8 22 8 6 := ⟨_, _, _, _, cls_8, by decide, tm_mem 753 (by decide +kernel) rfl, rfl, rfl, fun a => ⟨rfl, rfl⟩⟩
theorem fr_X8_25 : tn_fr RX8 25 8 7 := ⟨_, _, _, _, cls_8, by decide, tm_mem 754 (by decide +kernel) rfl, rfl, rfl, fun a => ⟨rfl, rfl⟩⟩
theorem fr_X8_28 : tn_fr RX8 28 8 8 := ⟨_, _, _, _, cls_8, by decide, tm_mem 755 (by decide +kernel) rfl, rfl, rfl, fun a => ⟨rfl, rfl⟩⟩
theorem fr_X8_31 : tn_fr RX8 31 8 9 := ⟨_, _, _, _, cls_8, by decide, tm_mem 756 (by decide +kernel) rfl, rfl, rfl, fun a => ⟨rfl, rfl⟩⟩
theorem fr_X8_34 : tn_fr RX8 34 8 11 := ⟨_, _, _, _, cls_8, by decide, tm_mem 758 (by decide +kernel) rfl, rfl, rfl, fun a => ⟨rfl, rfl⟩⟩
theorem fr_X8_37 : tn_fr RX8 37 8 13 := ⟨_, _, _, _, cls_8, by decide, tm_mem 760 (by decide +kernel) rfl, rfl, rfl, fun a => ⟨rfl, rfl⟩⟩
theorem fr_X8_40 : tn_fr RX8 40 8 14 := ⟨_, _, _, _, cls_8, by decide, tm_mem 761 (by decide +kernel) rfl, rfl, rfl, fun a => ⟨rfl, rfl⟩⟩
theorem fr_X8_43 : tn_fr RX8 43 8 18 := ⟨_, _, _, _, cls_8, by decide, tm_mem 765 (by decide +kernel) rfl, rfl, rfl, fun a => ⟨rfl, rfl⟩⟩
theorem fr_X8_46 : tn_fr RX8 46 8 28 := ⟨_, _, _, _, cls_8, by decide, tm_mem 775 (by decide +kernel) rfl, rfl, rfl, fun a => ⟨rfl, rfl⟩⟩
theorem fr_X8_49 : tn_fr RX8 49 8 29 := ⟨_, _, _, _, cls_8, by decide, tm_mem 776 (by decide +kernel) rfl, rfl, rfl, fun a => ⟨rfl, rfl⟩⟩
theorem fr_X8_52 : tn_fr RX8 52 8 30 := ⟨_, _, _, _, cls_8, by decide, tm_mem 777 (by decide +kernel) rfl, rfl, rfl, fun a => ⟨rfl, rfl⟩⟩
theorem fr_X8_55 : tn_fr RX8 55 8 31 := ⟨_, _, _, _, cls_8, by decide, tm_mem 778 (by decide +kernel) rfl, rfl, rfl, fun a => ⟨rfl, rfl⟩⟩
theorem fr_X8_58 : tn_fr RX8 58 8 32 := ⟨_, _, _, _, cls_8, by decide, tm_mem 779 (by decide +kernel) rfl, rfl, rfl, fun a => ⟨rfl, rfl⟩⟩
theorem fr_X8_61 : tn_fr RX8 61 8 33 := ⟨_, _, _, _, cls_8, by decide, tm_mem 780 (by decide +kernel) rfl, rfl, rfl, fun a => ⟨rfl, rfl⟩⟩
theorem fr_X8_64 : tn_fr RX8 64 8 34 := ⟨_, _, _, _, cls_8, by decide, tm_mem 781 (by decide +kernel) rfl, rfl, rfl, fun a => ⟨rfl, rfl⟩⟩
theorem fr_X8_67 : tn_fr RX8 67 8 36 := ⟨_, _, _, _, cls_8, by decide, tm_mem 783 (by decide +kernel) rfl, rfl, rfl, fun a => ⟨rfl, rfl⟩⟩
theorem fr_X8_70 : tn_fr RX8 70 8 37 := ⟨_, _, _, _, cls_8, by decide, tm_mem 784 (by decide +kernel) rfl, rfl, rfl, fun a => ⟨rfl, rfl⟩⟩
theorem fr_X8_73 : tn_fr RX8 73 8 38 := ⟨_, _, _, _, cls_8, by decide, tm_mem 785 (by decide +kernel) rfl, rfl, rfl, fun a => ⟨rfl, rfl⟩⟩
theorem fr_X8_76 : tn_fr RX8 76 8 39 := ⟨_, _, _, _, cls_8, by decide, tm_mem 786 (by decide +kernel) rfl, rfl, rfl, fun a => ⟨rfl, rfl⟩⟩
theorem fr_X8_80 : tn_fr RX8 80 8 40 := ⟨_, _, _, _, cls_8, by decide, tm_mem 787 (by decide +kernel) rfl, rfl, rfl, fun a => ⟨rfl, rfl⟩⟩
theorem fr_X8_83 : tn_fr RX8 83 8 41 := ⟨_, _, _, _, cls_8, by decide, tm_mem 788 (by decide +kernel) rfl, rfl, rfl, fun a => ⟨rfl, rfl⟩⟩
theorem fr_X8_86 : tn_fr RX8 86 8 42 := ⟨_, _, _, _, cls_8, by decide, tm_mem 789 (by decide +kernel) rfl, rfl, rfl, fun a => ⟨rfl, rfl⟩⟩
theorem fr_X8_89 : tn_fr RX8 89 8 43 := ⟨_, _, _, _, cls_8, by decide, tm_mem 790 (by decide +kernel) rfl, rfl, rfl, fun a => ⟨rfl, rfl⟩⟩
theorem tn_dflt {E : tm_Ev} {μ : tm_M} {nn N : Nat} {LL : List (Nat × Nat)} {fs : List (Option Nat)} {ty : Nat → FieldType} (hdn : ∀ j q, j < N → fs[j]? = some (some q) → tn_d LL nn j = false) (hz : ∀ j, μ nn j = 0) (hty : ∀ j, j < N → ∃ o, fs[j]? = some o ∧ defaultValue (ty j) = (match o with | none => Value.int 0 | some _ => Value.null)) : ∀ j, j < N → defaultValue (ty j) = vp_V (tn_F E.2.1 (μ nn) (tn_d LL nn) 0 fs) j := by
  intro j hj
  obtain ⟨o, h1, h2⟩ := hty j hj
  unfold vp_V
  rw [List.getD_eq_getElem?_getD, tn_F_at, h1, h2]
  cases o with
  | none => simp [hz, tm_i]
  | some q => simp [hdn j q hj h1]
theorem tn_eq {E : tm_Ev} {X : tm_X} {Q : State → Prop} {nL pc : Nat} {nn nn' : Nat} {LL : List (Nat × Nat)} {c1 s1 c1' s1' : Nat} {lv : List (Nat × Value)} {st : List Value} {μ : tm_M} (h1 : nn = nn') (h2 : c1 = c1') (h3 : s1 = s1') (k : tn_V E X Q nL pc lv st μ nn' LL c1' s1') : tn_V E X Q nL pc lv st μ nn LL c1 s1 := by
  subst h1 h2 h3
  exact k
theorem tn_zi {μ : tm_M} {nn N : Nat} {cA : ClassId} (hz : ∀ j, μ nn j = 0) : vp_cell cA (N, .inl (fun j => Int32.ofInt (μ nn j))) = arrV cA N (fun _ => defaultValue .int) := by
  show arrV cA N (fun j => .int (Int32.ofInt (μ nn j))) = _
  congr 1
  funext j
  rw [hz]
  rfl
theorem tn_zz {μ : tm_M} {nn N : Nat} {cA : ClassId} (hz : ∀ j, μ nn j = 0) : vp_cell cA (N, .inl (fun j => Int32.ofInt (μ nn j))) = arrV cA N (fun _ => defaultValue .boolean) := by
  show arrV cA N (fun j => .int (Int32.ofInt (μ nn j))) = _
  congr 1
  funext j
  rw [hz]
  rfl
theorem tn_zl {μ : tm_M} {nn N : Nat} {cA : ClassId} (hz : ∀ j, μ nn j = 0) : vp_cell cA (N, .inr (.inl (fun j => Int64.ofInt (μ nn j)))) = arrV cA N (fun _ => defaultValue .long) := by
  show arrV cA N (fun j => .long (Int64.ofInt (μ nn j))) = _
  congr 1
  funext j
  rw [hz]
  rfl
theorem tn_newi {E : tm_Ev} {X : tm_X} {Q : State → Prop} {own : String} {cc : ByteArray} {nL : Nat} {pc : Nat} {nn : Nat} {LL : List (Nat × Nat)} {c1 s1 d mc ms n0 : Nat} {lv : List (Nat × Value)} {st : List Value} {μ : tm_M} {N : Nat} {fs : List (Option Nat)} {i : Int} (C : tn_C E X own cc nL d mc ms n0) (hn : n0 + c1 = nn) (h102 : nn < 102) (ht : tm_tm[nn]? = some (1, N, fs)) (hz : ∀ j, μ nn j = 0) (hi : i = (N : Int)) (hc : c1 + 1 ≤ mc) (hs : s1 + N ≤ ms) (hd : decode cc pc = .ok (.newarray .int, 2)) (kk : tn_V E X Q nL (pc + 2) lv (.ref (E.2.1 nn) :: st) μ (nn + 1) LL (c1 + 1) (s1 + N)) : tn_V E X Q nL pc lv (tm_i i :: st) μ nn LL c1 s1 := by
  have hN := tm_n ht
  exact tn_newa (t0 := 0) (at_ := .int) (ty := .int) (cA := E.2.2.1 0) C hn h102 ht rfl rfl (fun _ h => h) ar_int rfl (tn_zi hz) hi (by show N * 4 ≤ _; omega) hc hs hd kk
theorem tn_newz {E : tm_Ev} {X : tm_X} {Q : State → Prop} {own : String} {cc : ByteArray} {nL : Nat} {pc : Nat} {nn : Nat} {LL : List (Nat × Nat)} {c1 s1 d mc ms n0 : Nat} {lv : List (Nat × Value)} {st : List Value} {μ : tm_M} {N : Nat} {fs : List (Option Nat)} {i : Int} (C : tn_C E X own cc nL d mc ms n0) (hn : n0 + c1 = nn) (h102 : nn < 102) (ht : tm_tm[nn]? = some (3, N, fs)) (hz : ∀ j, μ nn j = 0) (hi : i = (N : Int)) (hc : c1 + 1 ≤ mc) (hs : s1 + N ≤ ms) (hd : decode cc pc = .ok (.newarray .boolean, 2)) (kk : tn_V E X Q nL (pc + 2) lv (.ref (E.2.1 nn) :: st) μ (nn + 1) LL (c1 + 1) (s1 + N)) : tn_V E X Q nL pc lv (tm_i i :: st) μ nn LL c1 s1 := by
  have hN := tm_n ht
  exact tn_newa (t0 := 2) (at_ := .boolean) (ty := .boolean) (cA := E.2.2.1 2) C hn h102 ht rfl rfl (fun _ h => h) ar_boolean rfl (tn_zz hz) hi (by show N * 1 ≤ _; omega) hc hs hd kk
theorem tn_newl {E : tm_Ev} {X : tm_X} {Q : State → Prop} {own : String} {cc : ByteArray} {nL : Nat} {pc : Nat} {nn : Nat} {LL : List (Nat × Nat)} {c1 s1 d mc ms n0 : Nat} {lv : List (Nat × Value)} {st : List Value} {μ : tm_M} {N : Nat} {fs : List (Option Nat)} {i : Int} (C : tn_C E X own cc nL d mc ms n0) (hn : n0 + c1 = nn) (h102 : nn < 102) (ht : tm_tm[nn]? = some (2, N, fs)) (hz : ∀ j, μ nn j = 0) (hi : i = (N : Int)) (hc : c1 + 1 ≤ mc) (hs : s1 + N ≤ ms) (hd : decode cc pc = .ok (.newarray .long, 2)) (kk : tn_V E X Q nL (pc + 2) lv (.ref (E.2.1 nn) :: st) μ (nn + 1) LL (c1 + 1) (s1 + N)) : tn_V E X Q nL pc lv (tm_i i :: st) μ nn LL c1 s1 := by
  have hN := tm_n ht
  exact tn_newa (t0 := 1) (at_ := .long) (ty := .long) (cA := E.2.2.1 1) C hn h102 ht rfl rfl (fun _ h => h) ar_long rfl (tn_zl hz) hi (by show N * 8 ≤ _; omega) hc hs hd kk
