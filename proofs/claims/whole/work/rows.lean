section
-- ===== PART A: goes FIRST, ahead of the names: the tables' words, and 'selects' of the private methods out of them =====
/-- a private method of a class that the tables say can be made, by its rows of tables_1 -/
def lw_okq (q : MethodName × Nat) : Prop := (q.1.cls ≠ "java/lang/invoke/MethodHandle" ∧ q.1.cls ≠ "java/lang/invoke/VarHandle") ∧ Cond.instantiable q.1.cls q.2 ∈ tables_1 ∧ Cond.privateMethod q.1 ∈ tables_1 ∧ Cond.instanceMethod q.1 ∈ tables_1
theorem lw_p0 : lw_okq (⟨"TideMill", "more", "(LTideMill$Pile;I)I"⟩, 19) := ⟨⟨by decide +kernel, by decide +kernel⟩, List.mem_of_getElem? (i := 15) (by decide +kernel), List.mem_of_getElem? (i := 314) (by decide +kernel), List.mem_of_getElem? (i := 315) (by decide +kernel)⟩
theorem lw_p1 : lw_okq (⟨"TideMill", "changed", "()V"⟩, 19) := ⟨⟨by decide +kernel, by decide +kernel⟩, List.mem_of_getElem? (i := 15) (by decide +kernel), List.mem_of_getElem? (i := 327) (by decide +kernel), List.mem_of_getElem? (i := 328) (by decide +kernel)⟩
theorem lw_p2 : lw_okq (⟨"TideMill", "less", "(LTideMill$Pile;)I"⟩, 19) := ⟨⟨by decide +kernel, by decide +kernel⟩, List.mem_of_getElem? (i := 15) (by decide +kernel), List.mem_of_getElem? (i := 339) (by decide +kernel), List.mem_of_getElem? (i := 340) (by decide +kernel)⟩
theorem lw_p3 : lw_okq (⟨"TideMill", "settle", "()V"⟩, 19) := ⟨⟨by decide +kernel, by decide +kernel⟩, List.mem_of_getElem? (i := 15) (by decide +kernel), List.mem_of_getElem? (i := 366) (by decide +kernel), List.mem_of_getElem? (i := 367) (by decide +kernel)⟩
theorem lw_p4 : lw_okq (⟨"TideMill", "isOrder", "(I)Z"⟩, 19) := ⟨⟨by decide +kernel, by decide +kernel⟩, List.mem_of_getElem? (i := 15) (by decide +kernel), List.mem_of_getElem? (i := 419) (by decide +kernel), List.mem_of_getElem? (i := 420) (by decide +kernel)⟩
theorem lw_p5 : lw_okq (⟨"TideMill", "found", "(I)I"⟩, 19) := ⟨⟨by decide +kernel, by decide +kernel⟩, List.mem_of_getElem? (i := 15) (by decide +kernel), List.mem_of_getElem? (i := 454) (by decide +kernel), List.mem_of_getElem? (i := 455) (by decide +kernel)⟩
theorem lw_p6 : lw_okq (⟨"TideMill$Plan", "reachedBefore", "(LTideMill$Pond;II)Z"⟩, 6) := ⟨⟨by decide +kernel, by decide +kernel⟩, List.mem_of_getElem? (i := 218) (by decide +kernel), List.mem_of_getElem? (i := 508) (by decide +kernel), List.mem_of_getElem? (i := 509) (by decide +kernel)⟩
theorem lw_p7 : lw_okq (⟨"TideMill$Plan", "grind", "(LTideMill$Mill;II)Z"⟩, 6) := ⟨⟨by decide +kernel, by decide +kernel⟩, List.mem_of_getElem? (i := 218) (by decide +kernel), List.mem_of_getElem? (i := 512) (by decide +kernel), List.mem_of_getElem? (i := 513) (by decide +kernel)⟩
theorem lw_p8 : lw_okq (⟨"TideMill", "comesOutSo", "()Z"⟩, 19) := ⟨⟨by decide +kernel, by decide +kernel⟩, List.mem_of_getElem? (i := 15) (by decide +kernel), List.mem_of_getElem? (i := 561) (by decide +kernel), List.mem_of_getElem? (i := 562) (by decide +kernel)⟩
theorem lw_p9 : lw_okq (⟨"TideMill", "countCrowd", "()V"⟩, 19) := ⟨⟨by decide +kernel, by decide +kernel⟩, List.mem_of_getElem? (i := 15) (by decide +kernel), List.mem_of_getElem? (i := 573) (by decide +kernel), List.mem_of_getElem? (i := 574) (by decide +kernel)⟩
theorem lw_p10 : lw_okq (⟨"TideMill", "greatestCrowd", "(I)I"⟩, 19) := ⟨⟨by decide +kernel, by decide +kernel⟩, List.mem_of_getElem? (i := 15) (by decide +kernel), List.mem_of_getElem? (i := 577) (by decide +kernel), List.mem_of_getElem? (i := 578) (by decide +kernel)⟩
theorem lw_p11 : lw_okq (⟨"TideMill", "weighShowers", "(I)V"⟩, 19) := ⟨⟨by decide +kernel, by decide +kernel⟩, List.mem_of_getElem? (i := 15) (by decide +kernel), List.mem_of_getElem? (i := 587) (by decide +kernel), List.mem_of_getElem? (i := 588) (by decide +kernel)⟩
theorem lw_p12 : lw_okq (⟨"TideMillModel", "faultOf", "(I)I"⟩, 45) := ⟨⟨by decide +kernel, by decide +kernel⟩, List.mem_of_getElem? (i := 687) (by decide +kernel), List.mem_of_getElem? (i := 852) (by decide +kernel), List.mem_of_getElem? (i := 853) (by decide +kernel)⟩
theorem lw_p13 : lw_okq (⟨"TideMillModel", "readsTides", "()I"⟩, 45) := ⟨⟨by decide +kernel, by decide +kernel⟩, List.mem_of_getElem? (i := 687) (by decide +kernel), List.mem_of_getElem? (i := 856) (by decide +kernel), List.mem_of_getElem? (i := 857) (by decide +kernel)⟩
theorem lw_p14 : lw_okq (⟨"TideMillModel", "readsOrders", "()I"⟩, 45) := ⟨⟨by decide +kernel, by decide +kernel⟩, List.mem_of_getElem? (i := 687) (by decide +kernel), List.mem_of_getElem? (i := 860) (by decide +kernel), List.mem_of_getElem? (i := 861) (by decide +kernel)⟩
theorem lw_p15 : lw_okq (⟨"TideMillModel", "readsOrder", "(II)I"⟩, 45) := ⟨⟨by decide +kernel, by decide +kernel⟩, List.mem_of_getElem? (i := 687) (by decide +kernel), List.mem_of_getElem? (i := 864) (by decide +kernel), List.mem_of_getElem? (i := 865) (by decide +kernel)⟩
def lw_privs_1 : List (MethodName × Nat) := [(⟨"TideMill", "more", "(LTideMill$Pile;I)I"⟩, 19), (⟨"TideMill", "changed", "()V"⟩, 19), (⟨"TideMill", "less", "(LTideMill$Pile;)I"⟩, 19), (⟨"TideMill", "settle", "()V"⟩, 19), (⟨"TideMill", "isOrder", "(I)Z"⟩, 19), (⟨"TideMill", "found", "(I)I"⟩, 19), (⟨"TideMill$Plan", "reachedBefore", "(LTideMill$Pond;II)Z"⟩, 6), (⟨"TideMill$Plan", "grind", "(LTideMill$Mill;II)Z"⟩, 6), (⟨"TideMill", "comesOutSo", "()Z"⟩, 19), (⟨"TideMill", "countCrowd", "()V"⟩, 19), (⟨"TideMill", "greatestCrowd", "(I)I"⟩, 19), (⟨"TideMill", "weighShowers", "(I)V"⟩, 19), (⟨"TideMillModel", "faultOf", "(I)I"⟩, 45), (⟨"TideMillModel", "readsTides", "()I"⟩, 45), (⟨"TideMillModel", "readsOrders", "()I"⟩, 45), (⟨"TideMillModel", "readsOrder", "(II)I"⟩, 45)]
theorem lw_r1 : ∀ q ∈ lw_privs_1, lw_okq q := List.forall_mem_cons.mpr ⟨lw_p0, List.forall_mem_cons.mpr ⟨lw_p1, List.forall_mem_cons.mpr ⟨lw_p2, List.forall_mem_cons.mpr ⟨lw_p3, List.forall_mem_cons.mpr ⟨lw_p4, List.forall_mem_cons.mpr ⟨lw_p5, List.forall_mem_cons.mpr ⟨lw_p6, List.forall_mem_cons.mpr ⟨lw_p7, List.forall_mem_cons.mpr ⟨lw_p8, List.forall_mem_cons.mpr ⟨lw_p9, List.forall_mem_cons.mpr ⟨lw_p10, List.forall_mem_cons.mpr ⟨lw_p11, List.forall_mem_cons.mpr ⟨lw_p12, List.forall_mem_cons.mpr ⟨lw_p13, List.forall_mem_cons.mpr ⟨lw_p14, List.forall_mem_cons.mpr ⟨lw_p15, fun _ h => absurd h List.not_mem_nil⟩⟩⟩⟩⟩⟩⟩⟩⟩⟩⟩⟩⟩⟩⟩⟩
theorem lw_p16 : lw_okq (⟨"TideMillModel", "isWell", "(II)Z"⟩, 45) := ⟨⟨by decide +kernel, by decide +kernel⟩, List.mem_of_getElem? (i := 687) (by decide +kernel), List.mem_of_getElem? (i := 868) (by decide +kernel), List.mem_of_getElem? (i := 869) (by decide +kernel)⟩
theorem lw_p17 : lw_okq (⟨"TideMillModel", "byteAt", "(I)I"⟩, 45) := ⟨⟨by decide +kernel, by decide +kernel⟩, List.mem_of_getElem? (i := 687) (by decide +kernel), List.mem_of_getElem? (i := 872) (by decide +kernel), List.mem_of_getElem? (i := 873) (by decide +kernel)⟩
theorem lw_p18 : lw_okq (⟨"TideMillModel", "seaOf", "(I)I"⟩, 45) := ⟨⟨by decide +kernel, by decide +kernel⟩, List.mem_of_getElem? (i := 687) (by decide +kernel), List.mem_of_getElem? (i := 883) (by decide +kernel), List.mem_of_getElem? (i := 884) (by decide +kernel)⟩
theorem lw_p19 : lw_okq (⟨"TideMillModel", "reads", "()V"⟩, 45) := ⟨⟨by decide +kernel, by decide +kernel⟩, List.mem_of_getElem? (i := 687) (by decide +kernel), List.mem_of_getElem? (i := 887) (by decide +kernel), List.mem_of_getElem? (i := 888) (by decide +kernel)⟩
theorem lw_p20 : lw_okq (⟨"TideMillModel", "isOrder", "(I)Z"⟩, 45) := ⟨⟨by decide +kernel, by decide +kernel⟩, List.mem_of_getElem? (i := 687) (by decide +kernel), List.mem_of_getElem? (i := 895) (by decide +kernel), List.mem_of_getElem? (i := 896) (by decide +kernel)⟩
theorem lw_p21 : lw_okq (⟨"TideMillModel", "orderOf", "(II)I"⟩, 45) := ⟨⟨by decide +kernel, by decide +kernel⟩, List.mem_of_getElem? (i := 687) (by decide +kernel), List.mem_of_getElem? (i := 899) (by decide +kernel), List.mem_of_getElem? (i := 900) (by decide +kernel)⟩
theorem lw_p22 : lw_okq (⟨"TideMillModel", "meets", "(I)I"⟩, 45) := ⟨⟨by decide +kernel, by decide +kernel⟩, List.mem_of_getElem? (i := 687) (by decide +kernel), List.mem_of_getElem? (i := 926) (by decide +kernel), List.mem_of_getElem? (i := 927) (by decide +kernel)⟩
theorem lw_p23 : lw_okq (⟨"TideMillModel", "atOf", "(II)I"⟩, 45) := ⟨⟨by decide +kernel, by decide +kernel⟩, List.mem_of_getElem? (i := 687) (by decide +kernel), List.mem_of_getElem? (i := 935) (by decide +kernel), List.mem_of_getElem? (i := 936) (by decide +kernel)⟩
theorem lw_p24 : lw_okq (⟨"TideMillModel", "runsTold", "()V"⟩, 45) := ⟨⟨by decide +kernel, by decide +kernel⟩, List.mem_of_getElem? (i := 687) (by decide +kernel), List.mem_of_getElem? (i := 939) (by decide +kernel), List.mem_of_getElem? (i := 940) (by decide +kernel)⟩
theorem lw_p25 : lw_okq (⟨"TideMillModel", "asTold", "()V"⟩, 45) := ⟨⟨by decide +kernel, by decide +kernel⟩, List.mem_of_getElem? (i := 687) (by decide +kernel), List.mem_of_getElem? (i := 943) (by decide +kernel), List.mem_of_getElem? (i := 944) (by decide +kernel)⟩
theorem lw_p26 : lw_okq (⟨"TideMillModel", "runs", "()V"⟩, 45) := ⟨⟨by decide +kernel, by decide +kernel⟩, List.mem_of_getElem? (i := 687) (by decide +kernel), List.mem_of_getElem? (i := 947) (by decide +kernel), List.mem_of_getElem? (i := 948) (by decide +kernel)⟩
theorem lw_p27 : lw_okq (⟨"TideMillModel", "goesBy", "(I)V"⟩, 45) := ⟨⟨by decide +kernel, by decide +kernel⟩, List.mem_of_getElem? (i := 687) (by decide +kernel), List.mem_of_getElem? (i := 951) (by decide +kernel), List.mem_of_getElem? (i := 952) (by decide +kernel)⟩
theorem lw_p28 : lw_okq (⟨"TideMillModel", "fills", "(I)V"⟩, 45) := ⟨⟨by decide +kernel, by decide +kernel⟩, List.mem_of_getElem? (i := 687) (by decide +kernel), List.mem_of_getElem? (i := 955) (by decide +kernel), List.mem_of_getElem? (i := 956) (by decide +kernel)⟩
theorem lw_p29 : lw_okq (⟨"TideMillModel", "isDressed", "(I)Z"⟩, 45) := ⟨⟨by decide +kernel, by decide +kernel⟩, List.mem_of_getElem? (i := 687) (by decide +kernel), List.mem_of_getElem? (i := 962) (by decide +kernel), List.mem_of_getElem? (i := 963) (by decide +kernel)⟩
theorem lw_p30 : lw_okq (⟨"TideMillModel", "grinds", "(I)V"⟩, 45) := ⟨⟨by decide +kernel, by decide +kernel⟩, List.mem_of_getElem? (i := 687) (by decide +kernel), List.mem_of_getElem? (i := 966) (by decide +kernel), List.mem_of_getElem? (i := 967) (by decide +kernel)⟩
theorem lw_p31 : lw_okq (⟨"TideMillModel", "endsOf", "(I)I"⟩, 45) := ⟨⟨by decide +kernel, by decide +kernel⟩, List.mem_of_getElem? (i := 687) (by decide +kernel), List.mem_of_getElem? (i := 974) (by decide +kernel), List.mem_of_getElem? (i := 975) (by decide +kernel)⟩
def lw_privs_2 : List (MethodName × Nat) := [(⟨"TideMillModel", "isWell", "(II)Z"⟩, 45), (⟨"TideMillModel", "byteAt", "(I)I"⟩, 45), (⟨"TideMillModel", "seaOf", "(I)I"⟩, 45), (⟨"TideMillModel", "reads", "()V"⟩, 45), (⟨"TideMillModel", "isOrder", "(I)Z"⟩, 45), (⟨"TideMillModel", "orderOf", "(II)I"⟩, 45), (⟨"TideMillModel", "meets", "(I)I"⟩, 45), (⟨"TideMillModel", "atOf", "(II)I"⟩, 45), (⟨"TideMillModel", "runsTold", "()V"⟩, 45), (⟨"TideMillModel", "asTold", "()V"⟩, 45), (⟨"TideMillModel", "runs", "()V"⟩, 45), (⟨"TideMillModel", "goesBy", "(I)V"⟩, 45), (⟨"TideMillModel", "fills", "(I)V"⟩, 45), (⟨"TideMillModel", "isDressed", "(I)Z"⟩, 45), (⟨"TideMillModel", "grinds", "(I)V"⟩, 45), (⟨"TideMillModel", "endsOf", "(I)I"⟩, 45)]
theorem lw_r2 : ∀ q ∈ lw_privs_2, lw_okq q := List.forall_mem_cons.mpr ⟨lw_p16, List.forall_mem_cons.mpr ⟨lw_p17, List.forall_mem_cons.mpr ⟨lw_p18, List.forall_mem_cons.mpr ⟨lw_p19, List.forall_mem_cons.mpr ⟨lw_p20, List.forall_mem_cons.mpr ⟨lw_p21, List.forall_mem_cons.mpr ⟨lw_p22, List.forall_mem_cons.mpr ⟨lw_p23, List.forall_mem_cons.mpr ⟨lw_p24, List.forall_mem_cons.mpr ⟨lw_p25, List.forall_mem_cons.mpr ⟨lw_p26, List.forall_mem_cons.mpr ⟨lw_p27, List.forall_mem_cons.mpr ⟨lw_p28, List.forall_mem_cons.mpr ⟨lw_p29, List.forall_mem_cons.mpr ⟨lw_p30, List.forall_mem_cons.mpr ⟨lw_p31, fun _ h => absurd h List.not_mem_nil⟩⟩⟩⟩⟩⟩⟩⟩⟩⟩⟩⟩⟩⟩⟩⟩
theorem lw_p32 : lw_okq (⟨"TideMillModel", "paidOf", "()I"⟩, 45) := ⟨⟨by decide +kernel, by decide +kernel⟩, List.mem_of_getElem? (i := 687) (by decide +kernel), List.mem_of_getElem? (i := 982) (by decide +kernel), List.mem_of_getElem? (i := 983) (by decide +kernel)⟩
theorem lw_p33 : lw_okq (⟨"TideMillModel", "paidNow", "()I"⟩, 45) := ⟨⟨by decide +kernel, by decide +kernel⟩, List.mem_of_getElem? (i := 687) (by decide +kernel), List.mem_of_getElem? (i := 986) (by decide +kernel), List.mem_of_getElem? (i := 987) (by decide +kernel)⟩
theorem lw_p34 : lw_okq (⟨"TideMillModel", "isPaid", "(I)Z"⟩, 45) := ⟨⟨by decide +kernel, by decide +kernel⟩, List.mem_of_getElem? (i := 687) (by decide +kernel), List.mem_of_getElem? (i := 990) (by decide +kernel), List.mem_of_getElem? (i := 991) (by decide +kernel)⟩
theorem lw_p35 : lw_okq (⟨"TideMillModel", "spiltOf", "()I"⟩, 45) := ⟨⟨by decide +kernel, by decide +kernel⟩, List.mem_of_getElem? (i := 687) (by decide +kernel), List.mem_of_getElem? (i := 998) (by decide +kernel), List.mem_of_getElem? (i := 999) (by decide +kernel)⟩
theorem lw_p36 : lw_okq (⟨"TideMillModel", "idleOf", "()I"⟩, 45) := ⟨⟨by decide +kernel, by decide +kernel⟩, List.mem_of_getElem? (i := 687) (by decide +kernel), List.mem_of_getElem? (i := 1006) (by decide +kernel), List.mem_of_getElem? (i := 1007) (by decide +kernel)⟩
theorem lw_p37 : lw_okq (⟨"TideMillModel", "lateOf", "()I"⟩, 45) := ⟨⟨by decide +kernel, by decide +kernel⟩, List.mem_of_getElem? (i := 687) (by decide +kernel), List.mem_of_getElem? (i := 1014) (by decide +kernel), List.mem_of_getElem? (i := 1015) (by decide +kernel)⟩
theorem lw_p38 : lw_okq (⟨"TideMillModel", "rowOf", "(I)I"⟩, 45) := ⟨⟨by decide +kernel, by decide +kernel⟩, List.mem_of_getElem? (i := 687) (by decide +kernel), List.mem_of_getElem? (i := 1022) (by decide +kernel), List.mem_of_getElem? (i := 1023) (by decide +kernel)⟩
theorem lw_p39 : lw_okq (⟨"TideMillModel", "rowBy", "()I"⟩, 45) := ⟨⟨by decide +kernel, by decide +kernel⟩, List.mem_of_getElem? (i := 687) (by decide +kernel), List.mem_of_getElem? (i := 1026) (by decide +kernel), List.mem_of_getElem? (i := 1027) (by decide +kernel)⟩
theorem lw_p40 : lw_okq (⟨"TideMillModel", "nextRow", "()Z"⟩, 45) := ⟨⟨by decide +kernel, by decide +kernel⟩, List.mem_of_getElem? (i := 687) (by decide +kernel), List.mem_of_getElem? (i := 1030) (by decide +kernel), List.mem_of_getElem? (i := 1031) (by decide +kernel)⟩
theorem lw_p41 : lw_okq (⟨"TideMillModel", "dressOf", "(I)I"⟩, 45) := ⟨⟨by decide +kernel, by decide +kernel⟩, List.mem_of_getElem? (i := 687) (by decide +kernel), List.mem_of_getElem? (i := 1038) (by decide +kernel), List.mem_of_getElem? (i := 1039) (by decide +kernel)⟩
theorem lw_p42 : lw_okq (⟨"TideMillModel", "leastNow", "()I"⟩, 45) := ⟨⟨by decide +kernel, by decide +kernel⟩, List.mem_of_getElem? (i := 687) (by decide +kernel), List.mem_of_getElem? (i := 1046) (by decide +kernel), List.mem_of_getElem? (i := 1047) (by decide +kernel)⟩
theorem lw_p43 : lw_okq (⟨"TideMillModel", "sendOf", "(I)I"⟩, 45) := ⟨⟨by decide +kernel, by decide +kernel⟩, List.mem_of_getElem? (i := 687) (by decide +kernel), List.mem_of_getElem? (i := 1054) (by decide +kernel), List.mem_of_getElem? (i := 1055) (by decide +kernel)⟩
theorem lw_p44 : lw_okq (⟨"TideMillModel", "neverNow", "()I"⟩, 45) := ⟨⟨by decide +kernel, by decide +kernel⟩, List.mem_of_getElem? (i := 687) (by decide +kernel), List.mem_of_getElem? (i := 1070) (by decide +kernel), List.mem_of_getElem? (i := 1071) (by decide +kernel)⟩
theorem lw_p45 : lw_okq (⟨"TideMillModel", "isSeen", "()Z"⟩, 45) := ⟨⟨by decide +kernel, by decide +kernel⟩, List.mem_of_getElem? (i := 687) (by decide +kernel), List.mem_of_getElem? (i := 1074) (by decide +kernel), List.mem_of_getElem? (i := 1075) (by decide +kernel)⟩
theorem lw_p46 : lw_okq (⟨"TideMillModel", "flowsBy", "()I"⟩, 45) := ⟨⟨by decide +kernel, by decide +kernel⟩, List.mem_of_getElem? (i := 687) (by decide +kernel), List.mem_of_getElem? (i := 1082) (by decide +kernel), List.mem_of_getElem? (i := 1083) (by decide +kernel)⟩
theorem lw_p47 : lw_okq (⟨"TideMillModel", "startsBy", "()I"⟩, 45) := ⟨⟨by decide +kernel, by decide +kernel⟩, List.mem_of_getElem? (i := 687) (by decide +kernel), List.mem_of_getElem? (i := 1086) (by decide +kernel), List.mem_of_getElem? (i := 1087) (by decide +kernel)⟩
def lw_privs_3 : List (MethodName × Nat) := [(⟨"TideMillModel", "paidOf", "()I"⟩, 45), (⟨"TideMillModel", "paidNow", "()I"⟩, 45), (⟨"TideMillModel", "isPaid", "(I)Z"⟩, 45), (⟨"TideMillModel", "spiltOf", "()I"⟩, 45), (⟨"TideMillModel", "idleOf", "()I"⟩, 45), (⟨"TideMillModel", "lateOf", "()I"⟩, 45), (⟨"TideMillModel", "rowOf", "(I)I"⟩, 45), (⟨"TideMillModel", "rowBy", "()I"⟩, 45), (⟨"TideMillModel", "nextRow", "()Z"⟩, 45), (⟨"TideMillModel", "dressOf", "(I)I"⟩, 45), (⟨"TideMillModel", "leastNow", "()I"⟩, 45), (⟨"TideMillModel", "sendOf", "(I)I"⟩, 45), (⟨"TideMillModel", "neverNow", "()I"⟩, 45), (⟨"TideMillModel", "isSeen", "()Z"⟩, 45), (⟨"TideMillModel", "flowsBy", "()I"⟩, 45), (⟨"TideMillModel", "startsBy", "()I"⟩, 45)]
theorem lw_r3 : ∀ q ∈ lw_privs_3, lw_okq q := List.forall_mem_cons.mpr ⟨lw_p32, List.forall_mem_cons.mpr ⟨lw_p33, List.forall_mem_cons.mpr ⟨lw_p34, List.forall_mem_cons.mpr ⟨lw_p35, List.forall_mem_cons.mpr ⟨lw_p36, List.forall_mem_cons.mpr ⟨lw_p37, List.forall_mem_cons.mpr ⟨lw_p38, List.forall_mem_cons.mpr ⟨lw_p39, List.forall_mem_cons.mpr ⟨lw_p40, List.forall_mem_cons.mpr ⟨lw_p41, List.forall_mem_cons.mpr ⟨lw_p42, List.forall_mem_cons.mpr ⟨lw_p43, List.forall_mem_cons.mpr ⟨lw_p44, List.forall_mem_cons.mpr ⟨lw_p45, List.forall_mem_cons.mpr ⟨lw_p46, List.forall_mem_cons.mpr ⟨lw_p47, fun _ h => absurd h List.not_mem_nil⟩⟩⟩⟩⟩⟩⟩⟩⟩⟩⟩⟩⟩⟩⟩⟩
theorem lw_p48 : lw_okq (⟨"TideMillModel", "askNow", "()I"⟩, 45) := ⟨⟨by decide +kernel, by decide +kernel⟩, List.mem_of_getElem? (i := 687) (by decide +kernel), List.mem_of_getElem? (i := 1094) (by decide +kernel), List.mem_of_getElem? (i := 1095) (by decide +kernel)⟩
theorem lw_p49 : lw_okq (⟨"TideMillModel", "showerOf", "(III)J"⟩, 45) := ⟨⟨by decide +kernel, by decide +kernel⟩, List.mem_of_getElem? (i := 687) (by decide +kernel), List.mem_of_getElem? (i := 1102) (by decide +kernel), List.mem_of_getElem? (i := 1103) (by decide +kernel)⟩
theorem lw_p50 : lw_okq (⟨"TideMillModel", "moonOf", "(III)I"⟩, 45) := ⟨⟨by decide +kernel, by decide +kernel⟩, List.mem_of_getElem? (i := 687) (by decide +kernel), List.mem_of_getElem? (i := 1117) (by decide +kernel), List.mem_of_getElem? (i := 1118) (by decide +kernel)⟩
theorem lw_p51 : lw_okq (⟨"TideMillModel", "lacks", "(III)I"⟩, 45) := ⟨⟨by decide +kernel, by decide +kernel⟩, List.mem_of_getElem? (i := 687) (by decide +kernel), List.mem_of_getElem? (i := 1134) (by decide +kernel), List.mem_of_getElem? (i := 1135) (by decide +kernel)⟩
theorem lw_p52 : lw_okq (⟨"TideMillModel", "keep", "(III)V"⟩, 45) := ⟨⟨by decide +kernel, by decide +kernel⟩, List.mem_of_getElem? (i := 687) (by decide +kernel), List.mem_of_getElem? (i := 1138) (by decide +kernel), List.mem_of_getElem? (i := 1139) (by decide +kernel)⟩
theorem lw_p53 : lw_okq (⟨"TideMillModel", "sumOf", "(I)I"⟩, 45) := ⟨⟨by decide +kernel, by decide +kernel⟩, List.mem_of_getElem? (i := 687) (by decide +kernel), List.mem_of_getElem? (i := 1159) (by decide +kernel), List.mem_of_getElem? (i := 1160) (by decide +kernel)⟩
theorem lw_p54 : lw_okq (⟨"TideMillModel", "orderDigest", "(JI)J"⟩, 45) := ⟨⟨by decide +kernel, by decide +kernel⟩, List.mem_of_getElem? (i := 687) (by decide +kernel), List.mem_of_getElem? (i := 1170) (by decide +kernel), List.mem_of_getElem? (i := 1171) (by decide +kernel)⟩
def lw_privs_4 : List (MethodName × Nat) := [(⟨"TideMillModel", "askNow", "()I"⟩, 45), (⟨"TideMillModel", "showerOf", "(III)J"⟩, 45), (⟨"TideMillModel", "moonOf", "(III)I"⟩, 45), (⟨"TideMillModel", "lacks", "(III)I"⟩, 45), (⟨"TideMillModel", "keep", "(III)V"⟩, 45), (⟨"TideMillModel", "sumOf", "(I)I"⟩, 45), (⟨"TideMillModel", "orderDigest", "(JI)J"⟩, 45)]
theorem lw_r4 : ∀ q ∈ lw_privs_4, lw_okq q := List.forall_mem_cons.mpr ⟨lw_p48, List.forall_mem_cons.mpr ⟨lw_p49, List.forall_mem_cons.mpr ⟨lw_p50, List.forall_mem_cons.mpr ⟨lw_p51, List.forall_mem_cons.mpr ⟨lw_p52, List.forall_mem_cons.mpr ⟨lw_p53, List.forall_mem_cons.mpr ⟨lw_p54, fun _ h => absurd h List.not_mem_nil⟩⟩⟩⟩⟩⟩⟩
def lw_privs : List (MethodName × Nat) := lw_privs_1 ++ (lw_privs_2 ++ (lw_privs_3 ++ (lw_privs_4)))
def lw_tbl : List Cond := k2_sels lw_privs ++ tables_1
theorem lw_privs_ok : ∀ q ∈ lw_privs, lw_okq q := by
  show ∀ q ∈ lw_privs_1 ++ (lw_privs_2 ++ (lw_privs_3 ++ (lw_privs_4))), lw_okq q
  exact List.forall_mem_append.mpr ⟨lw_r1, List.forall_mem_append.mpr ⟨lw_r2, List.forall_mem_append.mpr ⟨lw_r3, lw_r4⟩⟩⟩
end
section
/-! ===== BEGIN words of one list among another's, by their places ===== -/
theorem goodIn_r {big : List Cond} (ws : List Cond) (ps : List Nat) (hp : ws = ps.filterMap (fun i => big[i]?)) (h : ws.all goodWord = true) : GoodIn big ws := by
  intro w hw
  have h1 := List.all_eq_true.mp h w hw
  rw [hp] at hw
  obtain ⟨i, -, hi⟩ := List.mem_filterMap.mp hw
  have hm : w ∈ big := by first | exact List.mem_of_getElem? hi | exact List.getElem?_mem hi
  exact ⟨hm, good_of_word h1⟩
theorem goodIn_app {big a b : List Cond} (ha : GoodIn big a) (hb : GoodIn big b) : GoodIn big (a ++ b) := fun w h => (List.mem_append.mp h).elim (ha w) (hb w)
theorem goodIn_ca {big a b : List Cond} {c : Cond} (ha : GoodIn big (c :: a)) (hb : GoodIn big b) : GoodIn big (c :: (a ++ b)) := fun w h => (List.mem_cons.mp h).elim (fun e => ha w (List.mem_cons.mpr (Or.inl e))) (fun h => (List.mem_append.mp h).elim (fun h => ha w (List.mem_cons.mpr (Or.inr h))) (hb w))
theorem goodIn_sub {big ws : List Cond} (hm : ∀ w ∈ ws, w ∈ big) (h : ws.all goodWord = true) : GoodIn big ws := fun w hw => ⟨hm w hw, good_of_word (List.all_eq_true.mp h w hw)⟩
/-! ===== END ===== -/

/-! ===== BEGIN printed: names, fields, word lists, decode rows ===== -/
def RX0 : String := "TideMill$Mill"
def TX0 : u_T := fun k => match k with
  | 0 => ("TideMill$Mill", "orders", "LTideMill$Orders;", true)
  | 1 => ("TideMill$Mill", "dials", "[I", true)
  | 2 => ("TideMill$Mill", "sea", "[I", true)
  | 3 => ("TideMill$Mill", "rains", "[I", true)
  | 4 => ("TideMill$Mill", "dressings", "[I", true)
  | 5 => ("TideMill$Mill", "row", "[I", true)
  | _ => ("TideMill$Mill", "rowSize", "I", false)
def tyX0 : Nat → FieldType := fun k => match k with
  | 0 => .object "TideMill$Orders"
  | 1 => .array .int
  | 2 => .array .int
  | 3 => .array .int
  | 4 => .array .int
  | 5 => .array .int
  | _ => .int
abbrev wsX00 : List Cond := u_ws RX0 TX0 7
theorem nmX0 : ∀ a, a < 7 → ∀ b, b < 7 → a ≠ b → (TX0 a).2.1 ≠ (TX0 b).2.1 := by decide +kernel
theorem tyX0_ok : ∀ k, k < 7 → parseFieldDescriptor (TX0 k).2.2.1 = some (tyX0 k) := by decide +kernel
abbrev cX0_init : ByteArray := prog_2_method_1_code
def yX0_init : MethodName := ⟨RX0, "<init>", "(LTideMill$Orders;)V"⟩
abbrev cX0_tell : ByteArray := prog_2_method_2_code
def yX0_tell : MethodName := ⟨RX0, "tell", "(LTideMill$Pile;[I)V"⟩
abbrev cX0_becomeLike : ByteArray := prog_2_method_3_code
def yX0_becomeLike : MethodName := ⟨RX0, "becomeLike", "(LTideMill$Mill;)V"⟩
abbrev cX0_sendAway : ByteArray := prog_2_method_4_code
def yX0_sendAway : MethodName := ⟨RX0, "sendAway", "(I)V"⟩
def RX1 : String := "TideMill$Orders"
def TX1 : u_T := fun k => match k with
  | 0 => ("TideMill$Orders", "grain", "[I", true)
  | 1 => ("TideMill$Orders", "sacks", "[I", true)
  | 2 => ("TideMill$Orders", "due", "[I", true)
  | 3 => ("TideMill$Orders", "pay", "[I", true)
  | _ => ("TideMill$Orders", "size", "I", false)
def tyX1 : Nat → FieldType := fun k => match k with
  | 0 => .array .int
  | 1 => .array .int
  | 2 => .array .int
  | 3 => .array .int
  | _ => .int
abbrev wsX10 : List Cond := u_ws RX1 TX1 5
theorem nmX1 : ∀ a, a < 5 → ∀ b, b < 5 → a ≠ b → (TX1 a).2.1 ≠ (TX1 b).2.1 := by decide +kernel
theorem tyX1_ok : ∀ k, k < 5 → parseFieldDescriptor (TX1 k).2.2.1 = some (tyX1 k) := by decide +kernel
abbrev cX1_init : ByteArray := prog_3_method_1_code
def yX1_init : MethodName := ⟨RX1, "<init>", "()V"⟩
abbrev cX1_readFrom : ByteArray := prog_3_method_2_code
def yX1_readFrom : MethodName := ⟨RX1, "readFrom", "(LTideMill$Pile;)V"⟩
def RX2 : String := "TideMill$Pile"
def TX2 : u_T := fun k => match k with
  | 0 => ("TideMill$Pile", "items", "[I", true)
  | _ => ("TideMill$Pile", "size", "I", false)
def tyX2 : Nat → FieldType := fun k => match k with
  | 0 => .array .int
  | _ => .int
abbrev wsX20 : List Cond := u_ws RX2 TX2 2
theorem nmX2 : ∀ a, a < 2 → ∀ b, b < 2 → a ≠ b → (TX2 a).2.1 ≠ (TX2 b).2.1 := by decide +kernel
theorem tyX2_ok : ∀ k, k < 2 → parseFieldDescriptor (TX2 k).2.2.1 = some (tyX2 k) := by decide +kernel
abbrev cX2_init : ByteArray := prog_4_method_1_code
def yX2_init : MethodName := ⟨RX2, "<init>", "(I)V"⟩
abbrev cX2_isFull : ByteArray := prog_4_method_2_code
def yX2_isFull : MethodName := ⟨RX2, "isFull", "()Z"⟩
abbrev cX2_add : ByteArray := prog_4_method_3_code
def yX2_add : MethodName := ⟨RX2, "add", "(I)V"⟩
def RX3 : String := "TideMill$Plan"
def TX3 : u_T := fun k => match k with
  | 0 => ("TideMill$Plan", "ponds", "[LTideMill$Pond;", true)
  | 1 => ("TideMill$Plan", "row", "[I", true)
  | 2 => ("TideMill$Plan", "best", "[I", true)
  | 3 => ("TideMill$Plan", "reached", "[I", true)
  | 4 => ("TideMill$Plan", "reachedPaid", "[I", true)
  | _ => ("TideMill$Plan", "most", "I", false)
def tyX3 : Nat → FieldType := fun k => match k with
  | 0 => .array (.object "TideMill$Pond")
  | 1 => .array .int
  | 2 => .array .int
  | 3 => .array .int
  | 4 => .array .int
  | _ => .int
abbrev wsX30 : List Cond := u_ws RX3 TX3 6
theorem nmX3 : ∀ a, a < 6 → ∀ b, b < 6 → a ≠ b → (TX3 a).2.1 ≠ (TX3 b).2.1 := by decide +kernel
theorem tyX3_ok : ∀ k, k < 6 → parseFieldDescriptor (TX3 k).2.2.1 = some (tyX3 k) := by decide +kernel
abbrev cX3_init : ByteArray := prog_5_method_1_code
def yX3_init : MethodName := ⟨RX3, "<init>", "()V"⟩
abbrev cX3_look : ByteArray := prog_5_method_2_code
def yX3_look : MethodName := ⟨RX3, "look", "(LTideMill$Mill;)V"⟩
abbrev cX3_extend : ByteArray := prog_5_method_3_code
def yX3_extend : MethodName := ⟨RX3, "extend", "(LTideMill$Plan;LTideMill$Mill;III)V"⟩
abbrev cX3_reachedBefore : ByteArray := prog_5_method_4_code
def yX3_reachedBefore : MethodName := ⟨RX3, "reachedBefore", "(LTideMill$Pond;II)Z"⟩
abbrev cX3_hope : ByteArray := prog_5_method_5_code
def yX3_hope : MethodName := ⟨RX3, "hope", "(LTideMill$Orders;II)I"⟩
abbrev cX3_grind : ByteArray := prog_5_method_6_code
def yX3_grind : MethodName := ⟨RX3, "grind", "(LTideMill$Mill;II)Z"⟩
def RX4 : String := "TideMill$Pond"
def TX4 : u_T := fun k => match k with
  | 0 => ("TideMill$Pond", "hour", "I", false)
  | 1 => ("TideMill$Pond", "high", "I", false)
  | 2 => ("TideMill$Pond", "ground", "I", false)
  | _ => ("TideMill$Pond", "spilt", "I", false)
def tyX4 : Nat → FieldType := fun k => match k with
  | 0 => .int
  | 1 => .int
  | 2 => .int
  | _ => .int
abbrev wsX40 : List Cond := u_ws RX4 TX4 4
theorem nmX4 : ∀ a, a < 4 → ∀ b, b < 4 → a ≠ b → (TX4 a).2.1 ≠ (TX4 b).2.1 := by decide +kernel
theorem tyX4_ok : ∀ k, k < 4 → parseFieldDescriptor (TX4 k).2.2.1 = some (tyX4 k) := by decide +kernel
abbrev cX4_init : ByteArray := prog_6_method_1_code
def yX4_init : MethodName := ⟨RX4, "<init>", "()V"⟩
abbrev cX4_begin : ByteArray := prog_6_method_2_code
def yX4_begin : MethodName := ⟨RX4, "begin", "(LTideMill$Mill;)V"⟩
abbrev cX4_becomeLike : ByteArray := prog_6_method_3_code
def yX4_becomeLike : MethodName := ⟨RX4, "becomeLike", "(LTideMill$Pond;)V"⟩
abbrev cX4_pass : ByteArray := prog_6_method_4_code
def yX4_pass : MethodName := ⟨RX4, "pass", "(LTideMill$Mill;I)Z"⟩
abbrev cX4_dullness : ByteArray := prog_6_method_5_code
def yX4_dullness : MethodName := ⟨RX4, "dullness", "(LTideMill$Mill;)I"⟩
def RX5 : String := "TideMill$Run"
def TX5 : u_T := fun k => match k with
  | 0 => ("TideMill$Run", "pond", "LTideMill$Pond;", true)
  | 1 => ("TideMill$Run", "high", "[I", true)
  | 2 => ("TideMill$Run", "sacks", "[I", true)
  | 3 => ("TideMill$Run", "order", "[I", true)
  | 4 => ("TideMill$Run", "idle", "[I", true)
  | 5 => ("TideMill$Run", "dull", "[I", true)
  | 6 => ("TideMill$Run", "ends", "[I", true)
  | _ => ("TideMill$Run", "idleHours", "I", false)
def tyX5 : Nat → FieldType := fun k => match k with
  | 0 => .object "TideMill$Pond"
  | 1 => .array .int
  | 2 => .array .int
  | 3 => .array .int
  | 4 => .array .int
  | 5 => .array .int
  | 6 => .array .int
  | _ => .int
abbrev wsX50 : List Cond := u_ws RX5 TX5 8
theorem nmX5 : ∀ a, a < 8 → ∀ b, b < 8 → a ≠ b → (TX5 a).2.1 ≠ (TX5 b).2.1 := by decide +kernel
theorem tyX5_ok : ∀ k, k < 8 → parseFieldDescriptor (TX5 k).2.2.1 = some (tyX5 k) := by decide +kernel
abbrev cX5_init : ByteArray := prog_7_method_1_code
def yX5_init : MethodName := ⟨RX5, "<init>", "()V"⟩
abbrev cX5_play : ByteArray := prog_7_method_2_code
def yX5_play : MethodName := ⟨RX5, "play", "(LTideMill$Mill;)V"⟩
abbrev cX5_allSacks : ByteArray := prog_7_method_3_code
def yX5_allSacks : MethodName := ⟨RX5, "allSacks", "()I"⟩
abbrev cX5_pays : ByteArray := prog_7_method_4_code
def yX5_pays : MethodName := ⟨RX5, "pays", "(LTideMill$Orders;I)Z"⟩
abbrev cX5_sumPaid : ByteArray := prog_7_method_5_code
def yX5_sumPaid : MethodName := ⟨RX5, "sumPaid", "(LTideMill$Orders;)I"⟩
abbrev cX5_endsAll : ByteArray := prog_7_method_6_code
def yX5_endsAll : MethodName := ⟨RX5, "endsAll", "(LTideMill$Orders;)Z"⟩
def RX6 : String := "TideMill$Sheet"
def TX6 : u_T := fun k => match k with
  | 0 => ("TideMill$Sheet", "items", "[I", true)
  | 1 => ("TideMill$Sheet", "form", "I", false)
  | _ => ("TideMill$Sheet", "size", "I", false)
def tyX6 : Nat → FieldType := fun k => match k with
  | 0 => .array .int
  | 1 => .int
  | _ => .int
abbrev wsX60 : List Cond := u_ws RX6 TX6 3
theorem nmX6 : ∀ a, a < 3 → ∀ b, b < 3 → a ≠ b → (TX6 a).2.1 ≠ (TX6 b).2.1 := by decide +kernel
theorem tyX6_ok : ∀ k, k < 3 → parseFieldDescriptor (TX6 k).2.2.1 = some (tyX6 k) := by decide +kernel
abbrev cX6_init : ByteArray := prog_8_method_1_code
def yX6_init : MethodName := ⟨RX6, "<init>", "()V"⟩
abbrev cX6_begin : ByteArray := prog_8_method_2_code
def yX6_begin : MethodName := ⟨RX6, "begin", "(II)V"⟩
abbrev cX6_isLost : ByteArray := prog_8_method_3_code
def yX6_isLost : MethodName := ⟨RX6, "isLost", "()Z"⟩
abbrev cX6_holds : ByteArray := prog_8_method_4_code
def yX6_holds : MethodName := ⟨RX6, "holds", "(II)Z"⟩
abbrev cX6_wrongWith : ByteArray := prog_8_method_5_code
def yX6_wrongWith : MethodName := ⟨RX6, "wrongWith", "(II)I"⟩
abbrev cX6_store : ByteArray := prog_8_method_6_code
def yX6_store : MethodName := ⟨RX6, "store", "(II)V"⟩
def RX7 : String := "TideMill"
def TX7 : u_T := fun k => match k with
  | 0 => ("TideMill", "texts", "[LTideMill$Pile;", true)
  | 1 => ("TideMill", "rains", "LTideMill$Pile;", true)
  | 2 => ("TideMill", "dressings", "LTideMill$Pile;", true)
  | 3 => ("TideMill", "seenHours", "LTideMill$Pile;", true)
  | 4 => ("TideMill", "seenHighs", "LTideMill$Pile;", true)
  | 5 => ("TideMill", "sheets", "[LTideMill$Sheet;", true)
  | 6 => ("TideMill", "finding", "I", false)
  | 7 => ("TideMill", "orders", "LTideMill$Orders;", true)
  | 8 => ("TideMill", "dials", "[I", true)
  | 9 => ("TideMill", "told", "LTideMill$Mill;", true)
  | 10 => ("TideMill", "now", "LTideMill$Run;", true)
  | 11 => ("TideMill", "tried", "LTideMill$Mill;", true)
  | 12 => ("TideMill", "trial", "LTideMill$Run;", true)
  | 13 => ("TideMill", "plan", "LTideMill$Plan;", true)
  | 14 => ("TideMill", "chances", "[J", true)
  | 15 => ("TideMill", "crowd", "[I", true)
  | 16 => ("TideMill", "settled", "Z", false)
  | 17 => ("TideMill", "planned", "Z", false)
  | _ => ("TideMill", "showered", "I", false)
def tyX7 : Nat → FieldType := fun k => match k with
  | 0 => .array (.object "TideMill$Pile")
  | 1 => .object "TideMill$Pile"
  | 2 => .object "TideMill$Pile"
  | 3 => .object "TideMill$Pile"
  | 4 => .object "TideMill$Pile"
  | 5 => .array (.object "TideMill$Sheet")
  | 6 => .int
  | 7 => .object "TideMill$Orders"
  | 8 => .array .int
  | 9 => .object "TideMill$Mill"
  | 10 => .object "TideMill$Run"
  | 11 => .object "TideMill$Mill"
  | 12 => .object "TideMill$Run"
  | 13 => .object "TideMill$Plan"
  | 14 => .array .long
  | 15 => .array .int
  | 16 => .boolean
  | 17 => .boolean
  | _ => .int
abbrev wsX70 : List Cond := u_ws RX7 TX7 19
theorem nmX7 : ∀ a, a < 19 → ∀ b, b < 19 → a ≠ b → (TX7 a).2.1 ≠ (TX7 b).2.1 := by decide +kernel
theorem tyX7_ok : ∀ k, k < 19 → parseFieldDescriptor (TX7 k).2.2.1 = some (tyX7 k) := by decide +kernel
abbrev cX7_init : ByteArray := prog_1_method_1_code
def yX7_init : MethodName := ⟨RX7, "<init>", "()V"⟩
abbrev cX7_type : ByteArray := prog_1_method_2_code
def yX7_type : MethodName := ⟨RX7, "type", "(II)I"⟩
abbrev cX7_wipe : ByteArray := prog_1_method_3_code
def yX7_wipe : MethodName := ⟨RX7, "wipe", "(I)I"⟩
abbrev cX7_undo : ByteArray := prog_1_method_4_code
def yX7_undo : MethodName := ⟨RX7, "undo", "(I)I"⟩
abbrev cX7_fault : ByteArray := prog_1_method_5_code
def yX7_fault : MethodName := ⟨RX7, "fault", "(I)I"⟩
abbrev cX7_sea : ByteArray := prog_1_method_6_code
def yX7_sea : MethodName := ⟨RX7, "sea", "(I)I"⟩
abbrev cX7_order : ByteArray := prog_1_method_7_code
def yX7_order : MethodName := ⟨RX7, "order", "(II)I"⟩
abbrev cX7_set : ByteArray := prog_1_method_8_code
def yX7_set : MethodName := ⟨RX7, "set", "(II)I"⟩
abbrev cX7_rain : ByteArray := prog_1_method_9_code
def yX7_rain : MethodName := ⟨RX7, "rain", "(I)I"⟩
abbrev cX7_dressing : ByteArray := prog_1_method_10_code
def yX7_dressing : MethodName := ⟨RX7, "dressing", "(I)I"⟩
abbrev cX7_back : ByteArray := prog_1_method_11_code
def yX7_back : MethodName := ⟨RX7, "back", "(I)I"⟩
abbrev cX7_read : ByteArray := prog_1_method_12_code
def yX7_read : MethodName := ⟨RX7, "read", "(I)I"⟩
abbrev cX7_at : ByteArray := prog_1_method_13_code
def yX7_at : MethodName := ⟨RX7, "at", "(II)I"⟩
abbrev cX7_ends : ByteArray := prog_1_method_14_code
def yX7_ends : MethodName := ⟨RX7, "ends", "(I)I"⟩
abbrev cX7_paid : ByteArray := prog_1_method_15_code
def yX7_paid : MethodName := ⟨RX7, "paid", "()I"⟩
abbrev cX7_spilt : ByteArray := prog_1_method_16_code
def yX7_spilt : MethodName := ⟨RX7, "spilt", "()I"⟩
abbrev cX7_idle : ByteArray := prog_1_method_17_code
def yX7_idle : MethodName := ⟨RX7, "idle", "()I"⟩
abbrev cX7_late : ByteArray := prog_1_method_18_code
def yX7_late : MethodName := ⟨RX7, "late", "()I"⟩
abbrev cX7_row : ByteArray := prog_1_method_19_code
def yX7_row : MethodName := ⟨RX7, "row", "(I)I"⟩
abbrev cX7_dress : ByteArray := prog_1_method_20_code
def yX7_dress : MethodName := ⟨RX7, "dress", "(I)I"⟩
abbrev cX7_least : ByteArray := prog_1_method_21_code
def yX7_least : MethodName := ⟨RX7, "least", "()I"⟩
abbrev cX7_send : ByteArray := prog_1_method_22_code
def yX7_send : MethodName := ⟨RX7, "send", "(I)I"⟩
abbrev cX7_seen : ByteArray := prog_1_method_23_code
def yX7_seen : MethodName := ⟨RX7, "seen", "(II)I"⟩
abbrev cX7_forget : ByteArray := prog_1_method_24_code
def yX7_forget : MethodName := ⟨RX7, "forget", "()I"⟩
abbrev cX7_never : ByteArray := prog_1_method_25_code
def yX7_never : MethodName := ⟨RX7, "never", "()I"⟩
abbrev cX7_was : ByteArray := prog_1_method_26_code
def yX7_was : MethodName := ⟨RX7, "was", "(I)I"⟩
abbrev cX7_ask : ByteArray := prog_1_method_27_code
def yX7_ask : MethodName := ⟨RX7, "ask", "()I"⟩
abbrev cX7_shower : ByteArray := prog_1_method_28_code
def yX7_shower : MethodName := ⟨RX7, "shower", "(III)J"⟩
abbrev cX7_moon : ByteArray := prog_1_method_29_code
def yX7_moon : MethodName := ⟨RX7, "moon", "(III)I"⟩
abbrev cX7_sheet : ByteArray := prog_1_method_30_code
def yX7_sheet : MethodName := ⟨RX7, "sheet", "(III)I"⟩
abbrev cX7_lose : ByteArray := prog_1_method_31_code
def yX7_lose : MethodName := ⟨RX7, "lose", "(I)I"⟩
abbrev cX7_put : ByteArray := prog_1_method_32_code
def yX7_put : MethodName := ⟨RX7, "put", "(IIII)I"⟩
abbrev cX7_get : ByteArray := prog_1_method_33_code
def yX7_get : MethodName := ⟨RX7, "get", "(III)I"⟩
abbrev cX7_copy : ByteArray := prog_1_method_34_code
def yX7_copy : MethodName := ⟨RX7, "copy", "(IIIII)I"⟩
abbrev cX7_write : ByteArray := prog_1_method_35_code
def yX7_write : MethodName := ⟨RX7, "write", "(I)I"⟩
abbrev cX7_count : ByteArray := prog_1_method_36_code
def yX7_count : MethodName := ⟨RX7, "count", "(I)I"⟩
abbrev cX7_digest : ByteArray := prog_1_method_37_code
def yX7_digest : MethodName := ⟨RX7, "digest", "()J"⟩
abbrev cX7_within : ByteArray := prog_1_method_38_code
def yX7_within : MethodName := ⟨RX7, "within", "(III)Z"⟩
abbrev cX7_isHour : ByteArray := prog_1_method_39_code
def yX7_isHour : MethodName := ⟨RX7, "isHour", "(I)Z"⟩
abbrev cX7_isSheet : ByteArray := prog_1_method_40_code
def yX7_isSheet : MethodName := ⟨RX7, "isSheet", "(I)Z"⟩
abbrev cX7_isForm : ByteArray := prog_1_method_41_code
def yX7_isForm : MethodName := ⟨RX7, "isForm", "(I)Z"⟩
abbrev cX7_isOrder : ByteArray := prog_1_method_42_code
def yX7_isOrder : MethodName := ⟨RX7, "isOrder", "(I)Z"⟩
abbrev cX7_found : ByteArray := prog_1_method_43_code
def yX7_found : MethodName := ⟨RX7, "found", "(I)I"⟩
abbrev cX7_more : ByteArray := prog_1_method_44_code
def yX7_more : MethodName := ⟨RX7, "more", "(LTideMill$Pile;I)I"⟩
abbrev cX7_less : ByteArray := prog_1_method_45_code
def yX7_less : MethodName := ⟨RX7, "less", "(LTideMill$Pile;)I"⟩
abbrev cX7_changed : ByteArray := prog_1_method_46_code
def yX7_changed : MethodName := ⟨RX7, "changed", "()V"⟩
abbrev cX7_settle : ByteArray := prog_1_method_47_code
def yX7_settle : MethodName := ⟨RX7, "settle", "()V"⟩
abbrev cX7_countHours : ByteArray := prog_1_method_48_code
def yX7_countHours : MethodName := ⟨RX7, "countHours", "(LTideMill$Pile;[I)V"⟩
abbrev cX7_comesOutSo : ByteArray := prog_1_method_49_code
def yX7_comesOutSo : MethodName := ⟨RX7, "comesOutSo", "()Z"⟩
abbrev cX7_countCrowd : ByteArray := prog_1_method_50_code
def yX7_countCrowd : MethodName := ⟨RX7, "countCrowd", "()V"⟩
abbrev cX7_greatestCrowd : ByteArray := prog_1_method_51_code
def yX7_greatestCrowd : MethodName := ⟨RX7, "greatestCrowd", "(I)I"⟩
abbrev cX7_weighShowers : ByteArray := prog_1_method_52_code
def yX7_weighShowers : MethodName := ⟨RX7, "weighShowers", "(I)V"⟩
abbrev cX7_power : ByteArray := prog_1_method_53_code
def yX7_power : MethodName := ⟨RX7, "power", "(II)J"⟩
abbrev cX7_isFigure : ByteArray := prog_1_method_54_code
def yX7_isFigure : MethodName := ⟨RX7, "isFigure", "(ICC)Z"⟩
abbrev cX7_tideFault : ByteArray := prog_1_method_55_code
def yX7_tideFault : MethodName := ⟨RX7, "tideFault", "(LTideMill$Pile;)I"⟩
abbrev cX7_orderFault : ByteArray := prog_1_method_56_code
def yX7_orderFault : MethodName := ⟨RX7, "orderFault", "(LTideMill$Pile;)I"⟩
abbrev cX7_fitsOrder : ByteArray := prog_1_method_57_code
def yX7_fitsOrder : MethodName := ⟨RX7, "fitsOrder", "(II)Z"⟩
def RX8 : String := "TideMillModel"
def TX8 : u_T := fun k => match k with
  | 0 => ("TideMillModel", "typed", "[I", true)
  | 1 => ("TideMillModel", "texts", "[I", true)
  | 2 => ("TideMillModel", "tides", "I", false)
  | 3 => ("TideMillModel", "seaTold", "[I", true)
  | 4 => ("TideMillModel", "orders", "I", false)
  | 5 => ("TideMillModel", "grains", "[I", true)
  | 6 => ("TideMillModel", "sacks", "[I", true)
  | 7 => ("TideMillModel", "dues", "[I", true)
  | 8 => ("TideMillModel", "pays", "[I", true)
  | 9 => ("TideMillModel", "settings", "[I", true)
  | 10 => ("TideMillModel", "rains", "I", false)
  | 11 => ("TideMillModel", "rainHour", "[I", true)
  | 12 => ("TideMillModel", "dressings", "I", false)
  | 13 => ("TideMillModel", "dressHour", "[I", true)
  | 14 => ("TideMillModel", "seaNow", "[I", true)
  | 15 => ("TideMillModel", "notRains", "I", false)
  | 16 => ("TideMillModel", "dressNow", "I", false)
  | 17 => ("TideMillModel", "rowMany", "I", false)
  | 18 => ("TideMillModel", "row", "[I", true)
  | 19 => ("TideMillModel", "startNow", "I", false)
  | 20 => ("TideMillModel", "flowNow", "I", false)
  | 21 => ("TideMillModel", "pond", "I", false)
  | 22 => ("TideMillModel", "since", "I", false)
  | 23 => ("TideMillModel", "ground", "I", false)
  | 24 => ("TideMillModel", "lost", "I", false)
  | 25 => ("TideMillModel", "idleNow", "I", false)
  | 26 => ("TideMillModel", "next", "I", false)
  | 27 => ("TideMillModel", "left", "I", false)
  | 28 => ("TideMillModel", "pondAt", "[I", true)
  | 29 => ("TideMillModel", "groundAt", "[I", true)
  | 30 => ("TideMillModel", "atStones", "[I", true)
  | 31 => ("TideMillModel", "idleAt", "[I", true)
  | 32 => ("TideMillModel", "dullAt", "[I", true)
  | 33 => ("TideMillModel", "endAt", "[I", true)
  | 34 => ("TideMillModel", "bestRow", "[I", true)
  | 35 => ("TideMillModel", "seens", "I", false)
  | 36 => ("TideMillModel", "seenHour", "[I", true)
  | 37 => ("TideMillModel", "seenHigh", "[I", true)
  | 38 => ("TideMillModel", "pondBy", "[I", true)
  | 39 => ("TideMillModel", "isThere", "[Z", true)
  | 40 => ("TideMillModel", "forms", "[I", true)
  | 41 => ("TideMillModel", "sizes", "[I", true)
  | 42 => ("TideMillModel", "items", "[I", true)
  | 43 => ("TideMillModel", "moved", "[I", true)
  | _ => ("TideMillModel", "finding", "I", false)
def tyX8 : Nat → FieldType := fun k => match k with
  | 0 => .array .int
  | 1 => .array .int
  | 2 => .int
  | 3 => .array .int
  | 4 => .int
  | 5 => .array .int
  | 6 => .array .int
  | 7 => .array .int
  | 8 => .array .int
  | 9 => .array .int
  | 10 => .int
  | 11 => .array .int
  | 12 => .int
  | 13 => .array .int
  | 14 => .array .int
  | 15 => .int
  | 16 => .int
  | 17 => .int
  | 18 => .array .int
  | 19 => .int
  | 20 => .int
  | 21 => .int
  | 22 => .int
  | 23 => .int
  | 24 => .int
  | 25 => .int
  | 26 => .int
  | 27 => .int
  | 28 => .array .int
  | 29 => .array .int
  | 30 => .array .int
  | 31 => .array .int
  | 32 => .array .int
  | 33 => .array .int
  | 34 => .array .int
  | 35 => .int
  | 36 => .array .int
  | 37 => .array .int
  | 38 => .array .int
  | 39 => .array .boolean
  | 40 => .array .int
  | 41 => .array .int
  | 42 => .array .int
  | 43 => .array .int
  | _ => .int
abbrev wsX80 : List Cond := u_ws RX8 TX8 45
theorem nmX8 : ∀ a, a < 45 → ∀ b, b < 45 → a ≠ b → (TX8 a).2.1 ≠ (TX8 b).2.1 := by decide +kernel
theorem tyX8_ok : ∀ k, k < 45 → parseFieldDescriptor (TX8 k).2.2.1 = some (tyX8 k) := by decide +kernel
abbrev cX8_init : ByteArray := prog_10_method_1_code
def yX8_init : MethodName := ⟨RX8, "<init>", "()V"⟩
abbrev cX8_in : ByteArray := prog_10_method_3_code
def yX8_in : MethodName := ⟨RX8, "in", "(III)Z"⟩
abbrev cX8_isIn : ByteArray := prog_10_method_4_code
def yX8_isIn : MethodName := ⟨RX8, "isIn", "(II)Z"⟩
abbrev cX8_no : ByteArray := prog_10_method_5_code
def yX8_no : MethodName := ⟨RX8, "no", "(I)J"⟩
abbrev cX8_lowest : ByteArray := prog_10_method_6_code
def yX8_lowest : MethodName := ⟨RX8, "lowest", "(JJI)J"⟩
abbrev cX8_isText : ByteArray := prog_10_method_7_code
def yX8_isText : MethodName := ⟨RX8, "isText", "(I)Z"⟩
abbrev cX8_isHour : ByteArray := prog_10_method_8_code
def yX8_isHour : MethodName := ⟨RX8, "isHour", "(I)Z"⟩
abbrev cX8_type : ByteArray := prog_10_method_9_code
def yX8_type : MethodName := ⟨RX8, "type", "(II)I"⟩
abbrev cX8_wipe : ByteArray := prog_10_method_10_code
def yX8_wipe : MethodName := ⟨RX8, "wipe", "(I)I"⟩
abbrev cX8_undo : ByteArray := prog_10_method_11_code
def yX8_undo : MethodName := ⟨RX8, "undo", "(I)I"⟩
abbrev cX8_readsTides : ByteArray := prog_10_method_12_code
def yX8_readsTides : MethodName := ⟨RX8, "readsTides", "()I"⟩
abbrev cX8_byteAt : ByteArray := prog_10_method_13_code
def yX8_byteAt : MethodName := ⟨RX8, "byteAt", "(I)I"⟩
abbrev cX8_isWell : ByteArray := prog_10_method_14_code
def yX8_isWell : MethodName := ⟨RX8, "isWell", "(II)Z"⟩
abbrev cX8_readsOrder : ByteArray := prog_10_method_15_code
def yX8_readsOrder : MethodName := ⟨RX8, "readsOrder", "(II)I"⟩
abbrev cX8_readsOrders : ByteArray := prog_10_method_16_code
def yX8_readsOrders : MethodName := ⟨RX8, "readsOrders", "()I"⟩
abbrev cX8_faultOf : ByteArray := prog_10_method_17_code
def yX8_faultOf : MethodName := ⟨RX8, "faultOf", "(I)I"⟩
abbrev cX8_reads : ByteArray := prog_10_method_18_code
def yX8_reads : MethodName := ⟨RX8, "reads", "()V"⟩
abbrev cX8_fault : ByteArray := prog_10_method_19_code
def yX8_fault : MethodName := ⟨RX8, "fault", "(I)I"⟩
abbrev cX8_isOrder : ByteArray := prog_10_method_20_code
def yX8_isOrder : MethodName := ⟨RX8, "isOrder", "(I)Z"⟩
abbrev cX8_seaOf : ByteArray := prog_10_method_21_code
def yX8_seaOf : MethodName := ⟨RX8, "seaOf", "(I)I"⟩
abbrev cX8_sea : ByteArray := prog_10_method_22_code
def yX8_sea : MethodName := ⟨RX8, "sea", "(I)I"⟩
abbrev cX8_orderOf : ByteArray := prog_10_method_23_code
def yX8_orderOf : MethodName := ⟨RX8, "orderOf", "(II)I"⟩
abbrev cX8_order : ByteArray := prog_10_method_24_code
def yX8_order : MethodName := ⟨RX8, "order", "(II)I"⟩
abbrev cX8_set : ByteArray := prog_10_method_25_code
def yX8_set : MethodName := ⟨RX8, "set", "(II)I"⟩
abbrev cX8_rain : ByteArray := prog_10_method_26_code
def yX8_rain : MethodName := ⟨RX8, "rain", "(I)I"⟩
abbrev cX8_dressing : ByteArray := prog_10_method_27_code
def yX8_dressing : MethodName := ⟨RX8, "dressing", "(I)I"⟩
abbrev cX8_back : ByteArray := prog_10_method_28_code
def yX8_back : MethodName := ⟨RX8, "back", "(I)I"⟩
abbrev cX8_read : ByteArray := prog_10_method_29_code
def yX8_read : MethodName := ⟨RX8, "read", "(I)I"⟩
abbrev cX8_asTold : ByteArray := prog_10_method_30_code
def yX8_asTold : MethodName := ⟨RX8, "asTold", "()V"⟩
abbrev cX8_fills : ByteArray := prog_10_method_31_code
def yX8_fills : MethodName := ⟨RX8, "fills", "(I)V"⟩
abbrev cX8_isDressed : ByteArray := prog_10_method_32_code
def yX8_isDressed : MethodName := ⟨RX8, "isDressed", "(I)Z"⟩
abbrev cX8_grinds : ByteArray := prog_10_method_33_code
def yX8_grinds : MethodName := ⟨RX8, "grinds", "(I)V"⟩
abbrev cX8_goesBy : ByteArray := prog_10_method_34_code
def yX8_goesBy : MethodName := ⟨RX8, "goesBy", "(I)V"⟩
abbrev cX8_runs : ByteArray := prog_10_method_35_code
def yX8_runs : MethodName := ⟨RX8, "runs", "()V"⟩
abbrev cX8_runsTold : ByteArray := prog_10_method_36_code
def yX8_runsTold : MethodName := ⟨RX8, "runsTold", "()V"⟩
abbrev cX8_atOf : ByteArray := prog_10_method_37_code
def yX8_atOf : MethodName := ⟨RX8, "atOf", "(II)I"⟩
abbrev cX8_at : ByteArray := prog_10_method_38_code
def yX8_at : MethodName := ⟨RX8, "at", "(II)I"⟩
abbrev cX8_endsOf : ByteArray := prog_10_method_39_code
def yX8_endsOf : MethodName := ⟨RX8, "endsOf", "(I)I"⟩
abbrev cX8_ends : ByteArray := prog_10_method_40_code
def yX8_ends : MethodName := ⟨RX8, "ends", "(I)I"⟩
abbrev cX8_isPaid : ByteArray := prog_10_method_41_code
def yX8_isPaid : MethodName := ⟨RX8, "isPaid", "(I)Z"⟩
abbrev cX8_paidNow : ByteArray := prog_10_method_42_code
def yX8_paidNow : MethodName := ⟨RX8, "paidNow", "()I"⟩
abbrev cX8_paidOf : ByteArray := prog_10_method_43_code
def yX8_paidOf : MethodName := ⟨RX8, "paidOf", "()I"⟩
abbrev cX8_paid : ByteArray := prog_10_method_44_code
def yX8_paid : MethodName := ⟨RX8, "paid", "()I"⟩
abbrev cX8_spiltOf : ByteArray := prog_10_method_45_code
def yX8_spiltOf : MethodName := ⟨RX8, "spiltOf", "()I"⟩
abbrev cX8_spilt : ByteArray := prog_10_method_46_code
def yX8_spilt : MethodName := ⟨RX8, "spilt", "()I"⟩
abbrev cX8_idleOf : ByteArray := prog_10_method_47_code
def yX8_idleOf : MethodName := ⟨RX8, "idleOf", "()I"⟩
abbrev cX8_idle : ByteArray := prog_10_method_48_code
def yX8_idle : MethodName := ⟨RX8, "idle", "()I"⟩
abbrev cX8_lateOf : ByteArray := prog_10_method_49_code
def yX8_lateOf : MethodName := ⟨RX8, "lateOf", "()I"⟩
abbrev cX8_late : ByteArray := prog_10_method_50_code
def yX8_late : MethodName := ⟨RX8, "late", "()I"⟩
abbrev cX8_nextRow : ByteArray := prog_10_method_51_code
def yX8_nextRow : MethodName := ⟨RX8, "nextRow", "()Z"⟩
abbrev cX8_rowBy : ByteArray := prog_10_method_52_code
def yX8_rowBy : MethodName := ⟨RX8, "rowBy", "()I"⟩
abbrev cX8_rowOf : ByteArray := prog_10_method_53_code
def yX8_rowOf : MethodName := ⟨RX8, "rowOf", "(I)I"⟩
abbrev cX8_row : ByteArray := prog_10_method_54_code
def yX8_row : MethodName := ⟨RX8, "row", "(I)I"⟩
abbrev cX8_dressOf : ByteArray := prog_10_method_55_code
def yX8_dressOf : MethodName := ⟨RX8, "dressOf", "(I)I"⟩
abbrev cX8_dress : ByteArray := prog_10_method_56_code
def yX8_dress : MethodName := ⟨RX8, "dress", "(I)I"⟩
abbrev cX8_leastNow : ByteArray := prog_10_method_57_code
def yX8_leastNow : MethodName := ⟨RX8, "leastNow", "()I"⟩
abbrev cX8_least : ByteArray := prog_10_method_58_code
def yX8_least : MethodName := ⟨RX8, "least", "()I"⟩
abbrev cX8_sendOf : ByteArray := prog_10_method_59_code
def yX8_sendOf : MethodName := ⟨RX8, "sendOf", "(I)I"⟩
abbrev cX8_send : ByteArray := prog_10_method_60_code
def yX8_send : MethodName := ⟨RX8, "send", "(I)I"⟩
abbrev cX8_seen : ByteArray := prog_10_method_61_code
def yX8_seen : MethodName := ⟨RX8, "seen", "(II)I"⟩
abbrev cX8_forget : ByteArray := prog_10_method_62_code
def yX8_forget : MethodName := ⟨RX8, "forget", "()I"⟩
abbrev cX8_isSeen : ByteArray := prog_10_method_63_code
def yX8_isSeen : MethodName := ⟨RX8, "isSeen", "()Z"⟩
abbrev cX8_neverNow : ByteArray := prog_10_method_64_code
def yX8_neverNow : MethodName := ⟨RX8, "neverNow", "()I"⟩
abbrev cX8_never : ByteArray := prog_10_method_65_code
def yX8_never : MethodName := ⟨RX8, "never", "()I"⟩
abbrev cX8_flowsBy : ByteArray := prog_10_method_66_code
def yX8_flowsBy : MethodName := ⟨RX8, "flowsBy", "()I"⟩
abbrev cX8_startsBy : ByteArray := prog_10_method_67_code
def yX8_startsBy : MethodName := ⟨RX8, "startsBy", "()I"⟩
abbrev cX8_was : ByteArray := prog_10_method_68_code
def yX8_was : MethodName := ⟨RX8, "was", "(I)I"⟩
abbrev cX8_askNow : ByteArray := prog_10_method_69_code
def yX8_askNow : MethodName := ⟨RX8, "askNow", "()I"⟩
abbrev cX8_ask : ByteArray := prog_10_method_70_code
def yX8_ask : MethodName := ⟨RX8, "ask", "()I"⟩
abbrev cX8_showerOf : ByteArray := prog_10_method_71_code
def yX8_showerOf : MethodName := ⟨RX8, "showerOf", "(III)J"⟩
abbrev cX8_shower : ByteArray := prog_10_method_72_code
def yX8_shower : MethodName := ⟨RX8, "shower", "(III)J"⟩
abbrev cX8_moonOf : ByteArray := prog_10_method_73_code
def yX8_moonOf : MethodName := ⟨RX8, "moonOf", "(III)I"⟩
abbrev cX8_moon : ByteArray := prog_10_method_74_code
def yX8_moon : MethodName := ⟨RX8, "moon", "(III)I"⟩
abbrev cX8_meets : ByteArray := prog_10_method_75_code
def yX8_meets : MethodName := ⟨RX8, "meets", "(I)I"⟩
abbrev cX8_isSheet : ByteArray := prog_10_method_76_code
def yX8_isSheet : MethodName := ⟨RX8, "isSheet", "(I)Z"⟩
abbrev cX8_sheet : ByteArray := prog_10_method_77_code
def yX8_sheet : MethodName := ⟨RX8, "sheet", "(III)I"⟩
abbrev cX8_lose : ByteArray := prog_10_method_78_code
def yX8_lose : MethodName := ⟨RX8, "lose", "(I)I"⟩
abbrev cX8_lacks : ByteArray := prog_10_method_79_code
def yX8_lacks : MethodName := ⟨RX8, "lacks", "(III)I"⟩
abbrev cX8_keep : ByteArray := prog_10_method_80_code
def yX8_keep : MethodName := ⟨RX8, "keep", "(III)V"⟩
abbrev cX8_put : ByteArray := prog_10_method_81_code
def yX8_put : MethodName := ⟨RX8, "put", "(IIII)I"⟩
abbrev cX8_get : ByteArray := prog_10_method_82_code
def yX8_get : MethodName := ⟨RX8, "get", "(III)I"⟩
abbrev cX8_copy : ByteArray := prog_10_method_83_code
def yX8_copy : MethodName := ⟨RX8, "copy", "(IIIII)I"⟩
abbrev cX8_write : ByteArray := prog_10_method_84_code
def yX8_write : MethodName := ⟨RX8, "write", "(I)I"⟩
abbrev cX8_sumOf : ByteArray := prog_10_method_85_code
def yX8_sumOf : MethodName := ⟨RX8, "sumOf", "(I)I"⟩
abbrev cX8_count : ByteArray := prog_10_method_86_code
def yX8_count : MethodName := ⟨RX8, "count", "(I)I"⟩
abbrev cX8_orderDigest : ByteArray := prog_10_method_87_code
def yX8_orderDigest : MethodName := ⟨RX8, "orderDigest", "(JI)J"⟩
abbrev cX8_digest : ByteArray := prog_10_method_88_code
def yX8_digest : MethodName := ⟨RX8, "digest", "()J"⟩
def RJx8e188 : String := "java/lang/Cloneable"
def TJx8e188 : u_T := fun k => match k with
  | _ => ("", "", "", false)
def tyJx8e188 : Nat → FieldType := fun k => match k with
  | _ => .int
abbrev wsJx8e1880 : List Cond := u_ws RJx8e188 TJx8e188 0
theorem nmJx8e188 : ∀ a, a < 0 → ∀ b, b < 0 → a ≠ b → (TJx8e188 a).2.1 ≠ (TJx8e188 b).2.1 := by decide +kernel
theorem tyJx8e188_ok : ∀ k, k < 0 → parseFieldDescriptor (TJx8e188 k).2.2.1 = some (tyJx8e188 k) := by decide +kernel
def RJ6 : String := "java/lang/Integer"
def TJ6 : u_T := fun k => match k with
  | _ => ("", "", "", false)
def tyJ6 : Nat → FieldType := fun k => match k with
  | _ => .int
abbrev wsJ60 : List Cond := u_ws RJ6 TJ6 0
theorem nmJ6 : ∀ a, a < 0 → ∀ b, b < 0 → a ≠ b → (TJ6 a).2.1 ≠ (TJ6 b).2.1 := by decide +kernel
theorem tyJ6_ok : ∀ k, k < 0 → parseFieldDescriptor (TJ6 k).2.2.1 = some (tyJ6 k) := by decide +kernel
abbrev cJ6_bitCount_0f7a4 : ByteArray := prog_12_method_49_code
def yJ6_bitCount_0f7a4 : MethodName := ⟨RJ6, "bitCount", "(I)I"⟩
def RJ9 : String := "java/lang/Math"
def TJ9 : u_T := fun k => match k with
  | _ => ("", "", "", false)
def tyJ9 : Nat → FieldType := fun k => match k with
  | _ => .int
abbrev wsJ90 : List Cond := u_ws RJ9 TJ9 0
theorem nmJ9 : ∀ a, a < 0 → ∀ b, b < 0 → a ≠ b → (TJ9 a).2.1 ≠ (TJ9 b).2.1 := by decide +kernel
theorem tyJ9_ok : ∀ k, k < 0 → parseFieldDescriptor (TJ9 k).2.2.1 = some (tyJ9 k) := by decide +kernel
abbrev cJ9_max_7cf53 : ByteArray := prog_13_method_65_code
def yJ9_max_7cf53 : MethodName := ⟨RJ9, "max", "(II)I"⟩
abbrev cJ9_min_7cf53 : ByteArray := prog_13_method_69_code
def yJ9_min_7cf53 : MethodName := ⟨RJ9, "min", "(II)I"⟩
def RJ10 : String := "java/lang/System"
def TJ10 : u_T := fun k => match k with
  | _ => ("", "", "", false)
def tyJ10 : Nat → FieldType := fun k => match k with
  | _ => .int
abbrev wsJ100 : List Cond := u_ws RJ10 TJ10 0
theorem nmJ10 : ∀ a, a < 0 → ∀ b, b < 0 → a ≠ b → (TJ10 a).2.1 ≠ (TJ10 b).2.1 := by decide +kernel
theorem tyJ10_ok : ∀ k, k < 0 → parseFieldDescriptor (TJ10 k).2.2.1 = some (tyJ10 k) := by decide +kernel
def RJ7 : String := "java/util/Arrays"
def TJ7 : u_T := fun k => match k with
  | _ => ("", "", "", false)
def tyJ7 : Nat → FieldType := fun k => match k with
  | _ => .int
abbrev wsJ70 : List Cond := u_ws RJ7 TJ7 0
theorem nmJ7 : ∀ a, a < 0 → ∀ b, b < 0 → a ≠ b → (TJ7 a).2.1 ≠ (TJ7 b).2.1 := by decide +kernel
theorem tyJ7_ok : ∀ k, k < 0 → parseFieldDescriptor (TJ7 k).2.2.1 = some (tyJ7 k) := by decide +kernel
abbrev cJ7_fill_d0a16 : ByteArray := prog_15_method_101_code
def yJ7_fill_d0a16 : MethodName := ⟨RJ7, "fill", "([JJ)V"⟩
abbrev cJ7_fill_53178 : ByteArray := prog_15_method_103_code
def yJ7_fill_53178 : MethodName := ⟨RJ7, "fill", "([II)V"⟩
def RL : String := "TideMillLaw"
abbrev cL_law : ByteArray := code
def yL_law : MethodName := ⟨RL, "law", "([I)Z"⟩
abbrev vwCl : List vw_C := [(RX0, TX0, 7), (RX1, TX1, 5), (RX2, TX2, 2), (RX3, TX3, 6), (RX4, TX4, 4), (RX5, TX5, 8), (RX6, TX6, 3), (RX7, TX7, 19), (RX8, TX8, 45)]
end
section
theorem dX0_init_0 : decode cX0_init 0 = .ok (.aload_n 0, 1) := by decide +kernel
theorem dX0_init_1 : decode cX0_init 1 = .ok (.invokespecial 3, 3) := by decide +kernel
theorem dX0_init_4 : decode cX0_init 4 = .ok (.aload_n 0, 1) := by decide +kernel
theorem dX0_init_5 : decode cX0_init 5 = .ok (.iconst 5, 1) := by decide +kernel
theorem dX0_init_6 : decode cX0_init 6 = .ok (.newarray .int, 2) := by decide +kernel
theorem dX0_init_8 : decode cX0_init 8 = .ok (.putfield 9, 3) := by decide +kernel
theorem dX0_init_11 : decode cX0_init 11 = .ok (.aload_n 0, 1) := by decide +kernel
theorem dX0_init_12 : decode cX0_init 12 = .ok (.bipush 40, 2) := by decide +kernel
theorem dX0_init_14 : decode cX0_init 14 = .ok (.newarray .int, 2) := by decide +kernel
theorem dX0_init_16 : decode cX0_init 16 = .ok (.putfield 15, 3) := by decide +kernel
theorem dX0_init_19 : decode cX0_init 19 = .ok (.aload_n 0, 1) := by decide +kernel
theorem dX0_init_20 : decode cX0_init 20 = .ok (.bipush 40, 2) := by decide +kernel
theorem dX0_init_22 : decode cX0_init 22 = .ok (.newarray .int, 2) := by decide +kernel
theorem dX0_init_24 : decode cX0_init 24 = .ok (.putfield 18, 3) := by decide +kernel
theorem dX0_init_27 : decode cX0_init 27 = .ok (.aload_n 0, 1) := by decide +kernel
theorem dX0_init_28 : decode cX0_init 28 = .ok (.bipush 40, 2) := by decide +kernel
theorem dX0_init_30 : decode cX0_init 30 = .ok (.newarray .int, 2) := by decide +kernel
theorem dX0_init_32 : decode cX0_init 32 = .ok (.putfield 21, 3) := by decide +kernel
theorem dX0_init_35 : decode cX0_init 35 = .ok (.aload_n 0, 1) := by decide +kernel
theorem dX0_init_36 : decode cX0_init 36 = .ok (.bipush 8, 2) := by decide +kernel
theorem dX0_init_38 : decode cX0_init 38 = .ok (.newarray .int, 2) := by decide +kernel
theorem dX0_init_40 : decode cX0_init 40 = .ok (.putfield 24, 3) := by decide +kernel
theorem dX0_init_43 : decode cX0_init 43 = .ok (.aload_n 0, 1) := by decide +kernel
theorem dX0_init_44 : decode cX0_init 44 = .ok (.aload_n 1, 1) := by decide +kernel
theorem dX0_init_45 : decode cX0_init 45 = .ok (.putfield 27, 3) := by decide +kernel
theorem dX0_init_48 : decode cX0_init 48 = .ok (.return_, 1) := by decide +kernel
theorem dX0_tell_0 : decode cX0_tell 0 = .ok (.aload_n 1, 1) := by decide +kernel
theorem dX0_tell_1 : decode cX0_tell 1 = .ok (.invokestatic 31, 3) := by decide +kernel
theorem dX0_tell_4 : decode cX0_tell 4 = .ok (.iconst (-1), 1) := by decide +kernel
theorem dX0_tell_5 : decode cX0_tell 5 = .ok (.if_icmp .ne 10, 3) := by decide +kernel
theorem dX0_tell_8 : decode cX0_tell 8 = .ok (.aload_n 1, 1) := by decide +kernel
theorem dX0_tell_9 : decode cX0_tell 9 = .ok (.getfield 35, 3) := by decide +kernel
theorem dX0_tell_12 : decode cX0_tell 12 = .ok (.goto 4, 3) := by decide +kernel
theorem dX0_tell_15 : decode cX0_tell 15 = .ok (.iconst 0, 1) := by decide +kernel
theorem dX0_tell_16 : decode cX0_tell 16 = .ok (.istore_n 3, 1) := by decide +kernel
theorem dX0_tell_17 : decode cX0_tell 17 = .ok (.iconst 0, 1) := by decide +kernel
theorem dX0_tell_18 : decode cX0_tell 18 = .ok (.istore 4, 2) := by decide +kernel
theorem dX0_tell_20 : decode cX0_tell 20 = .ok (.iload 4, 2) := by decide +kernel
theorem dX0_tell_22 : decode cX0_tell 22 = .ok (.bipush 40, 2) := by decide +kernel
theorem dX0_tell_24 : decode cX0_tell 24 = .ok (.if_icmp .ge 38, 3) := by decide +kernel
theorem dX0_tell_27 : decode cX0_tell 27 = .ok (.aload_n 0, 1) := by decide +kernel
theorem dX0_tell_28 : decode cX0_tell 28 = .ok (.getfield 15, 3) := by decide +kernel
theorem dX0_tell_31 : decode cX0_tell 31 = .ok (.iload 4, 2) := by decide +kernel
theorem dX0_tell_33 : decode cX0_tell 33 = .ok (.iload 4, 2) := by decide +kernel
theorem dX0_tell_35 : decode cX0_tell 35 = .ok (.iload_n 3, 1) := by decide +kernel
theorem dX0_tell_36 : decode cX0_tell 36 = .ok (.if_icmp .ge 18, 3) := by decide +kernel
theorem dX0_tell_39 : decode cX0_tell 39 = .ok (.iconst 2, 1) := by decide +kernel
theorem dX0_tell_40 : decode cX0_tell 40 = .ok (.aload_n 1, 1) := by decide +kernel
theorem dX0_tell_41 : decode cX0_tell 41 = .ok (.getfield 41, 3) := by decide +kernel
theorem dX0_tell_44 : decode cX0_tell 44 = .ok (.iload 4, 2) := by decide +kernel
theorem dX0_tell_46 : decode cX0_tell 46 = .ok (.iaload, 1) := by decide +kernel
theorem dX0_tell_47 : decode cX0_tell 47 = .ok (.bipush 48, 2) := by decide +kernel
theorem dX0_tell_49 : decode cX0_tell 49 = .ok (.isub, 1) := by decide +kernel
theorem dX0_tell_50 : decode cX0_tell 50 = .ok (.imul, 1) := by decide +kernel
theorem dX0_tell_51 : decode cX0_tell 51 = .ok (.goto 4, 3) := by decide +kernel
theorem dX0_tell_54 : decode cX0_tell 54 = .ok (.iconst 0, 1) := by decide +kernel
theorem dX0_tell_55 : decode cX0_tell 55 = .ok (.iastore, 1) := by decide +kernel
theorem dX0_tell_56 : decode cX0_tell 56 = .ok (.iinc 4 1, 3) := by decide +kernel
theorem dX0_tell_59 : decode cX0_tell 59 = .ok (.goto (-39), 3) := by decide +kernel
theorem dX0_tell_62 : decode cX0_tell 62 = .ok (.aload_n 2, 1) := by decide +kernel
theorem dX0_tell_63 : decode cX0_tell 63 = .ok (.iconst 0, 1) := by decide +kernel
theorem dX0_tell_64 : decode cX0_tell 64 = .ok (.aload_n 0, 1) := by decide +kernel
theorem dX0_tell_65 : decode cX0_tell 65 = .ok (.getfield 9, 3) := by decide +kernel
theorem dX0_tell_68 : decode cX0_tell 68 = .ok (.iconst 0, 1) := by decide +kernel
theorem dX0_tell_69 : decode cX0_tell 69 = .ok (.iconst 5, 1) := by decide +kernel
theorem dX0_tell_70 : decode cX0_tell 70 = .ok (.invokestatic 44, 3) := by decide +kernel
theorem dX0_tell_73 : decode cX0_tell 73 = .ok (.aload_n 0, 1) := by decide +kernel
theorem dX0_tell_74 : decode cX0_tell 74 = .ok (.aload_n 0, 1) := by decide +kernel
theorem dX0_tell_75 : decode cX0_tell 75 = .ok (.getfield 27, 3) := by decide +kernel
theorem dX0_tell_78 : decode cX0_tell 78 = .ok (.getfield 50, 3) := by decide +kernel
theorem dX0_tell_81 : decode cX0_tell 81 = .ok (.putfield 53, 3) := by decide +kernel
theorem dX0_tell_84 : decode cX0_tell 84 = .ok (.iconst 0, 1) := by decide +kernel
theorem dX0_tell_85 : decode cX0_tell 85 = .ok (.istore 4, 2) := by decide +kernel
theorem dX0_tell_87 : decode cX0_tell 87 = .ok (.iload 4, 2) := by decide +kernel
theorem dX0_tell_89 : decode cX0_tell 89 = .ok (.aload_n 0, 1) := by decide +kernel
theorem dX0_tell_90 : decode cX0_tell 90 = .ok (.getfield 53, 3) := by decide +kernel
theorem dX0_tell_93 : decode cX0_tell 93 = .ok (.if_icmp .ge 18, 3) := by decide +kernel
theorem dX0_tell_96 : decode cX0_tell 96 = .ok (.aload_n 0, 1) := by decide +kernel
theorem dX0_tell_97 : decode cX0_tell 97 = .ok (.getfield 24, 3) := by decide +kernel
theorem dX0_tell_100 : decode cX0_tell 100 = .ok (.iload 4, 2) := by decide +kernel
theorem dX0_tell_102 : decode cX0_tell 102 = .ok (.iload 4, 2) := by decide +kernel
theorem dX0_tell_104 : decode cX0_tell 104 = .ok (.iastore, 1) := by decide +kernel
theorem dX0_tell_105 : decode cX0_tell 105 = .ok (.iinc 4 1, 3) := by decide +kernel
theorem dX0_tell_108 : decode cX0_tell 108 = .ok (.goto (-21), 3) := by decide +kernel
theorem dX0_tell_111 : decode cX0_tell 111 = .ok (.return_, 1) := by decide +kernel
theorem dX0_becomeLike_0 : decode cX0_becomeLike 0 = .ok (.aload_n 1, 1) := by decide +kernel
theorem dX0_becomeLike_1 : decode cX0_becomeLike 1 = .ok (.getfield 9, 3) := by decide +kernel
theorem dX0_becomeLike_4 : decode cX0_becomeLike 4 = .ok (.iconst 0, 1) := by decide +kernel
theorem dX0_becomeLike_5 : decode cX0_becomeLike 5 = .ok (.aload_n 0, 1) := by decide +kernel
theorem dX0_becomeLike_6 : decode cX0_becomeLike 6 = .ok (.getfield 9, 3) := by decide +kernel
theorem dX0_becomeLike_9 : decode cX0_becomeLike 9 = .ok (.iconst 0, 1) := by decide +kernel
theorem dX0_becomeLike_10 : decode cX0_becomeLike 10 = .ok (.iconst 5, 1) := by decide +kernel
theorem dX0_becomeLike_11 : decode cX0_becomeLike 11 = .ok (.invokestatic 44, 3) := by decide +kernel
theorem dX0_becomeLike_14 : decode cX0_becomeLike 14 = .ok (.aload_n 1, 1) := by decide +kernel
theorem dX0_becomeLike_15 : decode cX0_becomeLike 15 = .ok (.getfield 15, 3) := by decide +kernel
theorem dX0_becomeLike_18 : decode cX0_becomeLike 18 = .ok (.iconst 0, 1) := by decide +kernel
theorem dX0_becomeLike_19 : decode cX0_becomeLike 19 = .ok (.aload_n 0, 1) := by decide +kernel
theorem dX0_becomeLike_20 : decode cX0_becomeLike 20 = .ok (.getfield 15, 3) := by decide +kernel
theorem dX0_becomeLike_23 : decode cX0_becomeLike 23 = .ok (.iconst 0, 1) := by decide +kernel
theorem dX0_becomeLike_24 : decode cX0_becomeLike 24 = .ok (.bipush 40, 2) := by decide +kernel
theorem dX0_becomeLike_26 : decode cX0_becomeLike 26 = .ok (.invokestatic 44, 3) := by decide +kernel
theorem dX0_becomeLike_29 : decode cX0_becomeLike 29 = .ok (.aload_n 1, 1) := by decide +kernel
theorem dX0_becomeLike_30 : decode cX0_becomeLike 30 = .ok (.getfield 18, 3) := by decide +kernel
theorem dX0_becomeLike_33 : decode cX0_becomeLike 33 = .ok (.iconst 0, 1) := by decide +kernel
theorem dX0_becomeLike_34 : decode cX0_becomeLike 34 = .ok (.aload_n 0, 1) := by decide +kernel
theorem dX0_becomeLike_35 : decode cX0_becomeLike 35 = .ok (.getfield 18, 3) := by decide +kernel
theorem dX0_becomeLike_38 : decode cX0_becomeLike 38 = .ok (.iconst 0, 1) := by decide +kernel
theorem dX0_becomeLike_39 : decode cX0_becomeLike 39 = .ok (.bipush 40, 2) := by decide +kernel
theorem dX0_becomeLike_41 : decode cX0_becomeLike 41 = .ok (.invokestatic 44, 3) := by decide +kernel
theorem dX0_becomeLike_44 : decode cX0_becomeLike 44 = .ok (.aload_n 1, 1) := by decide +kernel
theorem dX0_becomeLike_45 : decode cX0_becomeLike 45 = .ok (.getfield 21, 3) := by decide +kernel
theorem dX0_becomeLike_48 : decode cX0_becomeLike 48 = .ok (.iconst 0, 1) := by decide +kernel
theorem dX0_becomeLike_49 : decode cX0_becomeLike 49 = .ok (.aload_n 0, 1) := by decide +kernel
theorem dX0_becomeLike_50 : decode cX0_becomeLike 50 = .ok (.getfield 21, 3) := by decide +kernel
theorem dX0_becomeLike_53 : decode cX0_becomeLike 53 = .ok (.iconst 0, 1) := by decide +kernel
theorem dX0_becomeLike_54 : decode cX0_becomeLike 54 = .ok (.bipush 40, 2) := by decide +kernel
theorem dX0_becomeLike_56 : decode cX0_becomeLike 56 = .ok (.invokestatic 44, 3) := by decide +kernel
theorem dX0_becomeLike_59 : decode cX0_becomeLike 59 = .ok (.aload_n 1, 1) := by decide +kernel
theorem dX0_becomeLike_60 : decode cX0_becomeLike 60 = .ok (.getfield 24, 3) := by decide +kernel
theorem dX0_becomeLike_63 : decode cX0_becomeLike 63 = .ok (.iconst 0, 1) := by decide +kernel
theorem dX0_becomeLike_64 : decode cX0_becomeLike 64 = .ok (.aload_n 0, 1) := by decide +kernel
theorem dX0_becomeLike_65 : decode cX0_becomeLike 65 = .ok (.getfield 24, 3) := by decide +kernel
theorem dX0_becomeLike_68 : decode cX0_becomeLike 68 = .ok (.iconst 0, 1) := by decide +kernel
theorem dX0_becomeLike_69 : decode cX0_becomeLike 69 = .ok (.bipush 8, 2) := by decide +kernel
theorem dX0_becomeLike_71 : decode cX0_becomeLike 71 = .ok (.invokestatic 44, 3) := by decide +kernel
theorem dX0_becomeLike_74 : decode cX0_becomeLike 74 = .ok (.aload_n 0, 1) := by decide +kernel
theorem dX0_becomeLike_75 : decode cX0_becomeLike 75 = .ok (.aload_n 1, 1) := by decide +kernel
theorem dX0_becomeLike_76 : decode cX0_becomeLike 76 = .ok (.getfield 53, 3) := by decide +kernel
theorem dX0_becomeLike_79 : decode cX0_becomeLike 79 = .ok (.putfield 53, 3) := by decide +kernel
theorem dX0_becomeLike_82 : decode cX0_becomeLike 82 = .ok (.return_, 1) := by decide +kernel
theorem dX0_sendAway_0 : decode cX0_sendAway 0 = .ok (.iconst 0, 1) := by decide +kernel
theorem dX0_sendAway_1 : decode cX0_sendAway 1 = .ok (.istore_n 2, 1) := by decide +kernel
theorem dX0_sendAway_2 : decode cX0_sendAway 2 = .ok (.iconst 0, 1) := by decide +kernel
theorem dX0_sendAway_3 : decode cX0_sendAway 3 = .ok (.istore_n 3, 1) := by decide +kernel
theorem dX0_sendAway_4 : decode cX0_sendAway 4 = .ok (.iload_n 3, 1) := by decide +kernel
theorem dX0_sendAway_5 : decode cX0_sendAway 5 = .ok (.aload_n 0, 1) := by decide +kernel
theorem dX0_sendAway_6 : decode cX0_sendAway 6 = .ok (.getfield 53, 3) := by decide +kernel
theorem dX0_sendAway_9 : decode cX0_sendAway 9 = .ok (.if_icmp .ge 34, 3) := by decide +kernel
theorem dX0_sendAway_12 : decode cX0_sendAway 12 = .ok (.aload_n 0, 1) := by decide +kernel
theorem dX0_sendAway_13 : decode cX0_sendAway 13 = .ok (.getfield 24, 3) := by decide +kernel
theorem dX0_sendAway_16 : decode cX0_sendAway 16 = .ok (.iload_n 3, 1) := by decide +kernel
theorem dX0_sendAway_17 : decode cX0_sendAway 17 = .ok (.iaload, 1) := by decide +kernel
theorem dX0_sendAway_18 : decode cX0_sendAway 18 = .ok (.iload_n 1, 1) := by decide +kernel
theorem dX0_sendAway_19 : decode cX0_sendAway 19 = .ok (.if_icmp .eq 18, 3) := by decide +kernel
theorem dX0_sendAway_22 : decode cX0_sendAway 22 = .ok (.aload_n 0, 1) := by decide +kernel
theorem dX0_sendAway_23 : decode cX0_sendAway 23 = .ok (.getfield 24, 3) := by decide +kernel
theorem dX0_sendAway_26 : decode cX0_sendAway 26 = .ok (.iload_n 2, 1) := by decide +kernel
theorem dX0_sendAway_27 : decode cX0_sendAway 27 = .ok (.aload_n 0, 1) := by decide +kernel
theorem dX0_sendAway_28 : decode cX0_sendAway 28 = .ok (.getfield 24, 3) := by decide +kernel
theorem dX0_sendAway_31 : decode cX0_sendAway 31 = .ok (.iload_n 3, 1) := by decide +kernel
theorem dX0_sendAway_32 : decode cX0_sendAway 32 = .ok (.iaload, 1) := by decide +kernel
theorem dX0_sendAway_33 : decode cX0_sendAway 33 = .ok (.iastore, 1) := by decide +kernel
theorem dX0_sendAway_34 : decode cX0_sendAway 34 = .ok (.iinc 2 1, 3) := by decide +kernel
theorem dX0_sendAway_37 : decode cX0_sendAway 37 = .ok (.iinc 3 1, 3) := by decide +kernel
theorem dX0_sendAway_40 : decode cX0_sendAway 40 = .ok (.goto (-36), 3) := by decide +kernel
theorem dX0_sendAway_43 : decode cX0_sendAway 43 = .ok (.aload_n 0, 1) := by decide +kernel
theorem dX0_sendAway_44 : decode cX0_sendAway 44 = .ok (.iload_n 2, 1) := by decide +kernel
theorem dX0_sendAway_45 : decode cX0_sendAway 45 = .ok (.putfield 53, 3) := by decide +kernel
theorem dX0_sendAway_48 : decode cX0_sendAway 48 = .ok (.return_, 1) := by decide +kernel
theorem dX1_init_0 : decode cX1_init 0 = .ok (.aload_n 0, 1) := by decide +kernel
theorem dX1_init_1 : decode cX1_init 1 = .ok (.invokespecial 3, 3) := by decide +kernel
theorem dX1_init_4 : decode cX1_init 4 = .ok (.aload_n 0, 1) := by decide +kernel
theorem dX1_init_5 : decode cX1_init 5 = .ok (.bipush 8, 2) := by decide +kernel
theorem dX1_init_7 : decode cX1_init 7 = .ok (.newarray .int, 2) := by decide +kernel
theorem dX1_init_9 : decode cX1_init 9 = .ok (.putfield 9, 3) := by decide +kernel
theorem dX1_init_12 : decode cX1_init 12 = .ok (.aload_n 0, 1) := by decide +kernel
theorem dX1_init_13 : decode cX1_init 13 = .ok (.bipush 8, 2) := by decide +kernel
theorem dX1_init_15 : decode cX1_init 15 = .ok (.newarray .int, 2) := by decide +kernel
theorem dX1_init_17 : decode cX1_init 17 = .ok (.putfield 15, 3) := by decide +kernel
theorem dX1_init_20 : decode cX1_init 20 = .ok (.aload_n 0, 1) := by decide +kernel
theorem dX1_init_21 : decode cX1_init 21 = .ok (.bipush 8, 2) := by decide +kernel
theorem dX1_init_23 : decode cX1_init 23 = .ok (.newarray .int, 2) := by decide +kernel
theorem dX1_init_25 : decode cX1_init 25 = .ok (.putfield 18, 3) := by decide +kernel
theorem dX1_init_28 : decode cX1_init 28 = .ok (.aload_n 0, 1) := by decide +kernel
theorem dX1_init_29 : decode cX1_init 29 = .ok (.bipush 8, 2) := by decide +kernel
theorem dX1_init_31 : decode cX1_init 31 = .ok (.newarray .int, 2) := by decide +kernel
theorem dX1_init_33 : decode cX1_init 33 = .ok (.putfield 21, 3) := by decide +kernel
theorem dX1_init_36 : decode cX1_init 36 = .ok (.return_, 1) := by decide +kernel
theorem dX1_readFrom_0 : decode cX1_readFrom 0 = .ok (.aload_n 0, 1) := by decide +kernel
theorem dX1_readFrom_1 : decode cX1_readFrom 1 = .ok (.iconst 0, 1) := by decide +kernel
theorem dX1_readFrom_2 : decode cX1_readFrom 2 = .ok (.putfield 24, 3) := by decide +kernel
theorem dX1_readFrom_5 : decode cX1_readFrom 5 = .ok (.aload_n 1, 1) := by decide +kernel
theorem dX1_readFrom_6 : decode cX1_readFrom 6 = .ok (.invokestatic 28, 3) := by decide +kernel
theorem dX1_readFrom_9 : decode cX1_readFrom 9 = .ok (.iconst (-1), 1) := by decide +kernel
theorem dX1_readFrom_10 : decode cX1_readFrom 10 = .ok (.if_icmp .eq 4, 3) := by decide +kernel
theorem dX1_readFrom_13 : decode cX1_readFrom 13 = .ok (.return_, 1) := by decide +kernel
theorem dX1_readFrom_14 : decode cX1_readFrom 14 = .ok (.iconst 0, 1) := by decide +kernel
theorem dX1_readFrom_15 : decode cX1_readFrom 15 = .ok (.istore_n 2, 1) := by decide +kernel
theorem dX1_readFrom_16 : decode cX1_readFrom 16 = .ok (.iload_n 2, 1) := by decide +kernel
theorem dX1_readFrom_17 : decode cX1_readFrom 17 = .ok (.bipush 6, 2) := by decide +kernel
theorem dX1_readFrom_19 : decode cX1_readFrom 19 = .ok (.iadd, 1) := by decide +kernel
theorem dX1_readFrom_20 : decode cX1_readFrom 20 = .ok (.iconst 1, 1) := by decide +kernel
theorem dX1_readFrom_21 : decode cX1_readFrom 21 = .ok (.isub, 1) := by decide +kernel
theorem dX1_readFrom_22 : decode cX1_readFrom 22 = .ok (.aload_n 1, 1) := by decide +kernel
theorem dX1_readFrom_23 : decode cX1_readFrom 23 = .ok (.getfield 32, 3) := by decide +kernel
theorem dX1_readFrom_26 : decode cX1_readFrom 26 = .ok (.if_icmp .gt 140, 3) := by decide +kernel
theorem dX1_readFrom_29 : decode cX1_readFrom 29 = .ok (.aload_n 0, 1) := by decide +kernel
theorem dX1_readFrom_30 : decode cX1_readFrom 30 = .ok (.getfield 24, 3) := by decide +kernel
theorem dX1_readFrom_33 : decode cX1_readFrom 33 = .ok (.bipush 8, 2) := by decide +kernel
theorem dX1_readFrom_35 : decode cX1_readFrom 35 = .ok (.if_icmp .ge 131, 3) := by decide +kernel
theorem dX1_readFrom_38 : decode cX1_readFrom 38 = .ok (.aload_n 1, 1) := by decide +kernel
theorem dX1_readFrom_39 : decode cX1_readFrom 39 = .ok (.getfield 35, 3) := by decide +kernel
theorem dX1_readFrom_42 : decode cX1_readFrom 42 = .ok (.iload_n 2, 1) := by decide +kernel
theorem dX1_readFrom_43 : decode cX1_readFrom 43 = .ok (.iaload, 1) := by decide +kernel
theorem dX1_readFrom_44 : decode cX1_readFrom 44 = .ok (.istore_n 3, 1) := by decide +kernel
theorem dX1_readFrom_45 : decode cX1_readFrom 45 = .ok (.aload_n 0, 1) := by decide +kernel
theorem dX1_readFrom_46 : decode cX1_readFrom 46 = .ok (.getfield 9, 3) := by decide +kernel
theorem dX1_readFrom_49 : decode cX1_readFrom 49 = .ok (.aload_n 0, 1) := by decide +kernel
theorem dX1_readFrom_50 : decode cX1_readFrom 50 = .ok (.getfield 24, 3) := by decide +kernel
theorem dX1_readFrom_53 : decode cX1_readFrom 53 = .ok (.iload_n 3, 1) := by decide +kernel
theorem dX1_readFrom_54 : decode cX1_readFrom 54 = .ok (.bipush 119, 2) := by decide +kernel
theorem dX1_readFrom_56 : decode cX1_readFrom 56 = .ok (.if_icmp .ne 7, 3) := by decide +kernel
theorem dX1_readFrom_59 : decode cX1_readFrom 59 = .ok (.iconst 0, 1) := by decide +kernel
theorem dX1_readFrom_60 : decode cX1_readFrom 60 = .ok (.goto 14, 3) := by decide +kernel
theorem dX1_readFrom_63 : decode cX1_readFrom 63 = .ok (.iload_n 3, 1) := by decide +kernel
theorem dX1_readFrom_64 : decode cX1_readFrom 64 = .ok (.bipush 114, 2) := by decide +kernel
theorem dX1_readFrom_66 : decode cX1_readFrom 66 = .ok (.if_icmp .ne 7, 3) := by decide +kernel
theorem dX1_readFrom_69 : decode cX1_readFrom 69 = .ok (.iconst 1, 1) := by decide +kernel
theorem dX1_readFrom_70 : decode cX1_readFrom 70 = .ok (.goto 4, 3) := by decide +kernel
theorem dX1_readFrom_73 : decode cX1_readFrom 73 = .ok (.iconst 2, 1) := by decide +kernel
theorem dX1_readFrom_74 : decode cX1_readFrom 74 = .ok (.iastore, 1) := by decide +kernel
theorem dX1_readFrom_75 : decode cX1_readFrom 75 = .ok (.aload_n 0, 1) := by decide +kernel
theorem dX1_readFrom_76 : decode cX1_readFrom 76 = .ok (.getfield 15, 3) := by decide +kernel
theorem dX1_readFrom_79 : decode cX1_readFrom 79 = .ok (.aload_n 0, 1) := by decide +kernel
theorem dX1_readFrom_80 : decode cX1_readFrom 80 = .ok (.getfield 24, 3) := by decide +kernel
theorem dX1_readFrom_83 : decode cX1_readFrom 83 = .ok (.aload_n 1, 1) := by decide +kernel
theorem dX1_readFrom_84 : decode cX1_readFrom 84 = .ok (.getfield 35, 3) := by decide +kernel
theorem dX1_readFrom_87 : decode cX1_readFrom 87 = .ok (.iload_n 2, 1) := by decide +kernel
theorem dX1_readFrom_88 : decode cX1_readFrom 88 = .ok (.iconst 1, 1) := by decide +kernel
theorem dX1_readFrom_89 : decode cX1_readFrom 89 = .ok (.iadd, 1) := by decide +kernel
theorem dX1_readFrom_90 : decode cX1_readFrom 90 = .ok (.iaload, 1) := by decide +kernel
theorem dX1_readFrom_91 : decode cX1_readFrom 91 = .ok (.bipush 48, 2) := by decide +kernel
theorem dX1_readFrom_93 : decode cX1_readFrom 93 = .ok (.isub, 1) := by decide +kernel
theorem dX1_readFrom_94 : decode cX1_readFrom 94 = .ok (.iastore, 1) := by decide +kernel
theorem dX1_readFrom_95 : decode cX1_readFrom 95 = .ok (.aload_n 0, 1) := by decide +kernel
theorem dX1_readFrom_96 : decode cX1_readFrom 96 = .ok (.getfield 18, 3) := by decide +kernel
theorem dX1_readFrom_99 : decode cX1_readFrom 99 = .ok (.aload_n 0, 1) := by decide +kernel
theorem dX1_readFrom_100 : decode cX1_readFrom 100 = .ok (.getfield 24, 3) := by decide +kernel
theorem dX1_readFrom_103 : decode cX1_readFrom 103 = .ok (.aload_n 1, 1) := by decide +kernel
theorem dX1_readFrom_104 : decode cX1_readFrom 104 = .ok (.getfield 35, 3) := by decide +kernel
theorem dX1_readFrom_107 : decode cX1_readFrom 107 = .ok (.iload_n 2, 1) := by decide +kernel
theorem dX1_readFrom_108 : decode cX1_readFrom 108 = .ok (.iconst 2, 1) := by decide +kernel
theorem dX1_readFrom_109 : decode cX1_readFrom 109 = .ok (.iadd, 1) := by decide +kernel
theorem dX1_readFrom_110 : decode cX1_readFrom 110 = .ok (.iaload, 1) := by decide +kernel
theorem dX1_readFrom_111 : decode cX1_readFrom 111 = .ok (.bipush 48, 2) := by decide +kernel
theorem dX1_readFrom_113 : decode cX1_readFrom 113 = .ok (.isub, 1) := by decide +kernel
theorem dX1_readFrom_114 : decode cX1_readFrom 114 = .ok (.bipush 10, 2) := by decide +kernel
theorem dX1_readFrom_116 : decode cX1_readFrom 116 = .ok (.imul, 1) := by decide +kernel
theorem dX1_readFrom_117 : decode cX1_readFrom 117 = .ok (.aload_n 1, 1) := by decide +kernel
theorem dX1_readFrom_118 : decode cX1_readFrom 118 = .ok (.getfield 35, 3) := by decide +kernel
theorem dX1_readFrom_121 : decode cX1_readFrom 121 = .ok (.iload_n 2, 1) := by decide +kernel
theorem dX1_readFrom_122 : decode cX1_readFrom 122 = .ok (.iconst 3, 1) := by decide +kernel
theorem dX1_readFrom_123 : decode cX1_readFrom 123 = .ok (.iadd, 1) := by decide +kernel
theorem dX1_readFrom_124 : decode cX1_readFrom 124 = .ok (.iaload, 1) := by decide +kernel
theorem dX1_readFrom_125 : decode cX1_readFrom 125 = .ok (.iadd, 1) := by decide +kernel
theorem dX1_readFrom_126 : decode cX1_readFrom 126 = .ok (.bipush 48, 2) := by decide +kernel
theorem dX1_readFrom_128 : decode cX1_readFrom 128 = .ok (.isub, 1) := by decide +kernel
theorem dX1_readFrom_129 : decode cX1_readFrom 129 = .ok (.iastore, 1) := by decide +kernel
theorem dX1_readFrom_130 : decode cX1_readFrom 130 = .ok (.aload_n 0, 1) := by decide +kernel
theorem dX1_readFrom_131 : decode cX1_readFrom 131 = .ok (.getfield 21, 3) := by decide +kernel
theorem dX1_readFrom_134 : decode cX1_readFrom 134 = .ok (.aload_n 0, 1) := by decide +kernel
theorem dX1_readFrom_135 : decode cX1_readFrom 135 = .ok (.getfield 24, 3) := by decide +kernel
theorem dX1_readFrom_138 : decode cX1_readFrom 138 = .ok (.aload_n 1, 1) := by decide +kernel
theorem dX1_readFrom_139 : decode cX1_readFrom 139 = .ok (.getfield 35, 3) := by decide +kernel
theorem dX1_readFrom_142 : decode cX1_readFrom 142 = .ok (.iload_n 2, 1) := by decide +kernel
theorem dX1_readFrom_143 : decode cX1_readFrom 143 = .ok (.iconst 4, 1) := by decide +kernel
theorem dX1_readFrom_144 : decode cX1_readFrom 144 = .ok (.iadd, 1) := by decide +kernel
theorem dX1_readFrom_145 : decode cX1_readFrom 145 = .ok (.iaload, 1) := by decide +kernel
theorem dX1_readFrom_146 : decode cX1_readFrom 146 = .ok (.bipush 48, 2) := by decide +kernel
theorem dX1_readFrom_148 : decode cX1_readFrom 148 = .ok (.isub, 1) := by decide +kernel
theorem dX1_readFrom_149 : decode cX1_readFrom 149 = .ok (.iastore, 1) := by decide +kernel
theorem dX1_readFrom_150 : decode cX1_readFrom 150 = .ok (.aload_n 0, 1) := by decide +kernel
theorem dX1_readFrom_151 : decode cX1_readFrom 151 = .ok (.dup, 1) := by decide +kernel
theorem dX1_readFrom_152 : decode cX1_readFrom 152 = .ok (.getfield 24, 3) := by decide +kernel
theorem dX1_readFrom_155 : decode cX1_readFrom 155 = .ok (.iconst 1, 1) := by decide +kernel
theorem dX1_readFrom_156 : decode cX1_readFrom 156 = .ok (.iadd, 1) := by decide +kernel
theorem dX1_readFrom_157 : decode cX1_readFrom 157 = .ok (.putfield 24, 3) := by decide +kernel
theorem dX1_readFrom_160 : decode cX1_readFrom 160 = .ok (.iinc 2 6, 3) := by decide +kernel
theorem dX1_readFrom_163 : decode cX1_readFrom 163 = .ok (.goto (-147), 3) := by decide +kernel
theorem dX1_readFrom_166 : decode cX1_readFrom 166 = .ok (.return_, 1) := by decide +kernel
theorem dX2_init_0 : decode cX2_init 0 = .ok (.aload_n 0, 1) := by decide +kernel
theorem dX2_init_1 : decode cX2_init 1 = .ok (.invokespecial 1, 3) := by decide +kernel
theorem dX2_init_4 : decode cX2_init 4 = .ok (.aload_n 0, 1) := by decide +kernel
theorem dX2_init_5 : decode cX2_init 5 = .ok (.iload_n 1, 1) := by decide +kernel
theorem dX2_init_6 : decode cX2_init 6 = .ok (.iconst 0, 1) := by decide +kernel
theorem dX2_init_7 : decode cX2_init 7 = .ok (.invokestatic 7, 3) := by decide +kernel
theorem dX2_init_10 : decode cX2_init 10 = .ok (.newarray .int, 2) := by decide +kernel
theorem dX2_init_12 : decode cX2_init 12 = .ok (.putfield 13, 3) := by decide +kernel
theorem dX2_init_15 : decode cX2_init 15 = .ok (.return_, 1) := by decide +kernel
theorem dX2_isFull_0 : decode cX2_isFull 0 = .ok (.aload_n 0, 1) := by decide +kernel
theorem dX2_isFull_1 : decode cX2_isFull 1 = .ok (.getfield 19, 3) := by decide +kernel
theorem dX2_isFull_4 : decode cX2_isFull 4 = .ok (.aload_n 0, 1) := by decide +kernel
theorem dX2_isFull_5 : decode cX2_isFull 5 = .ok (.getfield 13, 3) := by decide +kernel
theorem dX2_isFull_8 : decode cX2_isFull 8 = .ok (.arraylength, 1) := by decide +kernel
theorem dX2_isFull_9 : decode cX2_isFull 9 = .ok (.if_icmp .lt 7, 3) := by decide +kernel
theorem dX2_isFull_12 : decode cX2_isFull 12 = .ok (.iconst 1, 1) := by decide +kernel
theorem dX2_isFull_13 : decode cX2_isFull 13 = .ok (.goto 4, 3) := by decide +kernel
theorem dX2_isFull_16 : decode cX2_isFull 16 = .ok (.iconst 0, 1) := by decide +kernel
theorem dX2_isFull_17 : decode cX2_isFull 17 = .ok (.ireturn, 1) := by decide +kernel
theorem dX2_add_0 : decode cX2_add 0 = .ok (.aload_n 0, 1) := by decide +kernel
theorem dX2_add_1 : decode cX2_add 1 = .ok (.invokevirtual 23, 3) := by decide +kernel
theorem dX2_add_4 : decode cX2_add 4 = .ok (.ifCond .ne 23, 3) := by decide +kernel
theorem dX2_add_7 : decode cX2_add 7 = .ok (.aload_n 0, 1) := by decide +kernel
theorem dX2_add_8 : decode cX2_add 8 = .ok (.getfield 13, 3) := by decide +kernel
theorem dX2_add_11 : decode cX2_add 11 = .ok (.aload_n 0, 1) := by decide +kernel
theorem dX2_add_12 : decode cX2_add 12 = .ok (.getfield 19, 3) := by decide +kernel
theorem dX2_add_15 : decode cX2_add 15 = .ok (.iload_n 1, 1) := by decide +kernel
theorem dX2_add_16 : decode cX2_add 16 = .ok (.iastore, 1) := by decide +kernel
theorem dX2_add_17 : decode cX2_add 17 = .ok (.aload_n 0, 1) := by decide +kernel
theorem dX2_add_18 : decode cX2_add 18 = .ok (.dup, 1) := by decide +kernel
theorem dX2_add_19 : decode cX2_add 19 = .ok (.getfield 19, 3) := by decide +kernel
theorem dX2_add_22 : decode cX2_add 22 = .ok (.iconst 1, 1) := by decide +kernel
theorem dX2_add_23 : decode cX2_add 23 = .ok (.iadd, 1) := by decide +kernel
theorem dX2_add_24 : decode cX2_add 24 = .ok (.putfield 19, 3) := by decide +kernel
theorem dX2_add_27 : decode cX2_add 27 = .ok (.return_, 1) := by decide +kernel
theorem dX3_init_0 : decode cX3_init 0 = .ok (.aload_n 0, 1) := by decide +kernel
theorem dX3_init_1 : decode cX3_init 1 = .ok (.invokespecial 3, 3) := by decide +kernel
theorem dX3_init_4 : decode cX3_init 4 = .ok (.aload_n 0, 1) := by decide +kernel
theorem dX3_init_5 : decode cX3_init 5 = .ok (.bipush 9, 2) := by decide +kernel
theorem dX3_init_7 : decode cX3_init 7 = .ok (.anewarray 9, 3) := by decide +kernel
theorem dX3_init_10 : decode cX3_init 10 = .ok (.putfield 11, 3) := by decide +kernel
theorem dX3_init_13 : decode cX3_init 13 = .ok (.aload_n 0, 1) := by decide +kernel
theorem dX3_init_14 : decode cX3_init 14 = .ok (.bipush 8, 2) := by decide +kernel
theorem dX3_init_16 : decode cX3_init 16 = .ok (.newarray .int, 2) := by decide +kernel
theorem dX3_init_18 : decode cX3_init 18 = .ok (.putfield 17, 3) := by decide +kernel
theorem dX3_init_21 : decode cX3_init 21 = .ok (.aload_n 0, 1) := by decide +kernel
theorem dX3_init_22 : decode cX3_init 22 = .ok (.bipush 8, 2) := by decide +kernel
theorem dX3_init_24 : decode cX3_init 24 = .ok (.newarray .int, 2) := by decide +kernel
theorem dX3_init_26 : decode cX3_init 26 = .ok (.putfield 21, 3) := by decide +kernel
theorem dX3_init_29 : decode cX3_init 29 = .ok (.aload_n 0, 1) := by decide +kernel
theorem dX3_init_30 : decode cX3_init 30 = .ok (.sipush 1021, 3) := by decide +kernel
theorem dX3_init_33 : decode cX3_init 33 = .ok (.newarray .int, 2) := by decide +kernel
theorem dX3_init_35 : decode cX3_init 35 = .ok (.putfield 24, 3) := by decide +kernel
theorem dX3_init_38 : decode cX3_init 38 = .ok (.aload_n 0, 1) := by decide +kernel
theorem dX3_init_39 : decode cX3_init 39 = .ok (.sipush 1021, 3) := by decide +kernel
theorem dX3_init_42 : decode cX3_init 42 = .ok (.newarray .int, 2) := by decide +kernel
theorem dX3_init_44 : decode cX3_init 44 = .ok (.putfield 27, 3) := by decide +kernel
theorem dX3_init_47 : decode cX3_init 47 = .ok (.iconst 0, 1) := by decide +kernel
theorem dX3_init_48 : decode cX3_init 48 = .ok (.istore_n 1, 1) := by decide +kernel
theorem dX3_init_49 : decode cX3_init 49 = .ok (.iload_n 1, 1) := by decide +kernel
theorem dX3_init_50 : decode cX3_init 50 = .ok (.aload_n 0, 1) := by decide +kernel
theorem dX3_init_51 : decode cX3_init 51 = .ok (.getfield 11, 3) := by decide +kernel
theorem dX3_init_54 : decode cX3_init 54 = .ok (.arraylength, 1) := by decide +kernel
theorem dX3_init_55 : decode cX3_init 55 = .ok (.if_icmp .ge 22, 3) := by decide +kernel
theorem dX3_init_58 : decode cX3_init 58 = .ok (.aload_n 0, 1) := by decide +kernel
theorem dX3_init_59 : decode cX3_init 59 = .ok (.getfield 11, 3) := by decide +kernel
theorem dX3_init_62 : decode cX3_init 62 = .ok (.iload_n 1, 1) := by decide +kernel
theorem dX3_init_63 : decode cX3_init 63 = .ok (.new 9, 3) := by decide +kernel
theorem dX3_init_66 : decode cX3_init 66 = .ok (.dup, 1) := by decide +kernel
theorem dX3_init_67 : decode cX3_init 67 = .ok (.invokespecial 30, 3) := by decide +kernel
theorem dX3_init_70 : decode cX3_init 70 = .ok (.aastore, 1) := by decide +kernel
theorem dX3_init_71 : decode cX3_init 71 = .ok (.iinc 1 1, 3) := by decide +kernel
theorem dX3_init_74 : decode cX3_init 74 = .ok (.goto (-25), 3) := by decide +kernel
theorem dX3_init_77 : decode cX3_init 77 = .ok (.return_, 1) := by decide +kernel
theorem dX3_look_0 : decode cX3_look 0 = .ok (.aload_n 0, 1) := by decide +kernel
theorem dX3_look_1 : decode cX3_look 1 = .ok (.iconst (-1), 1) := by decide +kernel
theorem dX3_look_2 : decode cX3_look 2 = .ok (.putfield 31, 3) := by decide +kernel
theorem dX3_look_5 : decode cX3_look 5 = .ok (.aload_n 0, 1) := by decide +kernel
theorem dX3_look_6 : decode cX3_look 6 = .ok (.getfield 24, 3) := by decide +kernel
theorem dX3_look_9 : decode cX3_look 9 = .ok (.iconst (-1), 1) := by decide +kernel
theorem dX3_look_10 : decode cX3_look 10 = .ok (.invokestatic 35, 3) := by decide +kernel
theorem dX3_look_13 : decode cX3_look 13 = .ok (.aload_n 0, 1) := by decide +kernel
theorem dX3_look_14 : decode cX3_look 14 = .ok (.getfield 11, 3) := by decide +kernel
theorem dX3_look_17 : decode cX3_look 17 = .ok (.iconst 0, 1) := by decide +kernel
theorem dX3_look_18 : decode cX3_look 18 = .ok (.aaload, 1) := by decide +kernel
theorem dX3_look_19 : decode cX3_look 19 = .ok (.aload_n 1, 1) := by decide +kernel
theorem dX3_look_20 : decode cX3_look 20 = .ok (.invokevirtual 41, 3) := by decide +kernel
theorem dX3_look_23 : decode cX3_look 23 = .ok (.aload_n 0, 1) := by decide +kernel
theorem dX3_look_24 : decode cX3_look 24 = .ok (.aload_n 1, 1) := by decide +kernel
theorem dX3_look_25 : decode cX3_look 25 = .ok (.iconst 0, 1) := by decide +kernel
theorem dX3_look_26 : decode cX3_look 26 = .ok (.iconst 0, 1) := by decide +kernel
theorem dX3_look_27 : decode cX3_look 27 = .ok (.iconst 0, 1) := by decide +kernel
theorem dX3_look_28 : decode cX3_look 28 = .ok (.invokestatic 45, 3) := by decide +kernel
theorem dX3_look_31 : decode cX3_look 31 = .ok (.return_, 1) := by decide +kernel
theorem dX3_extend_0 : decode cX3_extend 0 = .ok (.aload_n 1, 1) := by decide +kernel
theorem dX3_extend_1 : decode cX3_extend 1 = .ok (.getfield 49, 3) := by decide +kernel
theorem dX3_extend_4 : decode cX3_extend 4 = .ok (.astore 5, 2) := by decide +kernel
theorem dX3_extend_6 : decode cX3_extend 6 = .ok (.iload 4, 2) := by decide +kernel
theorem dX3_extend_8 : decode cX3_extend 8 = .ok (.aload 5, 2) := by decide +kernel
theorem dX3_extend_10 : decode cX3_extend 10 = .ok (.aload_n 0, 1) := by decide +kernel
theorem dX3_extend_11 : decode cX3_extend 11 = .ok (.getfield 11, 3) := by decide +kernel
theorem dX3_extend_14 : decode cX3_extend 14 = .ok (.iload_n 2, 1) := by decide +kernel
theorem dX3_extend_15 : decode cX3_extend 15 = .ok (.aaload, 1) := by decide +kernel
theorem dX3_extend_16 : decode cX3_extend 16 = .ok (.getfield 55, 3) := by decide +kernel
theorem dX3_extend_19 : decode cX3_extend 19 = .ok (.iload_n 3, 1) := by decide +kernel
theorem dX3_extend_20 : decode cX3_extend 20 = .ok (.invokestatic 58, 3) := by decide +kernel
theorem dX3_extend_23 : decode cX3_extend 23 = .ok (.iadd, 1) := by decide +kernel
theorem dX3_extend_24 : decode cX3_extend 24 = .ok (.aload_n 0, 1) := by decide +kernel
theorem dX3_extend_25 : decode cX3_extend 25 = .ok (.getfield 31, 3) := by decide +kernel
theorem dX3_extend_28 : decode cX3_extend 28 = .ok (.if_icmp .gt 4, 3) := by decide +kernel
theorem dX3_extend_31 : decode cX3_extend 31 = .ok (.return_, 1) := by decide +kernel
theorem dX3_extend_32 : decode cX3_extend 32 = .ok (.iload_n 2, 1) := by decide +kernel
theorem dX3_extend_33 : decode cX3_extend 33 = .ok (.aload 5, 2) := by decide +kernel
theorem dX3_extend_35 : decode cX3_extend 35 = .ok (.getfield 62, 3) := by decide +kernel
theorem dX3_extend_38 : decode cX3_extend 38 = .ok (.if_icmp .lt 24, 3) := by decide +kernel
theorem dX3_extend_41 : decode cX3_extend 41 = .ok (.aload_n 0, 1) := by decide +kernel
theorem dX3_extend_42 : decode cX3_extend 42 = .ok (.iload 4, 2) := by decide +kernel
theorem dX3_extend_44 : decode cX3_extend 44 = .ok (.putfield 31, 3) := by decide +kernel
theorem dX3_extend_47 : decode cX3_extend 47 = .ok (.aload_n 0, 1) := by decide +kernel
theorem dX3_extend_48 : decode cX3_extend 48 = .ok (.getfield 17, 3) := by decide +kernel
theorem dX3_extend_51 : decode cX3_extend 51 = .ok (.iconst 0, 1) := by decide +kernel
theorem dX3_extend_52 : decode cX3_extend 52 = .ok (.aload_n 0, 1) := by decide +kernel
theorem dX3_extend_53 : decode cX3_extend 53 = .ok (.getfield 21, 3) := by decide +kernel
theorem dX3_extend_56 : decode cX3_extend 56 = .ok (.iconst 0, 1) := by decide +kernel
theorem dX3_extend_57 : decode cX3_extend 57 = .ok (.iload_n 2, 1) := by decide +kernel
theorem dX3_extend_58 : decode cX3_extend 58 = .ok (.invokestatic 67, 3) := by decide +kernel
theorem dX3_extend_61 : decode cX3_extend 61 = .ok (.return_, 1) := by decide +kernel
theorem dX3_extend_62 : decode cX3_extend 62 = .ok (.aload_n 0, 1) := by decide +kernel
theorem dX3_extend_63 : decode cX3_extend 63 = .ok (.aload_n 0, 1) := by decide +kernel
theorem dX3_extend_64 : decode cX3_extend 64 = .ok (.getfield 11, 3) := by decide +kernel
theorem dX3_extend_67 : decode cX3_extend 67 = .ok (.iload_n 2, 1) := by decide +kernel
theorem dX3_extend_68 : decode cX3_extend 68 = .ok (.aaload, 1) := by decide +kernel
theorem dX3_extend_69 : decode cX3_extend 69 = .ok (.iload_n 3, 1) := by decide +kernel
theorem dX3_extend_70 : decode cX3_extend 70 = .ok (.iload 4, 2) := by decide +kernel
theorem dX3_extend_72 : decode cX3_extend 72 = .ok (.invokevirtual 73, 3) := by decide +kernel
theorem dX3_extend_75 : decode cX3_extend 75 = .ok (.ifCond .eq 4, 3) := by decide +kernel
theorem dX3_extend_78 : decode cX3_extend 78 = .ok (.return_, 1) := by decide +kernel
theorem dX3_extend_79 : decode cX3_extend 79 = .ok (.iconst 0, 1) := by decide +kernel
theorem dX3_extend_80 : decode cX3_extend 80 = .ok (.istore 6, 2) := by decide +kernel
theorem dX3_extend_82 : decode cX3_extend 82 = .ok (.iload 6, 2) := by decide +kernel
theorem dX3_extend_84 : decode cX3_extend 84 = .ok (.aload 5, 2) := by decide +kernel
theorem dX3_extend_86 : decode cX3_extend 86 = .ok (.getfield 62, 3) := by decide +kernel
theorem dX3_extend_89 : decode cX3_extend 89 = .ok (.if_icmp .ge 70, 3) := by decide +kernel
theorem dX3_extend_92 : decode cX3_extend 92 = .ok (.iload_n 3, 1) := by decide +kernel
theorem dX3_extend_93 : decode cX3_extend 93 = .ok (.iload 6, 2) := by decide +kernel
theorem dX3_extend_95 : decode cX3_extend 95 = .ok (.ishr, 1) := by decide +kernel
theorem dX3_extend_96 : decode cX3_extend 96 = .ok (.iconst 1, 1) := by decide +kernel
theorem dX3_extend_97 : decode cX3_extend 97 = .ok (.iand, 1) := by decide +kernel
theorem dX3_extend_98 : decode cX3_extend 98 = .ok (.ifCond .ne 55, 3) := by decide +kernel
theorem dX3_extend_101 : decode cX3_extend 101 = .ok (.aload_n 0, 1) := by decide +kernel
theorem dX3_extend_102 : decode cX3_extend 102 = .ok (.getfield 17, 3) := by decide +kernel
theorem dX3_extend_105 : decode cX3_extend 105 = .ok (.iload_n 2, 1) := by decide +kernel
theorem dX3_extend_106 : decode cX3_extend 106 = .ok (.iload 6, 2) := by decide +kernel
theorem dX3_extend_108 : decode cX3_extend 108 = .ok (.iastore, 1) := by decide +kernel
theorem dX3_extend_109 : decode cX3_extend 109 = .ok (.aload_n 0, 1) := by decide +kernel
theorem dX3_extend_110 : decode cX3_extend 110 = .ok (.aload_n 1, 1) := by decide +kernel
theorem dX3_extend_111 : decode cX3_extend 111 = .ok (.iload_n 2, 1) := by decide +kernel
theorem dX3_extend_112 : decode cX3_extend 112 = .ok (.iload 6, 2) := by decide +kernel
theorem dX3_extend_114 : decode cX3_extend 114 = .ok (.invokevirtual 77, 3) := by decide +kernel
theorem dX3_extend_117 : decode cX3_extend 117 = .ok (.istore 7, 2) := by decide +kernel
theorem dX3_extend_119 : decode cX3_extend 119 = .ok (.aload_n 0, 1) := by decide +kernel
theorem dX3_extend_120 : decode cX3_extend 120 = .ok (.aload_n 1, 1) := by decide +kernel
theorem dX3_extend_121 : decode cX3_extend 121 = .ok (.iload_n 2, 1) := by decide +kernel
theorem dX3_extend_122 : decode cX3_extend 122 = .ok (.iconst 1, 1) := by decide +kernel
theorem dX3_extend_123 : decode cX3_extend 123 = .ok (.iadd, 1) := by decide +kernel
theorem dX3_extend_124 : decode cX3_extend 124 = .ok (.iload_n 3, 1) := by decide +kernel
theorem dX3_extend_125 : decode cX3_extend 125 = .ok (.iconst 1, 1) := by decide +kernel
theorem dX3_extend_126 : decode cX3_extend 126 = .ok (.iload 6, 2) := by decide +kernel
theorem dX3_extend_128 : decode cX3_extend 128 = .ok (.ishl, 1) := by decide +kernel
theorem dX3_extend_129 : decode cX3_extend 129 = .ok (.ior, 1) := by decide +kernel
theorem dX3_extend_130 : decode cX3_extend 130 = .ok (.iload 4, 2) := by decide +kernel
theorem dX3_extend_132 : decode cX3_extend 132 = .ok (.iload 7, 2) := by decide +kernel
theorem dX3_extend_134 : decode cX3_extend 134 = .ok (.ifCond .eq 14, 3) := by decide +kernel
theorem dX3_extend_137 : decode cX3_extend 137 = .ok (.aload 5, 2) := by decide +kernel
theorem dX3_extend_139 : decode cX3_extend 139 = .ok (.getfield 81, 3) := by decide +kernel
theorem dX3_extend_142 : decode cX3_extend 142 = .ok (.iload 6, 2) := by decide +kernel
theorem dX3_extend_144 : decode cX3_extend 144 = .ok (.iaload, 1) := by decide +kernel
theorem dX3_extend_145 : decode cX3_extend 145 = .ok (.goto 4, 3) := by decide +kernel
theorem dX3_extend_148 : decode cX3_extend 148 = .ok (.iconst 0, 1) := by decide +kernel
theorem dX3_extend_149 : decode cX3_extend 149 = .ok (.iadd, 1) := by decide +kernel
theorem dX3_extend_150 : decode cX3_extend 150 = .ok (.invokestatic 45, 3) := by decide +kernel
theorem dX3_extend_153 : decode cX3_extend 153 = .ok (.iinc 6 1, 3) := by decide +kernel
theorem dX3_extend_156 : decode cX3_extend 156 = .ok (.goto (-74), 3) := by decide +kernel
theorem dX3_extend_159 : decode cX3_extend 159 = .ok (.return_, 1) := by decide +kernel
theorem dX3_reachedBefore_0 : decode cX3_reachedBefore 0 = .ok (.iload_n 2, 1) := by decide +kernel
theorem dX3_reachedBefore_1 : decode cX3_reachedBefore 1 = .ok (.bipush 41, 2) := by decide +kernel
theorem dX3_reachedBefore_3 : decode cX3_reachedBefore 3 = .ok (.imul, 1) := by decide +kernel
theorem dX3_reachedBefore_4 : decode cX3_reachedBefore 4 = .ok (.aload_n 1, 1) := by decide +kernel
theorem dX3_reachedBefore_5 : decode cX3_reachedBefore 5 = .ok (.getfield 55, 3) := by decide +kernel
theorem dX3_reachedBefore_8 : decode cX3_reachedBefore 8 = .ok (.iadd, 1) := by decide +kernel
theorem dX3_reachedBefore_9 : decode cX3_reachedBefore 9 = .ok (.bipush 21, 2) := by decide +kernel
theorem dX3_reachedBefore_11 : decode cX3_reachedBefore 11 = .ok (.imul, 1) := by decide +kernel
theorem dX3_reachedBefore_12 : decode cX3_reachedBefore 12 = .ok (.aload_n 1, 1) := by decide +kernel
theorem dX3_reachedBefore_13 : decode cX3_reachedBefore 13 = .ok (.getfield 84, 3) := by decide +kernel
theorem dX3_reachedBefore_16 : decode cX3_reachedBefore 16 = .ok (.iadd, 1) := by decide +kernel
theorem dX3_reachedBefore_17 : decode cX3_reachedBefore 17 = .ok (.bipush 41, 2) := by decide +kernel
theorem dX3_reachedBefore_19 : decode cX3_reachedBefore 19 = .ok (.imul, 1) := by decide +kernel
theorem dX3_reachedBefore_20 : decode cX3_reachedBefore 20 = .ok (.aload_n 1, 1) := by decide +kernel
theorem dX3_reachedBefore_21 : decode cX3_reachedBefore 21 = .ok (.getfield 87, 3) := by decide +kernel
theorem dX3_reachedBefore_24 : decode cX3_reachedBefore 24 = .ok (.iadd, 1) := by decide +kernel
theorem dX3_reachedBefore_25 : decode cX3_reachedBefore 25 = .ok (.istore 4, 2) := by decide +kernel
theorem dX3_reachedBefore_27 : decode cX3_reachedBefore 27 = .ok (.iload 4, 2) := by decide +kernel
theorem dX3_reachedBefore_29 : decode cX3_reachedBefore 29 = .ok (.sipush 1021, 3) := by decide +kernel
theorem dX3_reachedBefore_32 : decode cX3_reachedBefore 32 = .ok (.irem, 1) := by decide +kernel
theorem dX3_reachedBefore_33 : decode cX3_reachedBefore 33 = .ok (.istore 5, 2) := by decide +kernel
theorem dX3_reachedBefore_35 : decode cX3_reachedBefore 35 = .ok (.aload_n 0, 1) := by decide +kernel
theorem dX3_reachedBefore_36 : decode cX3_reachedBefore 36 = .ok (.getfield 24, 3) := by decide +kernel
theorem dX3_reachedBefore_39 : decode cX3_reachedBefore 39 = .ok (.iload 5, 2) := by decide +kernel
theorem dX3_reachedBefore_41 : decode cX3_reachedBefore 41 = .ok (.iaload, 1) := by decide +kernel
theorem dX3_reachedBefore_42 : decode cX3_reachedBefore 42 = .ok (.iload 4, 2) := by decide +kernel
theorem dX3_reachedBefore_44 : decode cX3_reachedBefore 44 = .ok (.if_icmp .ne 16, 3) := by decide +kernel
theorem dX3_reachedBefore_47 : decode cX3_reachedBefore 47 = .ok (.aload_n 0, 1) := by decide +kernel
theorem dX3_reachedBefore_48 : decode cX3_reachedBefore 48 = .ok (.getfield 27, 3) := by decide +kernel
theorem dX3_reachedBefore_51 : decode cX3_reachedBefore 51 = .ok (.iload 5, 2) := by decide +kernel
theorem dX3_reachedBefore_53 : decode cX3_reachedBefore 53 = .ok (.iaload, 1) := by decide +kernel
theorem dX3_reachedBefore_54 : decode cX3_reachedBefore 54 = .ok (.iload_n 3, 1) := by decide +kernel
theorem dX3_reachedBefore_55 : decode cX3_reachedBefore 55 = .ok (.if_icmp .lt 5, 3) := by decide +kernel
theorem dX3_reachedBefore_58 : decode cX3_reachedBefore 58 = .ok (.iconst 1, 1) := by decide +kernel
theorem dX3_reachedBefore_59 : decode cX3_reachedBefore 59 = .ok (.ireturn, 1) := by decide +kernel
theorem dX3_reachedBefore_60 : decode cX3_reachedBefore 60 = .ok (.aload_n 0, 1) := by decide +kernel
theorem dX3_reachedBefore_61 : decode cX3_reachedBefore 61 = .ok (.getfield 24, 3) := by decide +kernel
theorem dX3_reachedBefore_64 : decode cX3_reachedBefore 64 = .ok (.iload 5, 2) := by decide +kernel
theorem dX3_reachedBefore_66 : decode cX3_reachedBefore 66 = .ok (.iload 4, 2) := by decide +kernel
theorem dX3_reachedBefore_68 : decode cX3_reachedBefore 68 = .ok (.iastore, 1) := by decide +kernel
theorem dX3_reachedBefore_69 : decode cX3_reachedBefore 69 = .ok (.aload_n 0, 1) := by decide +kernel
theorem dX3_reachedBefore_70 : decode cX3_reachedBefore 70 = .ok (.getfield 27, 3) := by decide +kernel
theorem dX3_reachedBefore_73 : decode cX3_reachedBefore 73 = .ok (.iload 5, 2) := by decide +kernel
theorem dX3_reachedBefore_75 : decode cX3_reachedBefore 75 = .ok (.iload_n 3, 1) := by decide +kernel
theorem dX3_reachedBefore_76 : decode cX3_reachedBefore 76 = .ok (.iastore, 1) := by decide +kernel
theorem dX3_reachedBefore_77 : decode cX3_reachedBefore 77 = .ok (.iconst 0, 1) := by decide +kernel
theorem dX3_reachedBefore_78 : decode cX3_reachedBefore 78 = .ok (.ireturn, 1) := by decide +kernel
theorem dX3_hope_0 : decode cX3_hope 0 = .ok (.iconst 0, 1) := by decide +kernel
theorem dX3_hope_1 : decode cX3_hope 1 = .ok (.istore_n 3, 1) := by decide +kernel
theorem dX3_hope_2 : decode cX3_hope 2 = .ok (.iconst 0, 1) := by decide +kernel
theorem dX3_hope_3 : decode cX3_hope 3 = .ok (.istore 4, 2) := by decide +kernel
theorem dX3_hope_5 : decode cX3_hope 5 = .ok (.iload 4, 2) := by decide +kernel
theorem dX3_hope_7 : decode cX3_hope 7 = .ok (.aload_n 0, 1) := by decide +kernel
theorem dX3_hope_8 : decode cX3_hope 8 = .ok (.getfield 62, 3) := by decide +kernel
theorem dX3_hope_11 : decode cX3_hope 11 = .ok (.if_icmp .ge 49, 3) := by decide +kernel
theorem dX3_hope_14 : decode cX3_hope 14 = .ok (.iload_n 2, 1) := by decide +kernel
theorem dX3_hope_15 : decode cX3_hope 15 = .ok (.iload 4, 2) := by decide +kernel
theorem dX3_hope_17 : decode cX3_hope 17 = .ok (.ishr, 1) := by decide +kernel
theorem dX3_hope_18 : decode cX3_hope 18 = .ok (.iconst 1, 1) := by decide +kernel
theorem dX3_hope_19 : decode cX3_hope 19 = .ok (.iand, 1) := by decide +kernel
theorem dX3_hope_20 : decode cX3_hope 20 = .ok (.ifCond .ne 34, 3) := by decide +kernel
theorem dX3_hope_23 : decode cX3_hope 23 = .ok (.iload_n 1, 1) := by decide +kernel
theorem dX3_hope_24 : decode cX3_hope 24 = .ok (.aload_n 0, 1) := by decide +kernel
theorem dX3_hope_25 : decode cX3_hope 25 = .ok (.getfield 90, 3) := by decide +kernel
theorem dX3_hope_28 : decode cX3_hope 28 = .ok (.iload 4, 2) := by decide +kernel
theorem dX3_hope_30 : decode cX3_hope 30 = .ok (.iaload, 1) := by decide +kernel
theorem dX3_hope_31 : decode cX3_hope 31 = .ok (.iadd, 1) := by decide +kernel
theorem dX3_hope_32 : decode cX3_hope 32 = .ok (.iconst 1, 1) := by decide +kernel
theorem dX3_hope_33 : decode cX3_hope 33 = .ok (.isub, 1) := by decide +kernel
theorem dX3_hope_34 : decode cX3_hope 34 = .ok (.aload_n 0, 1) := by decide +kernel
theorem dX3_hope_35 : decode cX3_hope 35 = .ok (.getfield 93, 3) := by decide +kernel
theorem dX3_hope_38 : decode cX3_hope 38 = .ok (.iload 4, 2) := by decide +kernel
theorem dX3_hope_40 : decode cX3_hope 40 = .ok (.iaload, 1) := by decide +kernel
theorem dX3_hope_41 : decode cX3_hope 41 = .ok (.if_icmp .gt 13, 3) := by decide +kernel
theorem dX3_hope_44 : decode cX3_hope 44 = .ok (.iload_n 3, 1) := by decide +kernel
theorem dX3_hope_45 : decode cX3_hope 45 = .ok (.aload_n 0, 1) := by decide +kernel
theorem dX3_hope_46 : decode cX3_hope 46 = .ok (.getfield 81, 3) := by decide +kernel
theorem dX3_hope_49 : decode cX3_hope 49 = .ok (.iload 4, 2) := by decide +kernel
theorem dX3_hope_51 : decode cX3_hope 51 = .ok (.iaload, 1) := by decide +kernel
theorem dX3_hope_52 : decode cX3_hope 52 = .ok (.iadd, 1) := by decide +kernel
theorem dX3_hope_53 : decode cX3_hope 53 = .ok (.istore_n 3, 1) := by decide +kernel
theorem dX3_hope_54 : decode cX3_hope 54 = .ok (.iinc 4 1, 3) := by decide +kernel
theorem dX3_hope_57 : decode cX3_hope 57 = .ok (.goto (-52), 3) := by decide +kernel
theorem dX3_hope_60 : decode cX3_hope 60 = .ok (.iload_n 3, 1) := by decide +kernel
theorem dX3_hope_61 : decode cX3_hope 61 = .ok (.ireturn, 1) := by decide +kernel
theorem dX3_grind_0 : decode cX3_grind 0 = .ok (.aload_n 0, 1) := by decide +kernel
theorem dX3_grind_1 : decode cX3_grind 1 = .ok (.getfield 11, 3) := by decide +kernel
theorem dX3_grind_4 : decode cX3_grind 4 = .ok (.iload_n 2, 1) := by decide +kernel
theorem dX3_grind_5 : decode cX3_grind 5 = .ok (.iconst 1, 1) := by decide +kernel
theorem dX3_grind_6 : decode cX3_grind 6 = .ok (.iadd, 1) := by decide +kernel
theorem dX3_grind_7 : decode cX3_grind 7 = .ok (.aaload, 1) := by decide +kernel
theorem dX3_grind_8 : decode cX3_grind 8 = .ok (.astore 4, 2) := by decide +kernel
theorem dX3_grind_10 : decode cX3_grind 10 = .ok (.aload 4, 2) := by decide +kernel
theorem dX3_grind_12 : decode cX3_grind 12 = .ok (.aload_n 0, 1) := by decide +kernel
theorem dX3_grind_13 : decode cX3_grind 13 = .ok (.getfield 11, 3) := by decide +kernel
theorem dX3_grind_16 : decode cX3_grind 16 = .ok (.iload_n 2, 1) := by decide +kernel
theorem dX3_grind_17 : decode cX3_grind 17 = .ok (.aaload, 1) := by decide +kernel
theorem dX3_grind_18 : decode cX3_grind 18 = .ok (.invokevirtual 96, 3) := by decide +kernel
theorem dX3_grind_21 : decode cX3_grind 21 = .ok (.aload_n 1, 1) := by decide +kernel
theorem dX3_grind_22 : decode cX3_grind 22 = .ok (.getfield 49, 3) := by decide +kernel
theorem dX3_grind_25 : decode cX3_grind 25 = .ok (.getfield 90, 3) := by decide +kernel
theorem dX3_grind_28 : decode cX3_grind 28 = .ok (.iload_n 3, 1) := by decide +kernel
theorem dX3_grind_29 : decode cX3_grind 29 = .ok (.iaload, 1) := by decide +kernel
theorem dX3_grind_30 : decode cX3_grind 30 = .ok (.istore 5, 2) := by decide +kernel
theorem dX3_grind_32 : decode cX3_grind 32 = .ok (.aload 4, 2) := by decide +kernel
theorem dX3_grind_34 : decode cX3_grind 34 = .ok (.getfield 55, 3) := by decide +kernel
theorem dX3_grind_37 : decode cX3_grind 37 = .ok (.istore 6, 2) := by decide +kernel
theorem dX3_grind_39 : decode cX3_grind 39 = .ok (.iload 5, 2) := by decide +kernel
theorem dX3_grind_41 : decode cX3_grind 41 = .ok (.ifCond .le 37, 3) := by decide +kernel
theorem dX3_grind_44 : decode cX3_grind 44 = .ok (.iload 6, 2) := by decide +kernel
theorem dX3_grind_46 : decode cX3_grind 46 = .ok (.bipush 40, 2) := by decide +kernel
theorem dX3_grind_48 : decode cX3_grind 48 = .ok (.if_icmp .ge 30, 3) := by decide +kernel
theorem dX3_grind_51 : decode cX3_grind 51 = .ok (.aload 4, 2) := by decide +kernel
theorem dX3_grind_53 : decode cX3_grind 53 = .ok (.aload_n 1, 1) := by decide +kernel
theorem dX3_grind_54 : decode cX3_grind 54 = .ok (.aload_n 1, 1) := by decide +kernel
theorem dX3_grind_55 : decode cX3_grind 55 = .ok (.getfield 49, 3) := by decide +kernel
theorem dX3_grind_58 : decode cX3_grind 58 = .ok (.getfield 100, 3) := by decide +kernel
theorem dX3_grind_61 : decode cX3_grind 61 = .ok (.iload_n 3, 1) := by decide +kernel
theorem dX3_grind_62 : decode cX3_grind 62 = .ok (.iaload, 1) := by decide +kernel
theorem dX3_grind_63 : decode cX3_grind 63 = .ok (.invokevirtual 103, 3) := by decide +kernel
theorem dX3_grind_66 : decode cX3_grind 66 = .ok (.ifCond .eq 6, 3) := by decide +kernel
theorem dX3_grind_69 : decode cX3_grind 69 = .ok (.iinc 5 (-1), 3) := by decide +kernel
theorem dX3_grind_72 : decode cX3_grind 72 = .ok (.iinc 6 1, 3) := by decide +kernel
theorem dX3_grind_75 : decode cX3_grind 75 = .ok (.goto (-36), 3) := by decide +kernel
theorem dX3_grind_78 : decode cX3_grind 78 = .ok (.iload 5, 2) := by decide +kernel
theorem dX3_grind_80 : decode cX3_grind 80 = .ok (.ifCond .ne 26, 3) := by decide +kernel
theorem dX3_grind_83 : decode cX3_grind 83 = .ok (.aload 4, 2) := by decide +kernel
theorem dX3_grind_85 : decode cX3_grind 85 = .ok (.getfield 55, 3) := by decide +kernel
theorem dX3_grind_88 : decode cX3_grind 88 = .ok (.iconst 1, 1) := by decide +kernel
theorem dX3_grind_89 : decode cX3_grind 89 = .ok (.isub, 1) := by decide +kernel
theorem dX3_grind_90 : decode cX3_grind 90 = .ok (.aload_n 1, 1) := by decide +kernel
theorem dX3_grind_91 : decode cX3_grind 91 = .ok (.getfield 49, 3) := by decide +kernel
theorem dX3_grind_94 : decode cX3_grind 94 = .ok (.getfield 93, 3) := by decide +kernel
theorem dX3_grind_97 : decode cX3_grind 97 = .ok (.iload_n 3, 1) := by decide +kernel
theorem dX3_grind_98 : decode cX3_grind 98 = .ok (.iaload, 1) := by decide +kernel
theorem dX3_grind_99 : decode cX3_grind 99 = .ok (.if_icmp .gt 7, 3) := by decide +kernel
theorem dX3_grind_102 : decode cX3_grind 102 = .ok (.iconst 1, 1) := by decide +kernel
theorem dX3_grind_103 : decode cX3_grind 103 = .ok (.goto 4, 3) := by decide +kernel
theorem dX3_grind_106 : decode cX3_grind 106 = .ok (.iconst 0, 1) := by decide +kernel
theorem dX3_grind_107 : decode cX3_grind 107 = .ok (.ireturn, 1) := by decide +kernel
theorem dX4_init_0 : decode cX4_init 0 = .ok (.aload_n 0, 1) := by decide +kernel
theorem dX4_init_1 : decode cX4_init 1 = .ok (.invokespecial 3, 3) := by decide +kernel
theorem dX4_init_4 : decode cX4_init 4 = .ok (.return_, 1) := by decide +kernel
theorem dX4_begin_0 : decode cX4_begin 0 = .ok (.aload_n 0, 1) := by decide +kernel
theorem dX4_begin_1 : decode cX4_begin 1 = .ok (.iconst 0, 1) := by decide +kernel
theorem dX4_begin_2 : decode cX4_begin 2 = .ok (.putfield 9, 3) := by decide +kernel
theorem dX4_begin_5 : decode cX4_begin 5 = .ok (.aload_n 0, 1) := by decide +kernel
theorem dX4_begin_6 : decode cX4_begin 6 = .ok (.aload_n 1, 1) := by decide +kernel
theorem dX4_begin_7 : decode cX4_begin 7 = .ok (.getfield 15, 3) := by decide +kernel
theorem dX4_begin_10 : decode cX4_begin 10 = .ok (.iconst 0, 1) := by decide +kernel
theorem dX4_begin_11 : decode cX4_begin 11 = .ok (.iaload, 1) := by decide +kernel
theorem dX4_begin_12 : decode cX4_begin 12 = .ok (.putfield 21, 3) := by decide +kernel
theorem dX4_begin_15 : decode cX4_begin 15 = .ok (.aload_n 0, 1) := by decide +kernel
theorem dX4_begin_16 : decode cX4_begin 16 = .ok (.iconst 0, 1) := by decide +kernel
theorem dX4_begin_17 : decode cX4_begin 17 = .ok (.putfield 24, 3) := by decide +kernel
theorem dX4_begin_20 : decode cX4_begin 20 = .ok (.aload_n 0, 1) := by decide +kernel
theorem dX4_begin_21 : decode cX4_begin 21 = .ok (.iconst 0, 1) := by decide +kernel
theorem dX4_begin_22 : decode cX4_begin 22 = .ok (.putfield 27, 3) := by decide +kernel
theorem dX4_begin_25 : decode cX4_begin 25 = .ok (.return_, 1) := by decide +kernel
theorem dX4_becomeLike_0 : decode cX4_becomeLike 0 = .ok (.aload_n 0, 1) := by decide +kernel
theorem dX4_becomeLike_1 : decode cX4_becomeLike 1 = .ok (.aload_n 1, 1) := by decide +kernel
theorem dX4_becomeLike_2 : decode cX4_becomeLike 2 = .ok (.getfield 9, 3) := by decide +kernel
theorem dX4_becomeLike_5 : decode cX4_becomeLike 5 = .ok (.putfield 9, 3) := by decide +kernel
theorem dX4_becomeLike_8 : decode cX4_becomeLike 8 = .ok (.aload_n 0, 1) := by decide +kernel
theorem dX4_becomeLike_9 : decode cX4_becomeLike 9 = .ok (.aload_n 1, 1) := by decide +kernel
theorem dX4_becomeLike_10 : decode cX4_becomeLike 10 = .ok (.getfield 21, 3) := by decide +kernel
theorem dX4_becomeLike_13 : decode cX4_becomeLike 13 = .ok (.putfield 21, 3) := by decide +kernel
theorem dX4_becomeLike_16 : decode cX4_becomeLike 16 = .ok (.aload_n 0, 1) := by decide +kernel
theorem dX4_becomeLike_17 : decode cX4_becomeLike 17 = .ok (.aload_n 1, 1) := by decide +kernel
theorem dX4_becomeLike_18 : decode cX4_becomeLike 18 = .ok (.getfield 24, 3) := by decide +kernel
theorem dX4_becomeLike_21 : decode cX4_becomeLike 21 = .ok (.putfield 24, 3) := by decide +kernel
theorem dX4_becomeLike_24 : decode cX4_becomeLike 24 = .ok (.aload_n 0, 1) := by decide +kernel
theorem dX4_becomeLike_25 : decode cX4_becomeLike 25 = .ok (.aload_n 1, 1) := by decide +kernel
theorem dX4_becomeLike_26 : decode cX4_becomeLike 26 = .ok (.getfield 27, 3) := by decide +kernel
theorem dX4_becomeLike_29 : decode cX4_becomeLike 29 = .ok (.putfield 27, 3) := by decide +kernel
theorem dX4_becomeLike_32 : decode cX4_becomeLike 32 = .ok (.return_, 1) := by decide +kernel
theorem dX4_pass_0 : decode cX4_pass 0 = .ok (.aload_n 0, 1) := by decide +kernel
theorem dX4_pass_1 : decode cX4_pass 1 = .ok (.getfield 9, 3) := by decide +kernel
theorem dX4_pass_4 : decode cX4_pass 4 = .ok (.ifCond .lt 12, 3) := by decide +kernel
theorem dX4_pass_7 : decode cX4_pass 7 = .ok (.aload_n 0, 1) := by decide +kernel
theorem dX4_pass_8 : decode cX4_pass 8 = .ok (.getfield 9, 3) := by decide +kernel
theorem dX4_pass_11 : decode cX4_pass 11 = .ok (.bipush 40, 2) := by decide +kernel
theorem dX4_pass_13 : decode cX4_pass 13 = .ok (.if_icmp .lt 5, 3) := by decide +kernel
theorem dX4_pass_16 : decode cX4_pass 16 = .ok (.iconst 0, 1) := by decide +kernel
theorem dX4_pass_17 : decode cX4_pass 17 = .ok (.ireturn, 1) := by decide +kernel
theorem dX4_pass_18 : decode cX4_pass 18 = .ok (.aload_n 1, 1) := by decide +kernel
theorem dX4_pass_19 : decode cX4_pass 19 = .ok (.getfield 30, 3) := by decide +kernel
theorem dX4_pass_22 : decode cX4_pass 22 = .ok (.aload_n 0, 1) := by decide +kernel
theorem dX4_pass_23 : decode cX4_pass 23 = .ok (.getfield 9, 3) := by decide +kernel
theorem dX4_pass_26 : decode cX4_pass 26 = .ok (.iaload, 1) := by decide +kernel
theorem dX4_pass_27 : decode cX4_pass 27 = .ok (.istore_n 3, 1) := by decide +kernel
theorem dX4_pass_28 : decode cX4_pass 28 = .ok (.aload_n 0, 1) := by decide +kernel
theorem dX4_pass_29 : decode cX4_pass 29 = .ok (.dup, 1) := by decide +kernel
theorem dX4_pass_30 : decode cX4_pass 30 = .ok (.getfield 21, 3) := by decide +kernel
theorem dX4_pass_33 : decode cX4_pass 33 = .ok (.iload_n 3, 1) := by decide +kernel
theorem dX4_pass_34 : decode cX4_pass 34 = .ok (.aload_n 0, 1) := by decide +kernel
theorem dX4_pass_35 : decode cX4_pass 35 = .ok (.getfield 21, 3) := by decide +kernel
theorem dX4_pass_38 : decode cX4_pass 38 = .ok (.isub, 1) := by decide +kernel
theorem dX4_pass_39 : decode cX4_pass 39 = .ok (.iconst 0, 1) := by decide +kernel
theorem dX4_pass_40 : decode cX4_pass 40 = .ok (.invokestatic 33, 3) := by decide +kernel
theorem dX4_pass_43 : decode cX4_pass 43 = .ok (.aload_n 1, 1) := by decide +kernel
theorem dX4_pass_44 : decode cX4_pass 44 = .ok (.getfield 15, 3) := by decide +kernel
theorem dX4_pass_47 : decode cX4_pass 47 = .ok (.iconst 1, 1) := by decide +kernel
theorem dX4_pass_48 : decode cX4_pass 48 = .ok (.iaload, 1) := by decide +kernel
theorem dX4_pass_49 : decode cX4_pass 49 = .ok (.invokestatic 39, 3) := by decide +kernel
theorem dX4_pass_52 : decode cX4_pass 52 = .ok (.iconst 3, 1) := by decide +kernel
theorem dX4_pass_53 : decode cX4_pass 53 = .ok (.aload_n 1, 1) := by decide +kernel
theorem dX4_pass_54 : decode cX4_pass 54 = .ok (.getfield 42, 3) := by decide +kernel
theorem dX4_pass_57 : decode cX4_pass 57 = .ok (.aload_n 0, 1) := by decide +kernel
theorem dX4_pass_58 : decode cX4_pass 58 = .ok (.getfield 9, 3) := by decide +kernel
theorem dX4_pass_61 : decode cX4_pass 61 = .ok (.iaload, 1) := by decide +kernel
theorem dX4_pass_62 : decode cX4_pass 62 = .ok (.imul, 1) := by decide +kernel
theorem dX4_pass_63 : decode cX4_pass 63 = .ok (.iadd, 1) := by decide +kernel
theorem dX4_pass_64 : decode cX4_pass 64 = .ok (.iadd, 1) := by decide +kernel
theorem dX4_pass_65 : decode cX4_pass 65 = .ok (.putfield 21, 3) := by decide +kernel
theorem dX4_pass_68 : decode cX4_pass 68 = .ok (.aload_n 0, 1) := by decide +kernel
theorem dX4_pass_69 : decode cX4_pass 69 = .ok (.getfield 21, 3) := by decide +kernel
theorem dX4_pass_72 : decode cX4_pass 72 = .ok (.bipush 20, 2) := by decide +kernel
theorem dX4_pass_74 : decode cX4_pass 74 = .ok (.if_icmp .le 25, 3) := by decide +kernel
theorem dX4_pass_77 : decode cX4_pass 77 = .ok (.aload_n 0, 1) := by decide +kernel
theorem dX4_pass_78 : decode cX4_pass 78 = .ok (.dup, 1) := by decide +kernel
theorem dX4_pass_79 : decode cX4_pass 79 = .ok (.getfield 27, 3) := by decide +kernel
theorem dX4_pass_82 : decode cX4_pass 82 = .ok (.aload_n 0, 1) := by decide +kernel
theorem dX4_pass_83 : decode cX4_pass 83 = .ok (.getfield 21, 3) := by decide +kernel
theorem dX4_pass_86 : decode cX4_pass 86 = .ok (.bipush 20, 2) := by decide +kernel
theorem dX4_pass_88 : decode cX4_pass 88 = .ok (.isub, 1) := by decide +kernel
theorem dX4_pass_89 : decode cX4_pass 89 = .ok (.iadd, 1) := by decide +kernel
theorem dX4_pass_90 : decode cX4_pass 90 = .ok (.putfield 27, 3) := by decide +kernel
theorem dX4_pass_93 : decode cX4_pass 93 = .ok (.aload_n 0, 1) := by decide +kernel
theorem dX4_pass_94 : decode cX4_pass 94 = .ok (.bipush 20, 2) := by decide +kernel
theorem dX4_pass_96 : decode cX4_pass 96 = .ok (.putfield 21, 3) := by decide +kernel
theorem dX4_pass_99 : decode cX4_pass 99 = .ok (.aload_n 0, 1) := by decide +kernel
theorem dX4_pass_100 : decode cX4_pass 100 = .ok (.aload_n 0, 1) := by decide +kernel
theorem dX4_pass_101 : decode cX4_pass 101 = .ok (.getfield 21, 3) := by decide +kernel
theorem dX4_pass_104 : decode cX4_pass 104 = .ok (.aload_n 1, 1) := by decide +kernel
theorem dX4_pass_105 : decode cX4_pass 105 = .ok (.getfield 15, 3) := by decide +kernel
theorem dX4_pass_108 : decode cX4_pass 108 = .ok (.iconst 2, 1) := by decide +kernel
theorem dX4_pass_109 : decode cX4_pass 109 = .ok (.iaload, 1) := by decide +kernel
theorem dX4_pass_110 : decode cX4_pass 110 = .ok (.isub, 1) := by decide +kernel
theorem dX4_pass_111 : decode cX4_pass 111 = .ok (.iconst 0, 1) := by decide +kernel
theorem dX4_pass_112 : decode cX4_pass 112 = .ok (.invokestatic 33, 3) := by decide +kernel
theorem dX4_pass_115 : decode cX4_pass 115 = .ok (.putfield 21, 3) := by decide +kernel
theorem dX4_pass_118 : decode cX4_pass 118 = .ok (.aload_n 1, 1) := by decide +kernel
theorem dX4_pass_119 : decode cX4_pass 119 = .ok (.getfield 45, 3) := by decide +kernel
theorem dX4_pass_122 : decode cX4_pass 122 = .ok (.aload_n 0, 1) := by decide +kernel
theorem dX4_pass_123 : decode cX4_pass 123 = .ok (.getfield 9, 3) := by decide +kernel
theorem dX4_pass_126 : decode cX4_pass 126 = .ok (.iaload, 1) := by decide +kernel
theorem dX4_pass_127 : decode cX4_pass 127 = .ok (.ifCond .le 7, 3) := by decide +kernel
theorem dX4_pass_130 : decode cX4_pass 130 = .ok (.iconst 1, 1) := by decide +kernel
theorem dX4_pass_131 : decode cX4_pass 131 = .ok (.goto 4, 3) := by decide +kernel
theorem dX4_pass_134 : decode cX4_pass 134 = .ok (.iconst 0, 1) := by decide +kernel
theorem dX4_pass_135 : decode cX4_pass 135 = .ok (.istore 4, 2) := by decide +kernel
theorem dX4_pass_137 : decode cX4_pass 137 = .ok (.aload_n 0, 1) := by decide +kernel
theorem dX4_pass_138 : decode cX4_pass 138 = .ok (.dup, 1) := by decide +kernel
theorem dX4_pass_139 : decode cX4_pass 139 = .ok (.getfield 9, 3) := by decide +kernel
theorem dX4_pass_142 : decode cX4_pass 142 = .ok (.iconst 1, 1) := by decide +kernel
theorem dX4_pass_143 : decode cX4_pass 143 = .ok (.iadd, 1) := by decide +kernel
theorem dX4_pass_144 : decode cX4_pass 144 = .ok (.putfield 9, 3) := by decide +kernel
theorem dX4_pass_147 : decode cX4_pass 147 = .ok (.iload 4, 2) := by decide +kernel
theorem dX4_pass_149 : decode cX4_pass 149 = .ok (.ifCond .eq 10, 3) := by decide +kernel
theorem dX4_pass_152 : decode cX4_pass 152 = .ok (.aload_n 0, 1) := by decide +kernel
theorem dX4_pass_153 : decode cX4_pass 153 = .ok (.iconst 0, 1) := by decide +kernel
theorem dX4_pass_154 : decode cX4_pass 154 = .ok (.putfield 24, 3) := by decide +kernel
theorem dX4_pass_157 : decode cX4_pass 157 = .ok (.iconst 0, 1) := by decide +kernel
theorem dX4_pass_158 : decode cX4_pass 158 = .ok (.ireturn, 1) := by decide +kernel
theorem dX4_pass_159 : decode cX4_pass 159 = .ok (.iload_n 2, 1) := by decide +kernel
theorem dX4_pass_160 : decode cX4_pass 160 = .ok (.iconst (-1), 1) := by decide +kernel
theorem dX4_pass_161 : decode cX4_pass 161 = .ok (.if_icmp .eq 30, 3) := by decide +kernel
theorem dX4_pass_164 : decode cX4_pass 164 = .ok (.aload_n 0, 1) := by decide +kernel
theorem dX4_pass_165 : decode cX4_pass 165 = .ok (.getfield 21, 3) := by decide +kernel
theorem dX4_pass_168 : decode cX4_pass 168 = .ok (.iload_n 3, 1) := by decide +kernel
theorem dX4_pass_169 : decode cX4_pass 169 = .ok (.isub, 1) := by decide +kernel
theorem dX4_pass_170 : decode cX4_pass 170 = .ok (.aload_n 1, 1) := by decide +kernel
theorem dX4_pass_171 : decode cX4_pass 171 = .ok (.getfield 15, 3) := by decide +kernel
theorem dX4_pass_174 : decode cX4_pass 174 = .ok (.iconst 3, 1) := by decide +kernel
theorem dX4_pass_175 : decode cX4_pass 175 = .ok (.iaload, 1) := by decide +kernel
theorem dX4_pass_176 : decode cX4_pass 176 = .ok (.getstatic 48, 3) := by decide +kernel
theorem dX4_pass_179 : decode cX4_pass 179 = .ok (.iload_n 2, 1) := by decide +kernel
theorem dX4_pass_180 : decode cX4_pass 180 = .ok (.iaload, 1) := by decide +kernel
theorem dX4_pass_181 : decode cX4_pass 181 = .ok (.iadd, 1) := by decide +kernel
theorem dX4_pass_182 : decode cX4_pass 182 = .ok (.aload_n 0, 1) := by decide +kernel
theorem dX4_pass_183 : decode cX4_pass 183 = .ok (.aload_n 1, 1) := by decide +kernel
theorem dX4_pass_184 : decode cX4_pass 184 = .ok (.invokevirtual 51, 3) := by decide +kernel
theorem dX4_pass_187 : decode cX4_pass 187 = .ok (.iadd, 1) := by decide +kernel
theorem dX4_pass_188 : decode cX4_pass 188 = .ok (.if_icmp .ge 5, 3) := by decide +kernel
theorem dX4_pass_191 : decode cX4_pass 191 = .ok (.iconst 0, 1) := by decide +kernel
theorem dX4_pass_192 : decode cX4_pass 192 = .ok (.ireturn, 1) := by decide +kernel
theorem dX4_pass_193 : decode cX4_pass 193 = .ok (.aload_n 0, 1) := by decide +kernel
theorem dX4_pass_194 : decode cX4_pass 194 = .ok (.aload_n 0, 1) := by decide +kernel
theorem dX4_pass_195 : decode cX4_pass 195 = .ok (.getfield 21, 3) := by decide +kernel
theorem dX4_pass_198 : decode cX4_pass 198 = .ok (.getstatic 55, 3) := by decide +kernel
theorem dX4_pass_201 : decode cX4_pass 201 = .ok (.iload_n 2, 1) := by decide +kernel
theorem dX4_pass_202 : decode cX4_pass 202 = .ok (.iaload, 1) := by decide +kernel
theorem dX4_pass_203 : decode cX4_pass 203 = .ok (.isub, 1) := by decide +kernel
theorem dX4_pass_204 : decode cX4_pass 204 = .ok (.iconst 0, 1) := by decide +kernel
theorem dX4_pass_205 : decode cX4_pass 205 = .ok (.invokestatic 33, 3) := by decide +kernel
theorem dX4_pass_208 : decode cX4_pass 208 = .ok (.putfield 21, 3) := by decide +kernel
theorem dX4_pass_211 : decode cX4_pass 211 = .ok (.aload_n 0, 1) := by decide +kernel
theorem dX4_pass_212 : decode cX4_pass 212 = .ok (.dup, 1) := by decide +kernel
theorem dX4_pass_213 : decode cX4_pass 213 = .ok (.getfield 24, 3) := by decide +kernel
theorem dX4_pass_216 : decode cX4_pass 216 = .ok (.iconst 1, 1) := by decide +kernel
theorem dX4_pass_217 : decode cX4_pass 217 = .ok (.iadd, 1) := by decide +kernel
theorem dX4_pass_218 : decode cX4_pass 218 = .ok (.putfield 24, 3) := by decide +kernel
theorem dX4_pass_221 : decode cX4_pass 221 = .ok (.iconst 1, 1) := by decide +kernel
theorem dX4_pass_222 : decode cX4_pass 222 = .ok (.ireturn, 1) := by decide +kernel
theorem dX4_dullness_0 : decode cX4_dullness 0 = .ok (.aload_n 1, 1) := by decide +kernel
theorem dX4_dullness_1 : decode cX4_dullness 1 = .ok (.getfield 15, 3) := by decide +kernel
theorem dX4_dullness_4 : decode cX4_dullness 4 = .ok (.iconst 4, 1) := by decide +kernel
theorem dX4_dullness_5 : decode cX4_dullness 5 = .ok (.iaload, 1) := by decide +kernel
theorem dX4_dullness_6 : decode cX4_dullness 6 = .ok (.istore_n 2, 1) := by decide +kernel
theorem dX4_dullness_7 : decode cX4_dullness 7 = .ok (.iload_n 2, 1) := by decide +kernel
theorem dX4_dullness_8 : decode cX4_dullness 8 = .ok (.ifCond .le 12, 3) := by decide +kernel
theorem dX4_dullness_11 : decode cX4_dullness 11 = .ok (.aload_n 0, 1) := by decide +kernel
theorem dX4_dullness_12 : decode cX4_dullness 12 = .ok (.getfield 24, 3) := by decide +kernel
theorem dX4_dullness_15 : decode cX4_dullness 15 = .ok (.iload_n 2, 1) := by decide +kernel
theorem dX4_dullness_16 : decode cX4_dullness 16 = .ok (.idiv, 1) := by decide +kernel
theorem dX4_dullness_17 : decode cX4_dullness 17 = .ok (.goto 4, 3) := by decide +kernel
theorem dX4_dullness_20 : decode cX4_dullness 20 = .ok (.iconst 0, 1) := by decide +kernel
theorem dX4_dullness_21 : decode cX4_dullness 21 = .ok (.ireturn, 1) := by decide +kernel
theorem dX5_init_0 : decode cX5_init 0 = .ok (.aload_n 0, 1) := by decide +kernel
theorem dX5_init_1 : decode cX5_init 1 = .ok (.invokespecial 3, 3) := by decide +kernel
theorem dX5_init_4 : decode cX5_init 4 = .ok (.aload_n 0, 1) := by decide +kernel
theorem dX5_init_5 : decode cX5_init 5 = .ok (.new 9, 3) := by decide +kernel
theorem dX5_init_8 : decode cX5_init 8 = .ok (.dup, 1) := by decide +kernel
theorem dX5_init_9 : decode cX5_init 9 = .ok (.invokespecial 11, 3) := by decide +kernel
theorem dX5_init_12 : decode cX5_init 12 = .ok (.putfield 12, 3) := by decide +kernel
theorem dX5_init_15 : decode cX5_init 15 = .ok (.aload_n 0, 1) := by decide +kernel
theorem dX5_init_16 : decode cX5_init 16 = .ok (.bipush 40, 2) := by decide +kernel
theorem dX5_init_18 : decode cX5_init 18 = .ok (.newarray .int, 2) := by decide +kernel
theorem dX5_init_20 : decode cX5_init 20 = .ok (.putfield 18, 3) := by decide +kernel
theorem dX5_init_23 : decode cX5_init 23 = .ok (.aload_n 0, 1) := by decide +kernel
theorem dX5_init_24 : decode cX5_init 24 = .ok (.bipush 40, 2) := by decide +kernel
theorem dX5_init_26 : decode cX5_init 26 = .ok (.newarray .int, 2) := by decide +kernel
theorem dX5_init_28 : decode cX5_init 28 = .ok (.putfield 22, 3) := by decide +kernel
theorem dX5_init_31 : decode cX5_init 31 = .ok (.aload_n 0, 1) := by decide +kernel
theorem dX5_init_32 : decode cX5_init 32 = .ok (.bipush 40, 2) := by decide +kernel
theorem dX5_init_34 : decode cX5_init 34 = .ok (.newarray .int, 2) := by decide +kernel
theorem dX5_init_36 : decode cX5_init 36 = .ok (.putfield 25, 3) := by decide +kernel
theorem dX5_init_39 : decode cX5_init 39 = .ok (.aload_n 0, 1) := by decide +kernel
theorem dX5_init_40 : decode cX5_init 40 = .ok (.bipush 40, 2) := by decide +kernel
theorem dX5_init_42 : decode cX5_init 42 = .ok (.newarray .int, 2) := by decide +kernel
theorem dX5_init_44 : decode cX5_init 44 = .ok (.putfield 28, 3) := by decide +kernel
theorem dX5_init_47 : decode cX5_init 47 = .ok (.aload_n 0, 1) := by decide +kernel
theorem dX5_init_48 : decode cX5_init 48 = .ok (.bipush 40, 2) := by decide +kernel
theorem dX5_init_50 : decode cX5_init 50 = .ok (.newarray .int, 2) := by decide +kernel
theorem dX5_init_52 : decode cX5_init 52 = .ok (.putfield 31, 3) := by decide +kernel
theorem dX5_init_55 : decode cX5_init 55 = .ok (.aload_n 0, 1) := by decide +kernel
theorem dX5_init_56 : decode cX5_init 56 = .ok (.bipush 8, 2) := by decide +kernel
theorem dX5_init_58 : decode cX5_init 58 = .ok (.newarray .int, 2) := by decide +kernel
theorem dX5_init_60 : decode cX5_init 60 = .ok (.putfield 34, 3) := by decide +kernel
theorem dX5_init_63 : decode cX5_init 63 = .ok (.return_, 1) := by decide +kernel
theorem dX5_play_0 : decode cX5_play 0 = .ok (.aload_n 0, 1) := by decide +kernel
theorem dX5_play_1 : decode cX5_play 1 = .ok (.getfield 34, 3) := by decide +kernel
theorem dX5_play_4 : decode cX5_play 4 = .ok (.iconst (-1), 1) := by decide +kernel
theorem dX5_play_5 : decode cX5_play 5 = .ok (.invokestatic 37, 3) := by decide +kernel
theorem dX5_play_8 : decode cX5_play 8 = .ok (.aload_n 0, 1) := by decide +kernel
theorem dX5_play_9 : decode cX5_play 9 = .ok (.iconst 0, 1) := by decide +kernel
theorem dX5_play_10 : decode cX5_play 10 = .ok (.putfield 43, 3) := by decide +kernel
theorem dX5_play_13 : decode cX5_play 13 = .ok (.aload_n 0, 1) := by decide +kernel
theorem dX5_play_14 : decode cX5_play 14 = .ok (.getfield 12, 3) := by decide +kernel
theorem dX5_play_17 : decode cX5_play 17 = .ok (.aload_n 1, 1) := by decide +kernel
theorem dX5_play_18 : decode cX5_play 18 = .ok (.invokevirtual 47, 3) := by decide +kernel
theorem dX5_play_21 : decode cX5_play 21 = .ok (.iconst 0, 1) := by decide +kernel
theorem dX5_play_22 : decode cX5_play 22 = .ok (.istore_n 2, 1) := by decide +kernel
theorem dX5_play_23 : decode cX5_play 23 = .ok (.iconst 0, 1) := by decide +kernel
theorem dX5_play_24 : decode cX5_play 24 = .ok (.istore_n 3, 1) := by decide +kernel
theorem dX5_play_25 : decode cX5_play 25 = .ok (.iconst 0, 1) := by decide +kernel
theorem dX5_play_26 : decode cX5_play 26 = .ok (.istore 4, 2) := by decide +kernel
theorem dX5_play_28 : decode cX5_play 28 = .ok (.iconst 0, 1) := by decide +kernel
theorem dX5_play_29 : decode cX5_play 29 = .ok (.istore 5, 2) := by decide +kernel
theorem dX5_play_31 : decode cX5_play 31 = .ok (.iload 5, 2) := by decide +kernel
theorem dX5_play_33 : decode cX5_play 33 = .ok (.bipush 40, 2) := by decide +kernel
theorem dX5_play_35 : decode cX5_play 35 = .ok (.if_icmp .ge 208, 3) := by decide +kernel
theorem dX5_play_38 : decode cX5_play 38 = .ok (.iload_n 2, 1) := by decide +kernel
theorem dX5_play_39 : decode cX5_play 39 = .ok (.aload_n 1, 1) := by decide +kernel
theorem dX5_play_40 : decode cX5_play 40 = .ok (.getfield 51, 3) := by decide +kernel
theorem dX5_play_43 : decode cX5_play 43 = .ok (.if_icmp .ge 12, 3) := by decide +kernel
theorem dX5_play_46 : decode cX5_play 46 = .ok (.aload_n 1, 1) := by decide +kernel
theorem dX5_play_47 : decode cX5_play 47 = .ok (.getfield 56, 3) := by decide +kernel
theorem dX5_play_50 : decode cX5_play 50 = .ok (.iload_n 2, 1) := by decide +kernel
theorem dX5_play_51 : decode cX5_play 51 = .ok (.iaload, 1) := by decide +kernel
theorem dX5_play_52 : decode cX5_play 52 = .ok (.goto 4, 3) := by decide +kernel
theorem dX5_play_55 : decode cX5_play 55 = .ok (.iconst (-1), 1) := by decide +kernel
theorem dX5_play_56 : decode cX5_play 56 = .ok (.istore 6, 2) := by decide +kernel
theorem dX5_play_58 : decode cX5_play 58 = .ok (.aload_n 0, 1) := by decide +kernel
theorem dX5_play_59 : decode cX5_play 59 = .ok (.getfield 12, 3) := by decide +kernel
theorem dX5_play_62 : decode cX5_play 62 = .ok (.aload_n 1, 1) := by decide +kernel
theorem dX5_play_63 : decode cX5_play 63 = .ok (.iload 6, 2) := by decide +kernel
theorem dX5_play_65 : decode cX5_play 65 = .ok (.iconst (-1), 1) := by decide +kernel
theorem dX5_play_66 : decode cX5_play 66 = .ok (.if_icmp .ne 7, 3) := by decide +kernel
theorem dX5_play_69 : decode cX5_play 69 = .ok (.iconst (-1), 1) := by decide +kernel
theorem dX5_play_70 : decode cX5_play 70 = .ok (.goto 13, 3) := by decide +kernel
theorem dX5_play_73 : decode cX5_play 73 = .ok (.aload_n 1, 1) := by decide +kernel
theorem dX5_play_74 : decode cX5_play 74 = .ok (.getfield 59, 3) := by decide +kernel
theorem dX5_play_77 : decode cX5_play 77 = .ok (.getfield 63, 3) := by decide +kernel
theorem dX5_play_80 : decode cX5_play 80 = .ok (.iload 6, 2) := by decide +kernel
theorem dX5_play_82 : decode cX5_play 82 = .ok (.iaload, 1) := by decide +kernel
theorem dX5_play_83 : decode cX5_play 83 = .ok (.invokevirtual 68, 3) := by decide +kernel
theorem dX5_play_86 : decode cX5_play 86 = .ok (.istore 7, 2) := by decide +kernel
theorem dX5_play_88 : decode cX5_play 88 = .ok (.iload 7, 2) := by decide +kernel
theorem dX5_play_90 : decode cX5_play 90 = .ok (.ifCond .eq 9, 3) := by decide +kernel
theorem dX5_play_93 : decode cX5_play 93 = .ok (.iinc 4 1, 3) := by decide +kernel
theorem dX5_play_96 : decode cX5_play 96 = .ok (.iinc 3 1, 3) := by decide +kernel
theorem dX5_play_99 : decode cX5_play 99 = .ok (.iload 7, 2) := by decide +kernel
theorem dX5_play_101 : decode cX5_play 101 = .ok (.ifCond .eq 31, 3) := by decide +kernel
theorem dX5_play_104 : decode cX5_play 104 = .ok (.iload_n 3, 1) := by decide +kernel
theorem dX5_play_105 : decode cX5_play 105 = .ok (.aload_n 1, 1) := by decide +kernel
theorem dX5_play_106 : decode cX5_play 106 = .ok (.getfield 59, 3) := by decide +kernel
theorem dX5_play_109 : decode cX5_play 109 = .ok (.getfield 72, 3) := by decide +kernel
theorem dX5_play_112 : decode cX5_play 112 = .ok (.iload 6, 2) := by decide +kernel
theorem dX5_play_114 : decode cX5_play 114 = .ok (.iaload, 1) := by decide +kernel
theorem dX5_play_115 : decode cX5_play 115 = .ok (.if_icmp .ne 17, 3) := by decide +kernel
theorem dX5_play_118 : decode cX5_play 118 = .ok (.aload_n 0, 1) := by decide +kernel
theorem dX5_play_119 : decode cX5_play 119 = .ok (.getfield 34, 3) := by decide +kernel
theorem dX5_play_122 : decode cX5_play 122 = .ok (.iload 6, 2) := by decide +kernel
theorem dX5_play_124 : decode cX5_play 124 = .ok (.iload 5, 2) := by decide +kernel
theorem dX5_play_126 : decode cX5_play 126 = .ok (.iastore, 1) := by decide +kernel
theorem dX5_play_127 : decode cX5_play 127 = .ok (.iinc 2 1, 3) := by decide +kernel
theorem dX5_play_130 : decode cX5_play 130 = .ok (.iconst 0, 1) := by decide +kernel
theorem dX5_play_131 : decode cX5_play 131 = .ok (.istore_n 3, 1) := by decide +kernel
theorem dX5_play_132 : decode cX5_play 132 = .ok (.aload_n 0, 1) := by decide +kernel
theorem dX5_play_133 : decode cX5_play 133 = .ok (.getfield 25, 3) := by decide +kernel
theorem dX5_play_136 : decode cX5_play 136 = .ok (.iload 5, 2) := by decide +kernel
theorem dX5_play_138 : decode cX5_play 138 = .ok (.aload_n 1, 1) := by decide +kernel
theorem dX5_play_139 : decode cX5_play 139 = .ok (.getfield 73, 3) := by decide +kernel
theorem dX5_play_142 : decode cX5_play 142 = .ok (.iload 5, 2) := by decide +kernel
theorem dX5_play_144 : decode cX5_play 144 = .ok (.iaload, 1) := by decide +kernel
theorem dX5_play_145 : decode cX5_play 145 = .ok (.ifCond .le 7, 3) := by decide +kernel
theorem dX5_play_148 : decode cX5_play 148 = .ok (.iconst (-1), 1) := by decide +kernel
theorem dX5_play_149 : decode cX5_play 149 = .ok (.goto 5, 3) := by decide +kernel
theorem dX5_play_152 : decode cX5_play 152 = .ok (.iload 6, 2) := by decide +kernel
theorem dX5_play_154 : decode cX5_play 154 = .ok (.iastore, 1) := by decide +kernel
theorem dX5_play_155 : decode cX5_play 155 = .ok (.aload_n 0, 1) := by decide +kernel
theorem dX5_play_156 : decode cX5_play 156 = .ok (.getfield 28, 3) := by decide +kernel
theorem dX5_play_159 : decode cX5_play 159 = .ok (.iload 5, 2) := by decide +kernel
theorem dX5_play_161 : decode cX5_play 161 = .ok (.aload_n 0, 1) := by decide +kernel
theorem dX5_play_162 : decode cX5_play 162 = .ok (.getfield 25, 3) := by decide +kernel
theorem dX5_play_165 : decode cX5_play 165 = .ok (.iload 5, 2) := by decide +kernel
theorem dX5_play_167 : decode cX5_play 167 = .ok (.iaload, 1) := by decide +kernel
theorem dX5_play_168 : decode cX5_play 168 = .ok (.iconst (-1), 1) := by decide +kernel
theorem dX5_play_169 : decode cX5_play 169 = .ok (.if_icmp .eq 12, 3) := by decide +kernel
theorem dX5_play_172 : decode cX5_play 172 = .ok (.iload 7, 2) := by decide +kernel
theorem dX5_play_174 : decode cX5_play 174 = .ok (.ifCond .ne 7, 3) := by decide +kernel
theorem dX5_play_177 : decode cX5_play 177 = .ok (.iconst 1, 1) := by decide +kernel
theorem dX5_play_178 : decode cX5_play 178 = .ok (.goto 4, 3) := by decide +kernel
theorem dX5_play_181 : decode cX5_play 181 = .ok (.iconst 0, 1) := by decide +kernel
theorem dX5_play_182 : decode cX5_play 182 = .ok (.iastore, 1) := by decide +kernel
theorem dX5_play_183 : decode cX5_play 183 = .ok (.aload_n 0, 1) := by decide +kernel
theorem dX5_play_184 : decode cX5_play 184 = .ok (.dup, 1) := by decide +kernel
theorem dX5_play_185 : decode cX5_play 185 = .ok (.getfield 43, 3) := by decide +kernel
theorem dX5_play_188 : decode cX5_play 188 = .ok (.aload_n 0, 1) := by decide +kernel
theorem dX5_play_189 : decode cX5_play 189 = .ok (.getfield 28, 3) := by decide +kernel
theorem dX5_play_192 : decode cX5_play 192 = .ok (.iload 5, 2) := by decide +kernel
theorem dX5_play_194 : decode cX5_play 194 = .ok (.iaload, 1) := by decide +kernel
theorem dX5_play_195 : decode cX5_play 195 = .ok (.iadd, 1) := by decide +kernel
theorem dX5_play_196 : decode cX5_play 196 = .ok (.putfield 43, 3) := by decide +kernel
theorem dX5_play_199 : decode cX5_play 199 = .ok (.aload_n 0, 1) := by decide +kernel
theorem dX5_play_200 : decode cX5_play 200 = .ok (.getfield 18, 3) := by decide +kernel
theorem dX5_play_203 : decode cX5_play 203 = .ok (.iload 5, 2) := by decide +kernel
theorem dX5_play_205 : decode cX5_play 205 = .ok (.aload_n 0, 1) := by decide +kernel
theorem dX5_play_206 : decode cX5_play 206 = .ok (.getfield 12, 3) := by decide +kernel
theorem dX5_play_209 : decode cX5_play 209 = .ok (.getfield 76, 3) := by decide +kernel
theorem dX5_play_212 : decode cX5_play 212 = .ok (.iastore, 1) := by decide +kernel
theorem dX5_play_213 : decode cX5_play 213 = .ok (.aload_n 0, 1) := by decide +kernel
theorem dX5_play_214 : decode cX5_play 214 = .ok (.getfield 22, 3) := by decide +kernel
theorem dX5_play_217 : decode cX5_play 217 = .ok (.iload 5, 2) := by decide +kernel
theorem dX5_play_219 : decode cX5_play 219 = .ok (.iload 4, 2) := by decide +kernel
theorem dX5_play_221 : decode cX5_play 221 = .ok (.iastore, 1) := by decide +kernel
theorem dX5_play_222 : decode cX5_play 222 = .ok (.aload_n 0, 1) := by decide +kernel
theorem dX5_play_223 : decode cX5_play 223 = .ok (.getfield 31, 3) := by decide +kernel
theorem dX5_play_226 : decode cX5_play 226 = .ok (.iload 5, 2) := by decide +kernel
theorem dX5_play_228 : decode cX5_play 228 = .ok (.aload_n 0, 1) := by decide +kernel
theorem dX5_play_229 : decode cX5_play 229 = .ok (.getfield 12, 3) := by decide +kernel
theorem dX5_play_232 : decode cX5_play 232 = .ok (.aload_n 1, 1) := by decide +kernel
theorem dX5_play_233 : decode cX5_play 233 = .ok (.invokevirtual 78, 3) := by decide +kernel
theorem dX5_play_236 : decode cX5_play 236 = .ok (.iastore, 1) := by decide +kernel
theorem dX5_play_237 : decode cX5_play 237 = .ok (.iinc 5 1, 3) := by decide +kernel
theorem dX5_play_240 : decode cX5_play 240 = .ok (.goto (-209), 3) := by decide +kernel
theorem dX5_play_243 : decode cX5_play 243 = .ok (.return_, 1) := by decide +kernel
theorem dX5_allSacks_0 : decode cX5_allSacks 0 = .ok (.aload_n 0, 1) := by decide +kernel
theorem dX5_allSacks_1 : decode cX5_allSacks 1 = .ok (.getfield 22, 3) := by decide +kernel
theorem dX5_allSacks_4 : decode cX5_allSacks 4 = .ok (.bipush 39, 2) := by decide +kernel
theorem dX5_allSacks_6 : decode cX5_allSacks 6 = .ok (.iaload, 1) := by decide +kernel
theorem dX5_allSacks_7 : decode cX5_allSacks 7 = .ok (.ireturn, 1) := by decide +kernel
theorem dX5_pays_0 : decode cX5_pays 0 = .ok (.aload_n 0, 1) := by decide +kernel
theorem dX5_pays_1 : decode cX5_pays 1 = .ok (.getfield 34, 3) := by decide +kernel
theorem dX5_pays_4 : decode cX5_pays 4 = .ok (.iload_n 2, 1) := by decide +kernel
theorem dX5_pays_5 : decode cX5_pays 5 = .ok (.iaload, 1) := by decide +kernel
theorem dX5_pays_6 : decode cX5_pays 6 = .ok (.iconst (-1), 1) := by decide +kernel
theorem dX5_pays_7 : decode cX5_pays 7 = .ok (.if_icmp .eq 22, 3) := by decide +kernel
theorem dX5_pays_10 : decode cX5_pays 10 = .ok (.aload_n 0, 1) := by decide +kernel
theorem dX5_pays_11 : decode cX5_pays 11 = .ok (.getfield 34, 3) := by decide +kernel
theorem dX5_pays_14 : decode cX5_pays 14 = .ok (.iload_n 2, 1) := by decide +kernel
theorem dX5_pays_15 : decode cX5_pays 15 = .ok (.iaload, 1) := by decide +kernel
theorem dX5_pays_16 : decode cX5_pays 16 = .ok (.aload_n 1, 1) := by decide +kernel
theorem dX5_pays_17 : decode cX5_pays 17 = .ok (.getfield 82, 3) := by decide +kernel
theorem dX5_pays_20 : decode cX5_pays 20 = .ok (.iload_n 2, 1) := by decide +kernel
theorem dX5_pays_21 : decode cX5_pays 21 = .ok (.iaload, 1) := by decide +kernel
theorem dX5_pays_22 : decode cX5_pays 22 = .ok (.if_icmp .gt 7, 3) := by decide +kernel
theorem dX5_pays_25 : decode cX5_pays 25 = .ok (.iconst 1, 1) := by decide +kernel
theorem dX5_pays_26 : decode cX5_pays 26 = .ok (.goto 4, 3) := by decide +kernel
theorem dX5_pays_29 : decode cX5_pays 29 = .ok (.iconst 0, 1) := by decide +kernel
theorem dX5_pays_30 : decode cX5_pays 30 = .ok (.ireturn, 1) := by decide +kernel
theorem dX5_sumPaid_0 : decode cX5_sumPaid 0 = .ok (.iconst 0, 1) := by decide +kernel
theorem dX5_sumPaid_1 : decode cX5_sumPaid 1 = .ok (.istore_n 2, 1) := by decide +kernel
theorem dX5_sumPaid_2 : decode cX5_sumPaid 2 = .ok (.iconst 0, 1) := by decide +kernel
theorem dX5_sumPaid_3 : decode cX5_sumPaid 3 = .ok (.istore_n 3, 1) := by decide +kernel
theorem dX5_sumPaid_4 : decode cX5_sumPaid 4 = .ok (.iload_n 3, 1) := by decide +kernel
theorem dX5_sumPaid_5 : decode cX5_sumPaid 5 = .ok (.aload_n 1, 1) := by decide +kernel
theorem dX5_sumPaid_6 : decode cX5_sumPaid 6 = .ok (.getfield 85, 3) := by decide +kernel
theorem dX5_sumPaid_9 : decode cX5_sumPaid 9 = .ok (.if_icmp .ge 31, 3) := by decide +kernel
theorem dX5_sumPaid_12 : decode cX5_sumPaid 12 = .ok (.iload_n 2, 1) := by decide +kernel
theorem dX5_sumPaid_13 : decode cX5_sumPaid 13 = .ok (.aload_n 0, 1) := by decide +kernel
theorem dX5_sumPaid_14 : decode cX5_sumPaid 14 = .ok (.aload_n 1, 1) := by decide +kernel
theorem dX5_sumPaid_15 : decode cX5_sumPaid 15 = .ok (.iload_n 3, 1) := by decide +kernel
theorem dX5_sumPaid_16 : decode cX5_sumPaid 16 = .ok (.invokevirtual 88, 3) := by decide +kernel
theorem dX5_sumPaid_19 : decode cX5_sumPaid 19 = .ok (.ifCond .eq 12, 3) := by decide +kernel
theorem dX5_sumPaid_22 : decode cX5_sumPaid 22 = .ok (.aload_n 1, 1) := by decide +kernel
theorem dX5_sumPaid_23 : decode cX5_sumPaid 23 = .ok (.getfield 92, 3) := by decide +kernel
theorem dX5_sumPaid_26 : decode cX5_sumPaid 26 = .ok (.iload_n 3, 1) := by decide +kernel
theorem dX5_sumPaid_27 : decode cX5_sumPaid 27 = .ok (.iaload, 1) := by decide +kernel
theorem dX5_sumPaid_28 : decode cX5_sumPaid 28 = .ok (.goto 4, 3) := by decide +kernel
theorem dX5_sumPaid_31 : decode cX5_sumPaid 31 = .ok (.iconst 0, 1) := by decide +kernel
theorem dX5_sumPaid_32 : decode cX5_sumPaid 32 = .ok (.iadd, 1) := by decide +kernel
theorem dX5_sumPaid_33 : decode cX5_sumPaid 33 = .ok (.istore_n 2, 1) := by decide +kernel
theorem dX5_sumPaid_34 : decode cX5_sumPaid 34 = .ok (.iinc 3 1, 3) := by decide +kernel
theorem dX5_sumPaid_37 : decode cX5_sumPaid 37 = .ok (.goto (-33), 3) := by decide +kernel
theorem dX5_sumPaid_40 : decode cX5_sumPaid 40 = .ok (.iload_n 2, 1) := by decide +kernel
theorem dX5_sumPaid_41 : decode cX5_sumPaid 41 = .ok (.ireturn, 1) := by decide +kernel
theorem dX5_endsAll_0 : decode cX5_endsAll 0 = .ok (.iconst 0, 1) := by decide +kernel
theorem dX5_endsAll_1 : decode cX5_endsAll 1 = .ok (.istore_n 2, 1) := by decide +kernel
theorem dX5_endsAll_2 : decode cX5_endsAll 2 = .ok (.iload_n 2, 1) := by decide +kernel
theorem dX5_endsAll_3 : decode cX5_endsAll 3 = .ok (.aload_n 1, 1) := by decide +kernel
theorem dX5_endsAll_4 : decode cX5_endsAll 4 = .ok (.getfield 85, 3) := by decide +kernel
theorem dX5_endsAll_7 : decode cX5_endsAll 7 = .ok (.if_icmp .ge 21, 3) := by decide +kernel
theorem dX5_endsAll_10 : decode cX5_endsAll 10 = .ok (.aload_n 0, 1) := by decide +kernel
theorem dX5_endsAll_11 : decode cX5_endsAll 11 = .ok (.getfield 34, 3) := by decide +kernel
theorem dX5_endsAll_14 : decode cX5_endsAll 14 = .ok (.iload_n 2, 1) := by decide +kernel
theorem dX5_endsAll_15 : decode cX5_endsAll 15 = .ok (.iaload, 1) := by decide +kernel
theorem dX5_endsAll_16 : decode cX5_endsAll 16 = .ok (.iconst (-1), 1) := by decide +kernel
theorem dX5_endsAll_17 : decode cX5_endsAll 17 = .ok (.if_icmp .ne 5, 3) := by decide +kernel
theorem dX5_endsAll_20 : decode cX5_endsAll 20 = .ok (.iconst 0, 1) := by decide +kernel
theorem dX5_endsAll_21 : decode cX5_endsAll 21 = .ok (.ireturn, 1) := by decide +kernel
theorem dX5_endsAll_22 : decode cX5_endsAll 22 = .ok (.iinc 2 1, 3) := by decide +kernel
theorem dX5_endsAll_25 : decode cX5_endsAll 25 = .ok (.goto (-23), 3) := by decide +kernel
theorem dX5_endsAll_28 : decode cX5_endsAll 28 = .ok (.iconst 1, 1) := by decide +kernel
theorem dX5_endsAll_29 : decode cX5_endsAll 29 = .ok (.ireturn, 1) := by decide +kernel
theorem dX6_init_0 : decode cX6_init 0 = .ok (.aload_n 0, 1) := by decide +kernel
theorem dX6_init_1 : decode cX6_init 1 = .ok (.invokespecial 3, 3) := by decide +kernel
theorem dX6_init_4 : decode cX6_init 4 = .ok (.aload_n 0, 1) := by decide +kernel
theorem dX6_init_5 : decode cX6_init 5 = .ok (.bipush 60, 2) := by decide +kernel
theorem dX6_init_7 : decode cX6_init 7 = .ok (.newarray .int, 2) := by decide +kernel
theorem dX6_init_9 : decode cX6_init 9 = .ok (.putfield 9, 3) := by decide +kernel
theorem dX6_init_12 : decode cX6_init 12 = .ok (.aload_n 0, 1) := by decide +kernel
theorem dX6_init_13 : decode cX6_init 13 = .ok (.iconst (-1), 1) := by decide +kernel
theorem dX6_init_14 : decode cX6_init 14 = .ok (.putfield 15, 3) := by decide +kernel
theorem dX6_init_17 : decode cX6_init 17 = .ok (.return_, 1) := by decide +kernel
theorem dX6_begin_0 : decode cX6_begin 0 = .ok (.aload_n 0, 1) := by decide +kernel
theorem dX6_begin_1 : decode cX6_begin 1 = .ok (.iload_n 1, 1) := by decide +kernel
theorem dX6_begin_2 : decode cX6_begin 2 = .ok (.putfield 15, 3) := by decide +kernel
theorem dX6_begin_5 : decode cX6_begin 5 = .ok (.aload_n 0, 1) := by decide +kernel
theorem dX6_begin_6 : decode cX6_begin 6 = .ok (.iload_n 2, 1) := by decide +kernel
theorem dX6_begin_7 : decode cX6_begin 7 = .ok (.putfield 19, 3) := by decide +kernel
theorem dX6_begin_10 : decode cX6_begin 10 = .ok (.aload_n 0, 1) := by decide +kernel
theorem dX6_begin_11 : decode cX6_begin 11 = .ok (.getfield 9, 3) := by decide +kernel
theorem dX6_begin_14 : decode cX6_begin 14 = .ok (.iconst 0, 1) := by decide +kernel
theorem dX6_begin_15 : decode cX6_begin 15 = .ok (.invokestatic 22, 3) := by decide +kernel
theorem dX6_begin_18 : decode cX6_begin 18 = .ok (.return_, 1) := by decide +kernel
theorem dX6_isLost_0 : decode cX6_isLost 0 = .ok (.aload_n 0, 1) := by decide +kernel
theorem dX6_isLost_1 : decode cX6_isLost 1 = .ok (.getfield 15, 3) := by decide +kernel
theorem dX6_isLost_4 : decode cX6_isLost 4 = .ok (.iconst (-1), 1) := by decide +kernel
theorem dX6_isLost_5 : decode cX6_isLost 5 = .ok (.if_icmp .ne 7, 3) := by decide +kernel
theorem dX6_isLost_8 : decode cX6_isLost 8 = .ok (.iconst 1, 1) := by decide +kernel
theorem dX6_isLost_9 : decode cX6_isLost 9 = .ok (.goto 4, 3) := by decide +kernel
theorem dX6_isLost_12 : decode cX6_isLost 12 = .ok (.iconst 0, 1) := by decide +kernel
theorem dX6_isLost_13 : decode cX6_isLost 13 = .ok (.ireturn, 1) := by decide +kernel
theorem dX6_holds_0 : decode cX6_holds 0 = .ok (.iload_n 1, 1) := by decide +kernel
theorem dX6_holds_1 : decode cX6_holds 1 = .ok (.ifCond .lt 21, 3) := by decide +kernel
theorem dX6_holds_4 : decode cX6_holds 4 = .ok (.iload_n 2, 1) := by decide +kernel
theorem dX6_holds_5 : decode cX6_holds 5 = .ok (.ifCond .lt 17, 3) := by decide +kernel
theorem dX6_holds_8 : decode cX6_holds 8 = .ok (.iload_n 2, 1) := by decide +kernel
theorem dX6_holds_9 : decode cX6_holds 9 = .ok (.aload_n 0, 1) := by decide +kernel
theorem dX6_holds_10 : decode cX6_holds 10 = .ok (.getfield 19, 3) := by decide +kernel
theorem dX6_holds_13 : decode cX6_holds 13 = .ok (.iload_n 1, 1) := by decide +kernel
theorem dX6_holds_14 : decode cX6_holds 14 = .ok (.isub, 1) := by decide +kernel
theorem dX6_holds_15 : decode cX6_holds 15 = .ok (.if_icmp .gt 7, 3) := by decide +kernel
theorem dX6_holds_18 : decode cX6_holds 18 = .ok (.iconst 1, 1) := by decide +kernel
theorem dX6_holds_19 : decode cX6_holds 19 = .ok (.goto 4, 3) := by decide +kernel
theorem dX6_holds_22 : decode cX6_holds 22 = .ok (.iconst 0, 1) := by decide +kernel
theorem dX6_holds_23 : decode cX6_holds 23 = .ok (.ireturn, 1) := by decide +kernel
theorem dX6_wrongWith_0 : decode cX6_wrongWith 0 = .ok (.aload_n 0, 1) := by decide +kernel
theorem dX6_wrongWith_1 : decode cX6_wrongWith 1 = .ok (.invokevirtual 28, 3) := by decide +kernel
theorem dX6_wrongWith_4 : decode cX6_wrongWith 4 = .ok (.ifCond .eq 5, 3) := by decide +kernel
theorem dX6_wrongWith_7 : decode cX6_wrongWith 7 = .ok (.iconst 1, 1) := by decide +kernel
theorem dX6_wrongWith_8 : decode cX6_wrongWith 8 = .ok (.ireturn, 1) := by decide +kernel
theorem dX6_wrongWith_9 : decode cX6_wrongWith 9 = .ok (.aload_n 0, 1) := by decide +kernel
theorem dX6_wrongWith_10 : decode cX6_wrongWith 10 = .ok (.getfield 15, 3) := by decide +kernel
theorem dX6_wrongWith_13 : decode cX6_wrongWith 13 = .ok (.iload_n 1, 1) := by decide +kernel
theorem dX6_wrongWith_14 : decode cX6_wrongWith 14 = .ok (.if_icmp .eq 5, 3) := by decide +kernel
theorem dX6_wrongWith_17 : decode cX6_wrongWith 17 = .ok (.iconst 3, 1) := by decide +kernel
theorem dX6_wrongWith_18 : decode cX6_wrongWith 18 = .ok (.ireturn, 1) := by decide +kernel
theorem dX6_wrongWith_19 : decode cX6_wrongWith 19 = .ok (.aload_n 0, 1) := by decide +kernel
theorem dX6_wrongWith_20 : decode cX6_wrongWith 20 = .ok (.iload_n 2, 1) := by decide +kernel
theorem dX6_wrongWith_21 : decode cX6_wrongWith 21 = .ok (.iconst 1, 1) := by decide +kernel
theorem dX6_wrongWith_22 : decode cX6_wrongWith 22 = .ok (.invokevirtual 32, 3) := by decide +kernel
theorem dX6_wrongWith_25 : decode cX6_wrongWith 25 = .ok (.ifCond .eq 7, 3) := by decide +kernel
theorem dX6_wrongWith_28 : decode cX6_wrongWith 28 = .ok (.iconst 0, 1) := by decide +kernel
theorem dX6_wrongWith_29 : decode cX6_wrongWith 29 = .ok (.goto 4, 3) := by decide +kernel
theorem dX6_wrongWith_32 : decode cX6_wrongWith 32 = .ok (.iconst 2, 1) := by decide +kernel
theorem dX6_wrongWith_33 : decode cX6_wrongWith 33 = .ok (.ireturn, 1) := by decide +kernel
theorem dX6_store_0 : decode cX6_store 0 = .ok (.aload_n 0, 1) := by decide +kernel
theorem dX6_store_1 : decode cX6_store 1 = .ok (.getfield 9, 3) := by decide +kernel
theorem dX6_store_4 : decode cX6_store 4 = .ok (.iload_n 1, 1) := by decide +kernel
theorem dX6_store_5 : decode cX6_store 5 = .ok (.aload_n 0, 1) := by decide +kernel
theorem dX6_store_6 : decode cX6_store 6 = .ok (.getfield 15, 3) := by decide +kernel
theorem dX6_store_9 : decode cX6_store 9 = .ok (.ifCond .ne 8, 3) := by decide +kernel
theorem dX6_store_12 : decode cX6_store 12 = .ok (.iload_n 2, 1) := by decide +kernel
theorem dX6_store_13 : decode cX6_store 13 = .ok (.i2b, 1) := by decide +kernel
theorem dX6_store_14 : decode cX6_store 14 = .ok (.goto 17, 3) := by decide +kernel
theorem dX6_store_17 : decode cX6_store 17 = .ok (.aload_n 0, 1) := by decide +kernel
theorem dX6_store_18 : decode cX6_store 18 = .ok (.getfield 15, 3) := by decide +kernel
theorem dX6_store_21 : decode cX6_store 21 = .ok (.iconst 1, 1) := by decide +kernel
theorem dX6_store_22 : decode cX6_store 22 = .ok (.if_icmp .ne 8, 3) := by decide +kernel
theorem dX6_store_25 : decode cX6_store 25 = .ok (.iload_n 2, 1) := by decide +kernel
theorem dX6_store_26 : decode cX6_store 26 = .ok (.i2s, 1) := by decide +kernel
theorem dX6_store_27 : decode cX6_store 27 = .ok (.goto 4, 3) := by decide +kernel
theorem dX6_store_30 : decode cX6_store 30 = .ok (.iload_n 2, 1) := by decide +kernel
theorem dX6_store_31 : decode cX6_store 31 = .ok (.iastore, 1) := by decide +kernel
theorem dX6_store_32 : decode cX6_store 32 = .ok (.return_, 1) := by decide +kernel
theorem dJ6_bitCount_0f7a4_0 : decode cJ6_bitCount_0f7a4 0 = .ok (.iload_n 0, 1) := by decide +kernel
theorem dJ6_bitCount_0f7a4_1 : decode cJ6_bitCount_0f7a4 1 = .ok (.iload_n 0, 1) := by decide +kernel
theorem dJ6_bitCount_0f7a4_2 : decode cJ6_bitCount_0f7a4 2 = .ok (.iconst 1, 1) := by decide +kernel
theorem dJ6_bitCount_0f7a4_3 : decode cJ6_bitCount_0f7a4 3 = .ok (.iushr, 1) := by decide +kernel
theorem dJ6_bitCount_0f7a4_4 : decode cJ6_bitCount_0f7a4 4 = .ok (.ldc_w 265, 3) := by decide +kernel
theorem dJ6_bitCount_0f7a4_7 : decode cJ6_bitCount_0f7a4 7 = .ok (.iand, 1) := by decide +kernel
theorem dJ6_bitCount_0f7a4_8 : decode cJ6_bitCount_0f7a4 8 = .ok (.isub, 1) := by decide +kernel
theorem dJ6_bitCount_0f7a4_9 : decode cJ6_bitCount_0f7a4 9 = .ok (.istore_n 0, 1) := by decide +kernel
theorem dJ6_bitCount_0f7a4_10 : decode cJ6_bitCount_0f7a4 10 = .ok (.iload_n 0, 1) := by decide +kernel
theorem dJ6_bitCount_0f7a4_11 : decode cJ6_bitCount_0f7a4 11 = .ok (.ldc_w 266, 3) := by decide +kernel
theorem dJ6_bitCount_0f7a4_14 : decode cJ6_bitCount_0f7a4 14 = .ok (.iand, 1) := by decide +kernel
theorem dJ6_bitCount_0f7a4_15 : decode cJ6_bitCount_0f7a4 15 = .ok (.iload_n 0, 1) := by decide +kernel
theorem dJ6_bitCount_0f7a4_16 : decode cJ6_bitCount_0f7a4 16 = .ok (.iconst 2, 1) := by decide +kernel
theorem dJ6_bitCount_0f7a4_17 : decode cJ6_bitCount_0f7a4 17 = .ok (.iushr, 1) := by decide +kernel
theorem dJ6_bitCount_0f7a4_18 : decode cJ6_bitCount_0f7a4 18 = .ok (.ldc_w 266, 3) := by decide +kernel
theorem dJ6_bitCount_0f7a4_21 : decode cJ6_bitCount_0f7a4 21 = .ok (.iand, 1) := by decide +kernel
theorem dJ6_bitCount_0f7a4_22 : decode cJ6_bitCount_0f7a4 22 = .ok (.iadd, 1) := by decide +kernel
theorem dJ6_bitCount_0f7a4_23 : decode cJ6_bitCount_0f7a4 23 = .ok (.istore_n 0, 1) := by decide +kernel
theorem dJ6_bitCount_0f7a4_24 : decode cJ6_bitCount_0f7a4 24 = .ok (.iload_n 0, 1) := by decide +kernel
theorem dJ6_bitCount_0f7a4_25 : decode cJ6_bitCount_0f7a4 25 = .ok (.iload_n 0, 1) := by decide +kernel
theorem dJ6_bitCount_0f7a4_26 : decode cJ6_bitCount_0f7a4 26 = .ok (.iconst 4, 1) := by decide +kernel
theorem dJ6_bitCount_0f7a4_27 : decode cJ6_bitCount_0f7a4 27 = .ok (.iushr, 1) := by decide +kernel
theorem dJ6_bitCount_0f7a4_28 : decode cJ6_bitCount_0f7a4 28 = .ok (.iadd, 1) := by decide +kernel
theorem dJ6_bitCount_0f7a4_29 : decode cJ6_bitCount_0f7a4 29 = .ok (.ldc_w 267, 3) := by decide +kernel
theorem dJ6_bitCount_0f7a4_32 : decode cJ6_bitCount_0f7a4 32 = .ok (.iand, 1) := by decide +kernel
theorem dJ6_bitCount_0f7a4_33 : decode cJ6_bitCount_0f7a4 33 = .ok (.istore_n 0, 1) := by decide +kernel
theorem dJ6_bitCount_0f7a4_34 : decode cJ6_bitCount_0f7a4 34 = .ok (.iload_n 0, 1) := by decide +kernel
theorem dJ6_bitCount_0f7a4_35 : decode cJ6_bitCount_0f7a4 35 = .ok (.iload_n 0, 1) := by decide +kernel
theorem dJ6_bitCount_0f7a4_36 : decode cJ6_bitCount_0f7a4 36 = .ok (.bipush 8, 2) := by decide +kernel
theorem dJ6_bitCount_0f7a4_38 : decode cJ6_bitCount_0f7a4 38 = .ok (.iushr, 1) := by decide +kernel
theorem dJ6_bitCount_0f7a4_39 : decode cJ6_bitCount_0f7a4 39 = .ok (.iadd, 1) := by decide +kernel
theorem dJ6_bitCount_0f7a4_40 : decode cJ6_bitCount_0f7a4 40 = .ok (.istore_n 0, 1) := by decide +kernel
theorem dJ6_bitCount_0f7a4_41 : decode cJ6_bitCount_0f7a4 41 = .ok (.iload_n 0, 1) := by decide +kernel
theorem dJ6_bitCount_0f7a4_42 : decode cJ6_bitCount_0f7a4 42 = .ok (.iload_n 0, 1) := by decide +kernel
theorem dJ6_bitCount_0f7a4_43 : decode cJ6_bitCount_0f7a4 43 = .ok (.bipush 16, 2) := by decide +kernel
theorem dJ6_bitCount_0f7a4_45 : decode cJ6_bitCount_0f7a4 45 = .ok (.iushr, 1) := by decide +kernel
theorem dJ6_bitCount_0f7a4_46 : decode cJ6_bitCount_0f7a4 46 = .ok (.iadd, 1) := by decide +kernel
theorem dJ6_bitCount_0f7a4_47 : decode cJ6_bitCount_0f7a4 47 = .ok (.istore_n 0, 1) := by decide +kernel
theorem dJ6_bitCount_0f7a4_48 : decode cJ6_bitCount_0f7a4 48 = .ok (.iload_n 0, 1) := by decide +kernel
theorem dJ6_bitCount_0f7a4_49 : decode cJ6_bitCount_0f7a4 49 = .ok (.bipush 63, 2) := by decide +kernel
theorem dJ6_bitCount_0f7a4_51 : decode cJ6_bitCount_0f7a4 51 = .ok (.iand, 1) := by decide +kernel
theorem dJ6_bitCount_0f7a4_52 : decode cJ6_bitCount_0f7a4 52 = .ok (.ireturn, 1) := by decide +kernel
theorem dJ9_max_7cf53_0 : decode cJ9_max_7cf53 0 = .ok (.iload_n 0, 1) := by decide +kernel
theorem dJ9_max_7cf53_1 : decode cJ9_max_7cf53 1 = .ok (.iload_n 1, 1) := by decide +kernel
theorem dJ9_max_7cf53_2 : decode cJ9_max_7cf53 2 = .ok (.if_icmp .lt 7, 3) := by decide +kernel
theorem dJ9_max_7cf53_5 : decode cJ9_max_7cf53 5 = .ok (.iload_n 0, 1) := by decide +kernel
theorem dJ9_max_7cf53_6 : decode cJ9_max_7cf53 6 = .ok (.goto 4, 3) := by decide +kernel
theorem dJ9_max_7cf53_9 : decode cJ9_max_7cf53 9 = .ok (.iload_n 1, 1) := by decide +kernel
theorem dJ9_max_7cf53_10 : decode cJ9_max_7cf53 10 = .ok (.ireturn, 1) := by decide +kernel
theorem dJ9_min_7cf53_0 : decode cJ9_min_7cf53 0 = .ok (.iload_n 0, 1) := by decide +kernel
theorem dJ9_min_7cf53_1 : decode cJ9_min_7cf53 1 = .ok (.iload_n 1, 1) := by decide +kernel
theorem dJ9_min_7cf53_2 : decode cJ9_min_7cf53 2 = .ok (.if_icmp .gt 7, 3) := by decide +kernel
theorem dJ9_min_7cf53_5 : decode cJ9_min_7cf53 5 = .ok (.iload_n 0, 1) := by decide +kernel
theorem dJ9_min_7cf53_6 : decode cJ9_min_7cf53 6 = .ok (.goto 4, 3) := by decide +kernel
theorem dJ9_min_7cf53_9 : decode cJ9_min_7cf53 9 = .ok (.iload_n 1, 1) := by decide +kernel
theorem dJ9_min_7cf53_10 : decode cJ9_min_7cf53 10 = .ok (.ireturn, 1) := by decide +kernel
theorem dJ7_fill_d0a16_0 : decode cJ7_fill_d0a16 0 = .ok (.iconst 0, 1) := by decide +kernel
theorem dJ7_fill_d0a16_1 : decode cJ7_fill_d0a16 1 = .ok (.istore_n 3, 1) := by decide +kernel
theorem dJ7_fill_d0a16_2 : decode cJ7_fill_d0a16 2 = .ok (.aload_n 0, 1) := by decide +kernel
theorem dJ7_fill_d0a16_3 : decode cJ7_fill_d0a16 3 = .ok (.arraylength, 1) := by decide +kernel
theorem dJ7_fill_d0a16_4 : decode cJ7_fill_d0a16 4 = .ok (.istore 4, 2) := by decide +kernel
theorem dJ7_fill_d0a16_6 : decode cJ7_fill_d0a16 6 = .ok (.iload_n 3, 1) := by decide +kernel
theorem dJ7_fill_d0a16_7 : decode cJ7_fill_d0a16 7 = .ok (.iload 4, 2) := by decide +kernel
theorem dJ7_fill_d0a16_9 : decode cJ7_fill_d0a16 9 = .ok (.if_icmp .ge 13, 3) := by decide +kernel
theorem dJ7_fill_d0a16_12 : decode cJ7_fill_d0a16 12 = .ok (.aload_n 0, 1) := by decide +kernel
theorem dJ7_fill_d0a16_13 : decode cJ7_fill_d0a16 13 = .ok (.iload_n 3, 1) := by decide +kernel
theorem dJ7_fill_d0a16_14 : decode cJ7_fill_d0a16 14 = .ok (.lload_n 1, 1) := by decide +kernel
theorem dJ7_fill_d0a16_15 : decode cJ7_fill_d0a16 15 = .ok (.lastore, 1) := by decide +kernel
theorem dJ7_fill_d0a16_16 : decode cJ7_fill_d0a16 16 = .ok (.iinc 3 1, 3) := by decide +kernel
theorem dJ7_fill_d0a16_19 : decode cJ7_fill_d0a16 19 = .ok (.goto (-13), 3) := by decide +kernel
theorem dJ7_fill_d0a16_22 : decode cJ7_fill_d0a16 22 = .ok (.return_, 1) := by decide +kernel
theorem dJ7_fill_53178_0 : decode cJ7_fill_53178 0 = .ok (.iconst 0, 1) := by decide +kernel
theorem dJ7_fill_53178_1 : decode cJ7_fill_53178 1 = .ok (.istore_n 2, 1) := by decide +kernel
theorem dJ7_fill_53178_2 : decode cJ7_fill_53178 2 = .ok (.aload_n 0, 1) := by decide +kernel
theorem dJ7_fill_53178_3 : decode cJ7_fill_53178 3 = .ok (.arraylength, 1) := by decide +kernel
theorem dJ7_fill_53178_4 : decode cJ7_fill_53178 4 = .ok (.istore_n 3, 1) := by decide +kernel
theorem dJ7_fill_53178_5 : decode cJ7_fill_53178 5 = .ok (.iload_n 2, 1) := by decide +kernel
theorem dJ7_fill_53178_6 : decode cJ7_fill_53178 6 = .ok (.iload_n 3, 1) := by decide +kernel
theorem dJ7_fill_53178_7 : decode cJ7_fill_53178 7 = .ok (.if_icmp .ge 13, 3) := by decide +kernel
theorem dJ7_fill_53178_10 : decode cJ7_fill_53178 10 = .ok (.aload_n 0, 1) := by decide +kernel
theorem dJ7_fill_53178_11 : decode cJ7_fill_53178 11 = .ok (.iload_n 2, 1) := by decide +kernel
theorem dJ7_fill_53178_12 : decode cJ7_fill_53178 12 = .ok (.iload_n 1, 1) := by decide +kernel
theorem dJ7_fill_53178_13 : decode cJ7_fill_53178 13 = .ok (.iastore, 1) := by decide +kernel
theorem dJ7_fill_53178_14 : decode cJ7_fill_53178 14 = .ok (.iinc 2 1, 3) := by decide +kernel
theorem dJ7_fill_53178_17 : decode cJ7_fill_53178 17 = .ok (.goto (-12), 3) := by decide +kernel
theorem dJ7_fill_53178_20 : decode cJ7_fill_53178 20 = .ok (.return_, 1) := by decide +kernel
end
section
theorem dX7_init_0 : decode cX7_init 0 = .ok (.aload_n 0, 1) := by decide +kernel
theorem dX7_init_1 : decode cX7_init 1 = .ok (.invokespecial 1, 3) := by decide +kernel
theorem dX7_init_4 : decode cX7_init 4 = .ok (.aload_n 0, 1) := by decide +kernel
theorem dX7_init_5 : decode cX7_init 5 = .ok (.iconst 2, 1) := by decide +kernel
theorem dX7_init_6 : decode cX7_init 6 = .ok (.anewarray 7, 3) := by decide +kernel
theorem dX7_init_9 : decode cX7_init 9 = .ok (.dup, 1) := by decide +kernel
theorem dX7_init_10 : decode cX7_init 10 = .ok (.iconst 0, 1) := by decide +kernel
theorem dX7_init_11 : decode cX7_init 11 = .ok (.new 7, 3) := by decide +kernel
theorem dX7_init_14 : decode cX7_init 14 = .ok (.dup, 1) := by decide +kernel
theorem dX7_init_15 : decode cX7_init 15 = .ok (.bipush 40, 2) := by decide +kernel
theorem dX7_init_17 : decode cX7_init 17 = .ok (.invokespecial 11, 3) := by decide +kernel
theorem dX7_init_20 : decode cX7_init 20 = .ok (.aastore, 1) := by decide +kernel
theorem dX7_init_21 : decode cX7_init 21 = .ok (.dup, 1) := by decide +kernel
theorem dX7_init_22 : decode cX7_init 22 = .ok (.iconst 1, 1) := by decide +kernel
theorem dX7_init_23 : decode cX7_init 23 = .ok (.new 7, 3) := by decide +kernel
theorem dX7_init_26 : decode cX7_init 26 = .ok (.dup, 1) := by decide +kernel
theorem dX7_init_27 : decode cX7_init 27 = .ok (.bipush 47, 2) := by decide +kernel
theorem dX7_init_29 : decode cX7_init 29 = .ok (.invokespecial 11, 3) := by decide +kernel
theorem dX7_init_32 : decode cX7_init 32 = .ok (.aastore, 1) := by decide +kernel
theorem dX7_init_33 : decode cX7_init 33 = .ok (.putfield 14, 3) := by decide +kernel
theorem dX7_init_36 : decode cX7_init 36 = .ok (.aload_n 0, 1) := by decide +kernel
theorem dX7_init_37 : decode cX7_init 37 = .ok (.new 7, 3) := by decide +kernel
theorem dX7_init_40 : decode cX7_init 40 = .ok (.dup, 1) := by decide +kernel
theorem dX7_init_41 : decode cX7_init 41 = .ok (.bipush 6, 2) := by decide +kernel
theorem dX7_init_43 : decode cX7_init 43 = .ok (.invokespecial 11, 3) := by decide +kernel
theorem dX7_init_46 : decode cX7_init 46 = .ok (.putfield 18, 3) := by decide +kernel
theorem dX7_init_49 : decode cX7_init 49 = .ok (.aload_n 0, 1) := by decide +kernel
theorem dX7_init_50 : decode cX7_init 50 = .ok (.new 7, 3) := by decide +kernel
theorem dX7_init_53 : decode cX7_init 53 = .ok (.dup, 1) := by decide +kernel
theorem dX7_init_54 : decode cX7_init 54 = .ok (.bipush 6, 2) := by decide +kernel
theorem dX7_init_56 : decode cX7_init 56 = .ok (.invokespecial 11, 3) := by decide +kernel
theorem dX7_init_59 : decode cX7_init 59 = .ok (.putfield 22, 3) := by decide +kernel
theorem dX7_init_62 : decode cX7_init 62 = .ok (.aload_n 0, 1) := by decide +kernel
theorem dX7_init_63 : decode cX7_init 63 = .ok (.new 7, 3) := by decide +kernel
theorem dX7_init_66 : decode cX7_init 66 = .ok (.dup, 1) := by decide +kernel
theorem dX7_init_67 : decode cX7_init 67 = .ok (.bipush 8, 2) := by decide +kernel
theorem dX7_init_69 : decode cX7_init 69 = .ok (.invokespecial 11, 3) := by decide +kernel
theorem dX7_init_72 : decode cX7_init 72 = .ok (.putfield 25, 3) := by decide +kernel
theorem dX7_init_75 : decode cX7_init 75 = .ok (.aload_n 0, 1) := by decide +kernel
theorem dX7_init_76 : decode cX7_init 76 = .ok (.new 7, 3) := by decide +kernel
theorem dX7_init_79 : decode cX7_init 79 = .ok (.dup, 1) := by decide +kernel
theorem dX7_init_80 : decode cX7_init 80 = .ok (.bipush 8, 2) := by decide +kernel
theorem dX7_init_82 : decode cX7_init 82 = .ok (.invokespecial 11, 3) := by decide +kernel
theorem dX7_init_85 : decode cX7_init 85 = .ok (.putfield 28, 3) := by decide +kernel
theorem dX7_init_88 : decode cX7_init 88 = .ok (.aload_n 0, 1) := by decide +kernel
theorem dX7_init_89 : decode cX7_init 89 = .ok (.iconst 4, 1) := by decide +kernel
theorem dX7_init_90 : decode cX7_init 90 = .ok (.anewarray 31, 3) := by decide +kernel
theorem dX7_init_93 : decode cX7_init 93 = .ok (.dup, 1) := by decide +kernel
theorem dX7_init_94 : decode cX7_init 94 = .ok (.iconst 0, 1) := by decide +kernel
theorem dX7_init_95 : decode cX7_init 95 = .ok (.new 31, 3) := by decide +kernel
theorem dX7_init_98 : decode cX7_init 98 = .ok (.dup, 1) := by decide +kernel
theorem dX7_init_99 : decode cX7_init 99 = .ok (.invokespecial 33, 3) := by decide +kernel
theorem dX7_init_102 : decode cX7_init 102 = .ok (.aastore, 1) := by decide +kernel
theorem dX7_init_103 : decode cX7_init 103 = .ok (.dup, 1) := by decide +kernel
theorem dX7_init_104 : decode cX7_init 104 = .ok (.iconst 1, 1) := by decide +kernel
theorem dX7_init_105 : decode cX7_init 105 = .ok (.new 31, 3) := by decide +kernel
theorem dX7_init_108 : decode cX7_init 108 = .ok (.dup, 1) := by decide +kernel
theorem dX7_init_109 : decode cX7_init 109 = .ok (.invokespecial 33, 3) := by decide +kernel
theorem dX7_init_112 : decode cX7_init 112 = .ok (.aastore, 1) := by decide +kernel
theorem dX7_init_113 : decode cX7_init 113 = .ok (.dup, 1) := by decide +kernel
theorem dX7_init_114 : decode cX7_init 114 = .ok (.iconst 2, 1) := by decide +kernel
theorem dX7_init_115 : decode cX7_init 115 = .ok (.new 31, 3) := by decide +kernel
theorem dX7_init_118 : decode cX7_init 118 = .ok (.dup, 1) := by decide +kernel
theorem dX7_init_119 : decode cX7_init 119 = .ok (.invokespecial 33, 3) := by decide +kernel
theorem dX7_init_122 : decode cX7_init 122 = .ok (.aastore, 1) := by decide +kernel
theorem dX7_init_123 : decode cX7_init 123 = .ok (.dup, 1) := by decide +kernel
theorem dX7_init_124 : decode cX7_init 124 = .ok (.iconst 3, 1) := by decide +kernel
theorem dX7_init_125 : decode cX7_init 125 = .ok (.new 31, 3) := by decide +kernel
theorem dX7_init_128 : decode cX7_init 128 = .ok (.dup, 1) := by decide +kernel
theorem dX7_init_129 : decode cX7_init 129 = .ok (.invokespecial 33, 3) := by decide +kernel
theorem dX7_init_132 : decode cX7_init 132 = .ok (.aastore, 1) := by decide +kernel
theorem dX7_init_133 : decode cX7_init 133 = .ok (.putfield 34, 3) := by decide +kernel
theorem dX7_init_136 : decode cX7_init 136 = .ok (.aload_n 0, 1) := by decide +kernel
theorem dX7_init_137 : decode cX7_init 137 = .ok (.new 38, 3) := by decide +kernel
theorem dX7_init_140 : decode cX7_init 140 = .ok (.dup, 1) := by decide +kernel
theorem dX7_init_141 : decode cX7_init 141 = .ok (.invokespecial 40, 3) := by decide +kernel
theorem dX7_init_144 : decode cX7_init 144 = .ok (.putfield 41, 3) := by decide +kernel
theorem dX7_init_147 : decode cX7_init 147 = .ok (.aload_n 0, 1) := by decide +kernel
theorem dX7_init_148 : decode cX7_init 148 = .ok (.getstatic 45, 3) := by decide +kernel
theorem dX7_init_151 : decode cX7_init 151 = .ok (.invokevirtual 49, 3) := by decide +kernel
theorem dX7_init_154 : decode cX7_init 154 = .ok (.checkcast 50, 3) := by decide +kernel
theorem dX7_init_157 : decode cX7_init 157 = .ok (.putfield 54, 3) := by decide +kernel
theorem dX7_init_160 : decode cX7_init 160 = .ok (.aload_n 0, 1) := by decide +kernel
theorem dX7_init_161 : decode cX7_init 161 = .ok (.new 57, 3) := by decide +kernel
theorem dX7_init_164 : decode cX7_init 164 = .ok (.dup, 1) := by decide +kernel
theorem dX7_init_165 : decode cX7_init 165 = .ok (.aload_n 0, 1) := by decide +kernel
theorem dX7_init_166 : decode cX7_init 166 = .ok (.getfield 41, 3) := by decide +kernel
theorem dX7_init_169 : decode cX7_init 169 = .ok (.invokespecial 59, 3) := by decide +kernel
theorem dX7_init_172 : decode cX7_init 172 = .ok (.putfield 62, 3) := by decide +kernel
theorem dX7_init_175 : decode cX7_init 175 = .ok (.aload_n 0, 1) := by decide +kernel
theorem dX7_init_176 : decode cX7_init 176 = .ok (.new 66, 3) := by decide +kernel
theorem dX7_init_179 : decode cX7_init 179 = .ok (.dup, 1) := by decide +kernel
theorem dX7_init_180 : decode cX7_init 180 = .ok (.invokespecial 68, 3) := by decide +kernel
theorem dX7_init_183 : decode cX7_init 183 = .ok (.putfield 69, 3) := by decide +kernel
theorem dX7_init_186 : decode cX7_init 186 = .ok (.aload_n 0, 1) := by decide +kernel
theorem dX7_init_187 : decode cX7_init 187 = .ok (.new 57, 3) := by decide +kernel
theorem dX7_init_190 : decode cX7_init 190 = .ok (.dup, 1) := by decide +kernel
theorem dX7_init_191 : decode cX7_init 191 = .ok (.aload_n 0, 1) := by decide +kernel
theorem dX7_init_192 : decode cX7_init 192 = .ok (.getfield 41, 3) := by decide +kernel
theorem dX7_init_195 : decode cX7_init 195 = .ok (.invokespecial 59, 3) := by decide +kernel
theorem dX7_init_198 : decode cX7_init 198 = .ok (.putfield 73, 3) := by decide +kernel
theorem dX7_init_201 : decode cX7_init 201 = .ok (.aload_n 0, 1) := by decide +kernel
theorem dX7_init_202 : decode cX7_init 202 = .ok (.new 66, 3) := by decide +kernel
theorem dX7_init_205 : decode cX7_init 205 = .ok (.dup, 1) := by decide +kernel
theorem dX7_init_206 : decode cX7_init 206 = .ok (.invokespecial 68, 3) := by decide +kernel
theorem dX7_init_209 : decode cX7_init 209 = .ok (.putfield 76, 3) := by decide +kernel
theorem dX7_init_212 : decode cX7_init 212 = .ok (.aload_n 0, 1) := by decide +kernel
theorem dX7_init_213 : decode cX7_init 213 = .ok (.new 79, 3) := by decide +kernel
theorem dX7_init_216 : decode cX7_init 216 = .ok (.dup, 1) := by decide +kernel
theorem dX7_init_217 : decode cX7_init 217 = .ok (.invokespecial 81, 3) := by decide +kernel
theorem dX7_init_220 : decode cX7_init 220 = .ok (.putfield 82, 3) := by decide +kernel
theorem dX7_init_223 : decode cX7_init 223 = .ok (.aload_n 0, 1) := by decide +kernel
theorem dX7_init_224 : decode cX7_init 224 = .ok (.bipush 8, 2) := by decide +kernel
theorem dX7_init_226 : decode cX7_init 226 = .ok (.newarray .long, 2) := by decide +kernel
theorem dX7_init_228 : decode cX7_init 228 = .ok (.putfield 86, 3) := by decide +kernel
theorem dX7_init_231 : decode cX7_init 231 = .ok (.aload_n 0, 1) := by decide +kernel
theorem dX7_init_232 : decode cX7_init 232 = .ok (.sipush 840, 3) := by decide +kernel
theorem dX7_init_235 : decode cX7_init 235 = .ok (.newarray .int, 2) := by decide +kernel
theorem dX7_init_237 : decode cX7_init 237 = .ok (.putfield 90, 3) := by decide +kernel
theorem dX7_init_240 : decode cX7_init 240 = .ok (.aload_n 0, 1) := by decide +kernel
theorem dX7_init_241 : decode cX7_init 241 = .ok (.iconst (-1), 1) := by decide +kernel
theorem dX7_init_242 : decode cX7_init 242 = .ok (.putfield 93, 3) := by decide +kernel
theorem dX7_init_245 : decode cX7_init 245 = .ok (.return_, 1) := by decide +kernel
theorem dX7_type_0 : decode cX7_type 0 = .ok (.iload_n 1, 1) := by decide +kernel
theorem dX7_type_1 : decode cX7_type 1 = .ok (.iconst 0, 1) := by decide +kernel
theorem dX7_type_2 : decode cX7_type 2 = .ok (.iconst 1, 1) := by decide +kernel
theorem dX7_type_3 : decode cX7_type 3 = .ok (.invokestatic 97, 3) := by decide +kernel
theorem dX7_type_6 : decode cX7_type 6 = .ok (.ifCond .eq 14, 3) := by decide +kernel
theorem dX7_type_9 : decode cX7_type 9 = .ok (.iload_n 2, 1) := by decide +kernel
theorem dX7_type_10 : decode cX7_type 10 = .ok (.iconst 0, 1) := by decide +kernel
theorem dX7_type_11 : decode cX7_type 11 = .ok (.sipush 255, 3) := by decide +kernel
theorem dX7_type_14 : decode cX7_type 14 = .ok (.invokestatic 97, 3) := by decide +kernel
theorem dX7_type_17 : decode cX7_type 17 = .ok (.ifCond .ne 6, 3) := by decide +kernel
theorem dX7_type_20 : decode cX7_type 20 = .ok (.bipush (-2), 2) := by decide +kernel
theorem dX7_type_22 : decode cX7_type 22 = .ok (.ireturn, 1) := by decide +kernel
theorem dX7_type_23 : decode cX7_type 23 = .ok (.aload_n 0, 1) := by decide +kernel
theorem dX7_type_24 : decode cX7_type 24 = .ok (.aload_n 0, 1) := by decide +kernel
theorem dX7_type_25 : decode cX7_type 25 = .ok (.getfield 14, 3) := by decide +kernel
theorem dX7_type_28 : decode cX7_type 28 = .ok (.iload_n 1, 1) := by decide +kernel
theorem dX7_type_29 : decode cX7_type 29 = .ok (.aaload, 1) := by decide +kernel
theorem dX7_type_30 : decode cX7_type 30 = .ok (.iload_n 2, 1) := by decide +kernel
theorem dX7_type_31 : decode cX7_type 31 = .ok (.invokevirtual 101, 3) := by decide +kernel
theorem dX7_type_34 : decode cX7_type 34 = .ok (.ireturn, 1) := by decide +kernel
theorem dX7_wipe_0 : decode cX7_wipe 0 = .ok (.iload_n 1, 1) := by decide +kernel
theorem dX7_wipe_1 : decode cX7_wipe 1 = .ok (.iconst 0, 1) := by decide +kernel
theorem dX7_wipe_2 : decode cX7_wipe 2 = .ok (.iconst 1, 1) := by decide +kernel
theorem dX7_wipe_3 : decode cX7_wipe 3 = .ok (.invokestatic 97, 3) := by decide +kernel
theorem dX7_wipe_6 : decode cX7_wipe 6 = .ok (.ifCond .ne 6, 3) := by decide +kernel
theorem dX7_wipe_9 : decode cX7_wipe 9 = .ok (.bipush (-2), 2) := by decide +kernel
theorem dX7_wipe_11 : decode cX7_wipe 11 = .ok (.ireturn, 1) := by decide +kernel
theorem dX7_wipe_12 : decode cX7_wipe 12 = .ok (.aload_n 0, 1) := by decide +kernel
theorem dX7_wipe_13 : decode cX7_wipe 13 = .ok (.getfield 14, 3) := by decide +kernel
theorem dX7_wipe_16 : decode cX7_wipe 16 = .ok (.iload_n 1, 1) := by decide +kernel
theorem dX7_wipe_17 : decode cX7_wipe 17 = .ok (.aaload, 1) := by decide +kernel
theorem dX7_wipe_18 : decode cX7_wipe 18 = .ok (.getfield 105, 3) := by decide +kernel
theorem dX7_wipe_21 : decode cX7_wipe 21 = .ok (.istore_n 2, 1) := by decide +kernel
theorem dX7_wipe_22 : decode cX7_wipe 22 = .ok (.aload_n 0, 1) := by decide +kernel
theorem dX7_wipe_23 : decode cX7_wipe 23 = .ok (.getfield 14, 3) := by decide +kernel
theorem dX7_wipe_26 : decode cX7_wipe 26 = .ok (.iload_n 1, 1) := by decide +kernel
theorem dX7_wipe_27 : decode cX7_wipe 27 = .ok (.aaload, 1) := by decide +kernel
theorem dX7_wipe_28 : decode cX7_wipe 28 = .ok (.iconst 0, 1) := by decide +kernel
theorem dX7_wipe_29 : decode cX7_wipe 29 = .ok (.putfield 105, 3) := by decide +kernel
theorem dX7_wipe_32 : decode cX7_wipe 32 = .ok (.aload_n 0, 1) := by decide +kernel
theorem dX7_wipe_33 : decode cX7_wipe 33 = .ok (.invokevirtual 108, 3) := by decide +kernel
theorem dX7_wipe_36 : decode cX7_wipe 36 = .ok (.iload_n 2, 1) := by decide +kernel
theorem dX7_wipe_37 : decode cX7_wipe 37 = .ok (.ireturn, 1) := by decide +kernel
theorem dX7_undo_0 : decode cX7_undo 0 = .ok (.iload_n 1, 1) := by decide +kernel
theorem dX7_undo_1 : decode cX7_undo 1 = .ok (.iconst 0, 1) := by decide +kernel
theorem dX7_undo_2 : decode cX7_undo 2 = .ok (.iconst 1, 1) := by decide +kernel
theorem dX7_undo_3 : decode cX7_undo 3 = .ok (.invokestatic 97, 3) := by decide +kernel
theorem dX7_undo_6 : decode cX7_undo 6 = .ok (.ifCond .ne 6, 3) := by decide +kernel
theorem dX7_undo_9 : decode cX7_undo 9 = .ok (.bipush (-2), 2) := by decide +kernel
theorem dX7_undo_11 : decode cX7_undo 11 = .ok (.ireturn, 1) := by decide +kernel
theorem dX7_undo_12 : decode cX7_undo 12 = .ok (.aload_n 0, 1) := by decide +kernel
theorem dX7_undo_13 : decode cX7_undo 13 = .ok (.aload_n 0, 1) := by decide +kernel
theorem dX7_undo_14 : decode cX7_undo 14 = .ok (.getfield 14, 3) := by decide +kernel
theorem dX7_undo_17 : decode cX7_undo 17 = .ok (.iload_n 1, 1) := by decide +kernel
theorem dX7_undo_18 : decode cX7_undo 18 = .ok (.aaload, 1) := by decide +kernel
theorem dX7_undo_19 : decode cX7_undo 19 = .ok (.invokevirtual 111, 3) := by decide +kernel
theorem dX7_undo_22 : decode cX7_undo 22 = .ok (.ireturn, 1) := by decide +kernel
theorem dX7_fault_0 : decode cX7_fault 0 = .ok (.iload_n 1, 1) := by decide +kernel
theorem dX7_fault_1 : decode cX7_fault 1 = .ok (.iconst 0, 1) := by decide +kernel
theorem dX7_fault_2 : decode cX7_fault 2 = .ok (.iconst 1, 1) := by decide +kernel
theorem dX7_fault_3 : decode cX7_fault 3 = .ok (.invokestatic 97, 3) := by decide +kernel
theorem dX7_fault_6 : decode cX7_fault 6 = .ok (.ifCond .ne 6, 3) := by decide +kernel
theorem dX7_fault_9 : decode cX7_fault 9 = .ok (.bipush (-2), 2) := by decide +kernel
theorem dX7_fault_11 : decode cX7_fault 11 = .ok (.ireturn, 1) := by decide +kernel
theorem dX7_fault_12 : decode cX7_fault 12 = .ok (.iload_n 1, 1) := by decide +kernel
theorem dX7_fault_13 : decode cX7_fault 13 = .ok (.ifCond .ne 15, 3) := by decide +kernel
theorem dX7_fault_16 : decode cX7_fault 16 = .ok (.aload_n 0, 1) := by decide +kernel
theorem dX7_fault_17 : decode cX7_fault 17 = .ok (.getfield 14, 3) := by decide +kernel
theorem dX7_fault_20 : decode cX7_fault 20 = .ok (.iconst 0, 1) := by decide +kernel
theorem dX7_fault_21 : decode cX7_fault 21 = .ok (.aaload, 1) := by decide +kernel
theorem dX7_fault_22 : decode cX7_fault 22 = .ok (.invokestatic 115, 3) := by decide +kernel
theorem dX7_fault_25 : decode cX7_fault 25 = .ok (.goto 12, 3) := by decide +kernel
theorem dX7_fault_28 : decode cX7_fault 28 = .ok (.aload_n 0, 1) := by decide +kernel
theorem dX7_fault_29 : decode cX7_fault 29 = .ok (.getfield 14, 3) := by decide +kernel
theorem dX7_fault_32 : decode cX7_fault 32 = .ok (.iconst 1, 1) := by decide +kernel
theorem dX7_fault_33 : decode cX7_fault 33 = .ok (.aaload, 1) := by decide +kernel
theorem dX7_fault_34 : decode cX7_fault 34 = .ok (.invokestatic 118, 3) := by decide +kernel
theorem dX7_fault_37 : decode cX7_fault 37 = .ok (.ireturn, 1) := by decide +kernel
theorem dX7_sea_0 : decode cX7_sea 0 = .ok (.iload_n 1, 1) := by decide +kernel
theorem dX7_sea_1 : decode cX7_sea 1 = .ok (.invokestatic 121, 3) := by decide +kernel
theorem dX7_sea_4 : decode cX7_sea 4 = .ok (.ifCond .ne 6, 3) := by decide +kernel
theorem dX7_sea_7 : decode cX7_sea 7 = .ok (.bipush (-2), 2) := by decide +kernel
theorem dX7_sea_9 : decode cX7_sea 9 = .ok (.ireturn, 1) := by decide +kernel
theorem dX7_sea_10 : decode cX7_sea 10 = .ok (.aload_n 0, 1) := by decide +kernel
theorem dX7_sea_11 : decode cX7_sea 11 = .ok (.invokevirtual 125, 3) := by decide +kernel
theorem dX7_sea_14 : decode cX7_sea 14 = .ok (.aload_n 0, 1) := by decide +kernel
theorem dX7_sea_15 : decode cX7_sea 15 = .ok (.getfield 62, 3) := by decide +kernel
theorem dX7_sea_18 : decode cX7_sea 18 = .ok (.getfield 128, 3) := by decide +kernel
theorem dX7_sea_21 : decode cX7_sea 21 = .ok (.iload_n 1, 1) := by decide +kernel
theorem dX7_sea_22 : decode cX7_sea 22 = .ok (.iaload, 1) := by decide +kernel
theorem dX7_sea_23 : decode cX7_sea 23 = .ok (.ireturn, 1) := by decide +kernel
theorem dX7_order_0 : decode cX7_order 0 = .ok (.aload_n 0, 1) := by decide +kernel
theorem dX7_order_1 : decode cX7_order 1 = .ok (.iload_n 1, 1) := by decide +kernel
theorem dX7_order_2 : decode cX7_order 2 = .ok (.invokevirtual 131, 3) := by decide +kernel
theorem dX7_order_5 : decode cX7_order 5 = .ok (.ifCond .eq 12, 3) := by decide +kernel
theorem dX7_order_8 : decode cX7_order 8 = .ok (.iload_n 2, 1) := by decide +kernel
theorem dX7_order_9 : decode cX7_order 9 = .ok (.iconst 0, 1) := by decide +kernel
theorem dX7_order_10 : decode cX7_order 10 = .ok (.iconst 3, 1) := by decide +kernel
theorem dX7_order_11 : decode cX7_order 11 = .ok (.invokestatic 97, 3) := by decide +kernel
theorem dX7_order_14 : decode cX7_order 14 = .ok (.ifCond .ne 6, 3) := by decide +kernel
theorem dX7_order_17 : decode cX7_order 17 = .ok (.bipush (-2), 2) := by decide +kernel
theorem dX7_order_19 : decode cX7_order 19 = .ok (.ireturn, 1) := by decide +kernel
theorem dX7_order_20 : decode cX7_order 20 = .ok (.iload_n 2, 1) := by decide +kernel
theorem dX7_order_21 : decode cX7_order 21 = .ok (.tableswitch 57 0 2 #[27, 37, 47], 27) := by decide +kernel
theorem dX7_order_48 : decode cX7_order 48 = .ok (.aload_n 0, 1) := by decide +kernel
theorem dX7_order_49 : decode cX7_order 49 = .ok (.getfield 41, 3) := by decide +kernel
theorem dX7_order_52 : decode cX7_order 52 = .ok (.getfield 134, 3) := by decide +kernel
theorem dX7_order_55 : decode cX7_order 55 = .ok (.iload_n 1, 1) := by decide +kernel
theorem dX7_order_56 : decode cX7_order 56 = .ok (.iaload, 1) := by decide +kernel
theorem dX7_order_57 : decode cX7_order 57 = .ok (.ireturn, 1) := by decide +kernel
theorem dX7_order_58 : decode cX7_order 58 = .ok (.aload_n 0, 1) := by decide +kernel
theorem dX7_order_59 : decode cX7_order 59 = .ok (.getfield 41, 3) := by decide +kernel
theorem dX7_order_62 : decode cX7_order 62 = .ok (.getfield 137, 3) := by decide +kernel
theorem dX7_order_65 : decode cX7_order 65 = .ok (.iload_n 1, 1) := by decide +kernel
theorem dX7_order_66 : decode cX7_order 66 = .ok (.iaload, 1) := by decide +kernel
theorem dX7_order_67 : decode cX7_order 67 = .ok (.ireturn, 1) := by decide +kernel
theorem dX7_order_68 : decode cX7_order 68 = .ok (.aload_n 0, 1) := by decide +kernel
theorem dX7_order_69 : decode cX7_order 69 = .ok (.getfield 41, 3) := by decide +kernel
theorem dX7_order_72 : decode cX7_order 72 = .ok (.getfield 140, 3) := by decide +kernel
theorem dX7_order_75 : decode cX7_order 75 = .ok (.iload_n 1, 1) := by decide +kernel
theorem dX7_order_76 : decode cX7_order 76 = .ok (.iaload, 1) := by decide +kernel
theorem dX7_order_77 : decode cX7_order 77 = .ok (.ireturn, 1) := by decide +kernel
theorem dX7_order_78 : decode cX7_order 78 = .ok (.aload_n 0, 1) := by decide +kernel
theorem dX7_order_79 : decode cX7_order 79 = .ok (.getfield 41, 3) := by decide +kernel
theorem dX7_order_82 : decode cX7_order 82 = .ok (.getfield 143, 3) := by decide +kernel
theorem dX7_order_85 : decode cX7_order 85 = .ok (.iload_n 1, 1) := by decide +kernel
theorem dX7_order_86 : decode cX7_order 86 = .ok (.iaload, 1) := by decide +kernel
theorem dX7_order_87 : decode cX7_order 87 = .ok (.ireturn, 1) := by decide +kernel
theorem dX7_set_0 : decode cX7_set 0 = .ok (.iload_n 1, 1) := by decide +kernel
theorem dX7_set_1 : decode cX7_set 1 = .ok (.iconst 0, 1) := by decide +kernel
theorem dX7_set_2 : decode cX7_set 2 = .ok (.iconst 4, 1) := by decide +kernel
theorem dX7_set_3 : decode cX7_set 3 = .ok (.invokestatic 97, 3) := by decide +kernel
theorem dX7_set_6 : decode cX7_set 6 = .ok (.ifCond .eq 20, 3) := by decide +kernel
theorem dX7_set_9 : decode cX7_set 9 = .ok (.iload_n 2, 1) := by decide +kernel
theorem dX7_set_10 : decode cX7_set 10 = .ok (.getstatic 146, 3) := by decide +kernel
theorem dX7_set_13 : decode cX7_set 13 = .ok (.iload_n 1, 1) := by decide +kernel
theorem dX7_set_14 : decode cX7_set 14 = .ok (.iaload, 1) := by decide +kernel
theorem dX7_set_15 : decode cX7_set 15 = .ok (.getstatic 149, 3) := by decide +kernel
theorem dX7_set_18 : decode cX7_set 18 = .ok (.iload_n 1, 1) := by decide +kernel
theorem dX7_set_19 : decode cX7_set 19 = .ok (.iaload, 1) := by decide +kernel
theorem dX7_set_20 : decode cX7_set 20 = .ok (.invokestatic 97, 3) := by decide +kernel
theorem dX7_set_23 : decode cX7_set 23 = .ok (.ifCond .ne 6, 3) := by decide +kernel
theorem dX7_set_26 : decode cX7_set 26 = .ok (.bipush (-2), 2) := by decide +kernel
theorem dX7_set_28 : decode cX7_set 28 = .ok (.ireturn, 1) := by decide +kernel
theorem dX7_set_29 : decode cX7_set 29 = .ok (.aload_n 0, 1) := by decide +kernel
theorem dX7_set_30 : decode cX7_set 30 = .ok (.getfield 54, 3) := by decide +kernel
theorem dX7_set_33 : decode cX7_set 33 = .ok (.iload_n 1, 1) := by decide +kernel
theorem dX7_set_34 : decode cX7_set 34 = .ok (.iaload, 1) := by decide +kernel
theorem dX7_set_35 : decode cX7_set 35 = .ok (.istore_n 3, 1) := by decide +kernel
theorem dX7_set_36 : decode cX7_set 36 = .ok (.aload_n 0, 1) := by decide +kernel
theorem dX7_set_37 : decode cX7_set 37 = .ok (.getfield 54, 3) := by decide +kernel
theorem dX7_set_40 : decode cX7_set 40 = .ok (.iload_n 1, 1) := by decide +kernel
theorem dX7_set_41 : decode cX7_set 41 = .ok (.iload_n 2, 1) := by decide +kernel
theorem dX7_set_42 : decode cX7_set 42 = .ok (.iastore, 1) := by decide +kernel
theorem dX7_set_43 : decode cX7_set 43 = .ok (.aload_n 0, 1) := by decide +kernel
theorem dX7_set_44 : decode cX7_set 44 = .ok (.invokevirtual 108, 3) := by decide +kernel
theorem dX7_set_47 : decode cX7_set 47 = .ok (.iload_n 3, 1) := by decide +kernel
theorem dX7_set_48 : decode cX7_set 48 = .ok (.ireturn, 1) := by decide +kernel
theorem dX7_rain_0 : decode cX7_rain 0 = .ok (.iload_n 1, 1) := by decide +kernel
theorem dX7_rain_1 : decode cX7_rain 1 = .ok (.invokestatic 121, 3) := by decide +kernel
theorem dX7_rain_4 : decode cX7_rain 4 = .ok (.ifCond .eq 15, 3) := by decide +kernel
theorem dX7_rain_7 : decode cX7_rain 7 = .ok (.aload_n 0, 1) := by decide +kernel
theorem dX7_rain_8 : decode cX7_rain 8 = .ok (.aload_n 0, 1) := by decide +kernel
theorem dX7_rain_9 : decode cX7_rain 9 = .ok (.getfield 18, 3) := by decide +kernel
theorem dX7_rain_12 : decode cX7_rain 12 = .ok (.iload_n 1, 1) := by decide +kernel
theorem dX7_rain_13 : decode cX7_rain 13 = .ok (.invokevirtual 101, 3) := by decide +kernel
theorem dX7_rain_16 : decode cX7_rain 16 = .ok (.goto 5, 3) := by decide +kernel
theorem dX7_rain_19 : decode cX7_rain 19 = .ok (.bipush (-2), 2) := by decide +kernel
theorem dX7_rain_21 : decode cX7_rain 21 = .ok (.ireturn, 1) := by decide +kernel
theorem dX7_dressing_0 : decode cX7_dressing 0 = .ok (.iload_n 1, 1) := by decide +kernel
theorem dX7_dressing_1 : decode cX7_dressing 1 = .ok (.invokestatic 121, 3) := by decide +kernel
theorem dX7_dressing_4 : decode cX7_dressing 4 = .ok (.ifCond .eq 15, 3) := by decide +kernel
theorem dX7_dressing_7 : decode cX7_dressing 7 = .ok (.aload_n 0, 1) := by decide +kernel
theorem dX7_dressing_8 : decode cX7_dressing 8 = .ok (.aload_n 0, 1) := by decide +kernel
theorem dX7_dressing_9 : decode cX7_dressing 9 = .ok (.getfield 22, 3) := by decide +kernel
theorem dX7_dressing_12 : decode cX7_dressing 12 = .ok (.iload_n 1, 1) := by decide +kernel
theorem dX7_dressing_13 : decode cX7_dressing 13 = .ok (.invokevirtual 101, 3) := by decide +kernel
theorem dX7_dressing_16 : decode cX7_dressing 16 = .ok (.goto 5, 3) := by decide +kernel
theorem dX7_dressing_19 : decode cX7_dressing 19 = .ok (.bipush (-2), 2) := by decide +kernel
theorem dX7_dressing_21 : decode cX7_dressing 21 = .ok (.ireturn, 1) := by decide +kernel
theorem dX7_back_0 : decode cX7_back 0 = .ok (.iload_n 1, 1) := by decide +kernel
theorem dX7_back_1 : decode cX7_back 1 = .ok (.iconst 0, 1) := by decide +kernel
theorem dX7_back_2 : decode cX7_back 2 = .ok (.iconst 1, 1) := by decide +kernel
theorem dX7_back_3 : decode cX7_back 3 = .ok (.invokestatic 97, 3) := by decide +kernel
theorem dX7_back_6 : decode cX7_back 6 = .ok (.ifCond .ne 6, 3) := by decide +kernel
theorem dX7_back_9 : decode cX7_back 9 = .ok (.bipush (-2), 2) := by decide +kernel
theorem dX7_back_11 : decode cX7_back 11 = .ok (.ireturn, 1) := by decide +kernel
theorem dX7_back_12 : decode cX7_back 12 = .ok (.aload_n 0, 1) := by decide +kernel
theorem dX7_back_13 : decode cX7_back 13 = .ok (.iload_n 1, 1) := by decide +kernel
theorem dX7_back_14 : decode cX7_back 14 = .ok (.ifCond .ne 10, 3) := by decide +kernel
theorem dX7_back_17 : decode cX7_back 17 = .ok (.aload_n 0, 1) := by decide +kernel
theorem dX7_back_18 : decode cX7_back 18 = .ok (.getfield 18, 3) := by decide +kernel
theorem dX7_back_21 : decode cX7_back 21 = .ok (.goto 7, 3) := by decide +kernel
theorem dX7_back_24 : decode cX7_back 24 = .ok (.aload_n 0, 1) := by decide +kernel
theorem dX7_back_25 : decode cX7_back 25 = .ok (.getfield 22, 3) := by decide +kernel
theorem dX7_back_28 : decode cX7_back 28 = .ok (.invokevirtual 111, 3) := by decide +kernel
theorem dX7_back_31 : decode cX7_back 31 = .ok (.ireturn, 1) := by decide +kernel
theorem dX7_read_0 : decode cX7_read 0 = .ok (.iload_n 1, 1) := by decide +kernel
theorem dX7_read_1 : decode cX7_read 1 = .ok (.invokestatic 152, 3) := by decide +kernel
theorem dX7_read_4 : decode cX7_read 4 = .ok (.ifCond .ne 6, 3) := by decide +kernel
theorem dX7_read_7 : decode cX7_read 7 = .ok (.bipush (-2), 2) := by decide +kernel
theorem dX7_read_9 : decode cX7_read 9 = .ok (.ireturn, 1) := by decide +kernel
theorem dX7_read_10 : decode cX7_read 10 = .ok (.aload_n 0, 1) := by decide +kernel
theorem dX7_read_11 : decode cX7_read 11 = .ok (.getfield 34, 3) := by decide +kernel
theorem dX7_read_14 : decode cX7_read 14 = .ok (.iload_n 1, 1) := by decide +kernel
theorem dX7_read_15 : decode cX7_read 15 = .ok (.aaload, 1) := by decide +kernel
theorem dX7_read_16 : decode cX7_read 16 = .ok (.astore_n 2, 1) := by decide +kernel
theorem dX7_read_17 : decode cX7_read 17 = .ok (.aload_n 2, 1) := by decide +kernel
theorem dX7_read_18 : decode cX7_read 18 = .ok (.invokevirtual 155, 3) := by decide +kernel
theorem dX7_read_21 : decode cX7_read 21 = .ok (.ifCond .eq 9, 3) := by decide +kernel
theorem dX7_read_24 : decode cX7_read 24 = .ok (.aload_n 0, 1) := by decide +kernel
theorem dX7_read_25 : decode cX7_read 25 = .ok (.iconst 1, 1) := by decide +kernel
theorem dX7_read_26 : decode cX7_read 26 = .ok (.invokevirtual 159, 3) := by decide +kernel
theorem dX7_read_29 : decode cX7_read 29 = .ok (.ireturn, 1) := by decide +kernel
theorem dX7_read_30 : decode cX7_read 30 = .ok (.iconst 0, 1) := by decide +kernel
theorem dX7_read_31 : decode cX7_read 31 = .ok (.istore_n 3, 1) := by decide +kernel
theorem dX7_read_32 : decode cX7_read 32 = .ok (.iload_n 3, 1) := by decide +kernel
theorem dX7_read_33 : decode cX7_read 33 = .ok (.aload_n 2, 1) := by decide +kernel
theorem dX7_read_34 : decode cX7_read 34 = .ok (.getfield 163, 3) := by decide +kernel
theorem dX7_read_37 : decode cX7_read 37 = .ok (.if_icmp .ge 44, 3) := by decide +kernel
theorem dX7_read_40 : decode cX7_read 40 = .ok (.aload_n 2, 1) := by decide +kernel
theorem dX7_read_41 : decode cX7_read 41 = .ok (.getfield 164, 3) := by decide +kernel
theorem dX7_read_44 : decode cX7_read 44 = .ok (.iload_n 3, 1) := by decide +kernel
theorem dX7_read_45 : decode cX7_read 45 = .ok (.iaload, 1) := by decide +kernel
theorem dX7_read_46 : decode cX7_read 46 = .ok (.invokestatic 121, 3) := by decide +kernel
theorem dX7_read_49 : decode cX7_read 49 = .ok (.ifCond .eq 32, 3) := by decide +kernel
theorem dX7_read_52 : decode cX7_read 52 = .ok (.aload_n 0, 1) := by decide +kernel
theorem dX7_read_53 : decode cX7_read 53 = .ok (.getfield 18, 3) := by decide +kernel
theorem dX7_read_56 : decode cX7_read 56 = .ok (.invokevirtual 167, 3) := by decide +kernel
theorem dX7_read_59 : decode cX7_read 59 = .ok (.ifCond .ne 22, 3) := by decide +kernel
theorem dX7_read_62 : decode cX7_read 62 = .ok (.aload_n 0, 1) := by decide +kernel
theorem dX7_read_63 : decode cX7_read 63 = .ok (.getfield 18, 3) := by decide +kernel
theorem dX7_read_66 : decode cX7_read 66 = .ok (.aload_n 2, 1) := by decide +kernel
theorem dX7_read_67 : decode cX7_read 67 = .ok (.getfield 164, 3) := by decide +kernel
theorem dX7_read_70 : decode cX7_read 70 = .ok (.iload_n 3, 1) := by decide +kernel
theorem dX7_read_71 : decode cX7_read 71 = .ok (.iaload, 1) := by decide +kernel
theorem dX7_read_72 : decode cX7_read 72 = .ok (.invokevirtual 170, 3) := by decide +kernel
theorem dX7_read_75 : decode cX7_read 75 = .ok (.iinc 3 1, 3) := by decide +kernel
theorem dX7_read_78 : decode cX7_read 78 = .ok (.goto (-46), 3) := by decide +kernel
theorem dX7_read_81 : decode cX7_read 81 = .ok (.aload_n 0, 1) := by decide +kernel
theorem dX7_read_82 : decode cX7_read 82 = .ok (.invokevirtual 108, 3) := by decide +kernel
theorem dX7_read_85 : decode cX7_read 85 = .ok (.iload_n 3, 1) := by decide +kernel
theorem dX7_read_86 : decode cX7_read 86 = .ok (.ireturn, 1) := by decide +kernel
theorem dX7_at_0 : decode cX7_at 0 = .ok (.iload_n 1, 1) := by decide +kernel
theorem dX7_at_1 : decode cX7_at 1 = .ok (.invokestatic 121, 3) := by decide +kernel
theorem dX7_at_4 : decode cX7_at 4 = .ok (.ifCond .eq 12, 3) := by decide +kernel
theorem dX7_at_7 : decode cX7_at 7 = .ok (.iload_n 2, 1) := by decide +kernel
theorem dX7_at_8 : decode cX7_at 8 = .ok (.iconst 0, 1) := by decide +kernel
theorem dX7_at_9 : decode cX7_at 9 = .ok (.iconst 4, 1) := by decide +kernel
theorem dX7_at_10 : decode cX7_at 10 = .ok (.invokestatic 97, 3) := by decide +kernel
theorem dX7_at_13 : decode cX7_at 13 = .ok (.ifCond .ne 6, 3) := by decide +kernel
theorem dX7_at_16 : decode cX7_at 16 = .ok (.bipush (-2), 2) := by decide +kernel
theorem dX7_at_18 : decode cX7_at 18 = .ok (.ireturn, 1) := by decide +kernel
theorem dX7_at_19 : decode cX7_at 19 = .ok (.aload_n 0, 1) := by decide +kernel
theorem dX7_at_20 : decode cX7_at 20 = .ok (.invokevirtual 125, 3) := by decide +kernel
theorem dX7_at_23 : decode cX7_at 23 = .ok (.iload_n 2, 1) := by decide +kernel
theorem dX7_at_24 : decode cX7_at 24 = .ok (.tableswitch 72 0 3 #[32, 42, 52, 62], 32) := by decide +kernel
theorem dX7_at_56 : decode cX7_at 56 = .ok (.aload_n 0, 1) := by decide +kernel
theorem dX7_at_57 : decode cX7_at 57 = .ok (.getfield 69, 3) := by decide +kernel
theorem dX7_at_60 : decode cX7_at 60 = .ok (.getfield 173, 3) := by decide +kernel
theorem dX7_at_63 : decode cX7_at 63 = .ok (.iload_n 1, 1) := by decide +kernel
theorem dX7_at_64 : decode cX7_at 64 = .ok (.iaload, 1) := by decide +kernel
theorem dX7_at_65 : decode cX7_at 65 = .ok (.ireturn, 1) := by decide +kernel
theorem dX7_at_66 : decode cX7_at 66 = .ok (.aload_n 0, 1) := by decide +kernel
theorem dX7_at_67 : decode cX7_at 67 = .ok (.getfield 69, 3) := by decide +kernel
theorem dX7_at_70 : decode cX7_at 70 = .ok (.getfield 176, 3) := by decide +kernel
theorem dX7_at_73 : decode cX7_at 73 = .ok (.iload_n 1, 1) := by decide +kernel
theorem dX7_at_74 : decode cX7_at 74 = .ok (.iaload, 1) := by decide +kernel
theorem dX7_at_75 : decode cX7_at 75 = .ok (.ireturn, 1) := by decide +kernel
theorem dX7_at_76 : decode cX7_at 76 = .ok (.aload_n 0, 1) := by decide +kernel
theorem dX7_at_77 : decode cX7_at 77 = .ok (.getfield 69, 3) := by decide +kernel
theorem dX7_at_80 : decode cX7_at 80 = .ok (.getfield 177, 3) := by decide +kernel
theorem dX7_at_83 : decode cX7_at 83 = .ok (.iload_n 1, 1) := by decide +kernel
theorem dX7_at_84 : decode cX7_at 84 = .ok (.iaload, 1) := by decide +kernel
theorem dX7_at_85 : decode cX7_at 85 = .ok (.ireturn, 1) := by decide +kernel
theorem dX7_at_86 : decode cX7_at 86 = .ok (.aload_n 0, 1) := by decide +kernel
theorem dX7_at_87 : decode cX7_at 87 = .ok (.getfield 69, 3) := by decide +kernel
theorem dX7_at_90 : decode cX7_at 90 = .ok (.getfield 180, 3) := by decide +kernel
theorem dX7_at_93 : decode cX7_at 93 = .ok (.iload_n 1, 1) := by decide +kernel
theorem dX7_at_94 : decode cX7_at 94 = .ok (.iaload, 1) := by decide +kernel
theorem dX7_at_95 : decode cX7_at 95 = .ok (.ireturn, 1) := by decide +kernel
theorem dX7_at_96 : decode cX7_at 96 = .ok (.aload_n 0, 1) := by decide +kernel
theorem dX7_at_97 : decode cX7_at 97 = .ok (.getfield 69, 3) := by decide +kernel
theorem dX7_at_100 : decode cX7_at 100 = .ok (.getfield 183, 3) := by decide +kernel
theorem dX7_at_103 : decode cX7_at 103 = .ok (.iload_n 1, 1) := by decide +kernel
theorem dX7_at_104 : decode cX7_at 104 = .ok (.iaload, 1) := by decide +kernel
theorem dX7_at_105 : decode cX7_at 105 = .ok (.ireturn, 1) := by decide +kernel
theorem dX7_ends_0 : decode cX7_ends 0 = .ok (.aload_n 0, 1) := by decide +kernel
theorem dX7_ends_1 : decode cX7_ends 1 = .ok (.iload_n 1, 1) := by decide +kernel
theorem dX7_ends_2 : decode cX7_ends 2 = .ok (.invokevirtual 131, 3) := by decide +kernel
theorem dX7_ends_5 : decode cX7_ends 5 = .ok (.ifCond .eq 15, 3) := by decide +kernel
theorem dX7_ends_8 : decode cX7_ends 8 = .ok (.aload_n 0, 1) := by decide +kernel
theorem dX7_ends_9 : decode cX7_ends 9 = .ok (.getfield 69, 3) := by decide +kernel
theorem dX7_ends_12 : decode cX7_ends 12 = .ok (.getfield 186, 3) := by decide +kernel
theorem dX7_ends_15 : decode cX7_ends 15 = .ok (.iload_n 1, 1) := by decide +kernel
theorem dX7_ends_16 : decode cX7_ends 16 = .ok (.iaload, 1) := by decide +kernel
theorem dX7_ends_17 : decode cX7_ends 17 = .ok (.goto 5, 3) := by decide +kernel
theorem dX7_ends_20 : decode cX7_ends 20 = .ok (.bipush (-2), 2) := by decide +kernel
theorem dX7_ends_22 : decode cX7_ends 22 = .ok (.ireturn, 1) := by decide +kernel
theorem dX7_paid_0 : decode cX7_paid 0 = .ok (.aload_n 0, 1) := by decide +kernel
theorem dX7_paid_1 : decode cX7_paid 1 = .ok (.invokevirtual 125, 3) := by decide +kernel
theorem dX7_paid_4 : decode cX7_paid 4 = .ok (.aload_n 0, 1) := by decide +kernel
theorem dX7_paid_5 : decode cX7_paid 5 = .ok (.getfield 69, 3) := by decide +kernel
theorem dX7_paid_8 : decode cX7_paid 8 = .ok (.aload_n 0, 1) := by decide +kernel
theorem dX7_paid_9 : decode cX7_paid 9 = .ok (.getfield 41, 3) := by decide +kernel
theorem dX7_paid_12 : decode cX7_paid 12 = .ok (.invokevirtual 189, 3) := by decide +kernel
theorem dX7_paid_15 : decode cX7_paid 15 = .ok (.ireturn, 1) := by decide +kernel
theorem dX7_spilt_0 : decode cX7_spilt 0 = .ok (.aload_n 0, 1) := by decide +kernel
theorem dX7_spilt_1 : decode cX7_spilt 1 = .ok (.invokevirtual 125, 3) := by decide +kernel
theorem dX7_spilt_4 : decode cX7_spilt 4 = .ok (.aload_n 0, 1) := by decide +kernel
theorem dX7_spilt_5 : decode cX7_spilt 5 = .ok (.getfield 69, 3) := by decide +kernel
theorem dX7_spilt_8 : decode cX7_spilt 8 = .ok (.getfield 193, 3) := by decide +kernel
theorem dX7_spilt_11 : decode cX7_spilt 11 = .ok (.getfield 197, 3) := by decide +kernel
theorem dX7_spilt_14 : decode cX7_spilt 14 = .ok (.ireturn, 1) := by decide +kernel
theorem dX7_idle_0 : decode cX7_idle 0 = .ok (.aload_n 0, 1) := by decide +kernel
theorem dX7_idle_1 : decode cX7_idle 1 = .ok (.invokevirtual 125, 3) := by decide +kernel
theorem dX7_idle_4 : decode cX7_idle 4 = .ok (.aload_n 0, 1) := by decide +kernel
theorem dX7_idle_5 : decode cX7_idle 5 = .ok (.getfield 69, 3) := by decide +kernel
theorem dX7_idle_8 : decode cX7_idle 8 = .ok (.getfield 202, 3) := by decide +kernel
theorem dX7_idle_11 : decode cX7_idle 11 = .ok (.ireturn, 1) := by decide +kernel
theorem dX7_late_0 : decode cX7_late 0 = .ok (.aload_n 0, 1) := by decide +kernel
theorem dX7_late_1 : decode cX7_late 1 = .ok (.invokevirtual 125, 3) := by decide +kernel
theorem dX7_late_4 : decode cX7_late 4 = .ok (.iconst 0, 1) := by decide +kernel
theorem dX7_late_5 : decode cX7_late 5 = .ok (.istore_n 1, 1) := by decide +kernel
theorem dX7_late_6 : decode cX7_late 6 = .ok (.iconst 0, 1) := by decide +kernel
theorem dX7_late_7 : decode cX7_late 7 = .ok (.istore_n 2, 1) := by decide +kernel
theorem dX7_late_8 : decode cX7_late 8 = .ok (.iload_n 2, 1) := by decide +kernel
theorem dX7_late_9 : decode cX7_late 9 = .ok (.aload_n 0, 1) := by decide +kernel
theorem dX7_late_10 : decode cX7_late 10 = .ok (.getfield 41, 3) := by decide +kernel
theorem dX7_late_13 : decode cX7_late 13 = .ok (.getfield 205, 3) := by decide +kernel
theorem dX7_late_16 : decode cX7_late 16 = .ok (.if_icmp .ge 30, 3) := by decide +kernel
theorem dX7_late_19 : decode cX7_late 19 = .ok (.aload_n 0, 1) := by decide +kernel
theorem dX7_late_20 : decode cX7_late 20 = .ok (.getfield 69, 3) := by decide +kernel
theorem dX7_late_23 : decode cX7_late 23 = .ok (.aload_n 0, 1) := by decide +kernel
theorem dX7_late_24 : decode cX7_late 24 = .ok (.getfield 41, 3) := by decide +kernel
theorem dX7_late_27 : decode cX7_late 27 = .ok (.iload_n 2, 1) := by decide +kernel
theorem dX7_late_28 : decode cX7_late 28 = .ok (.invokevirtual 206, 3) := by decide +kernel
theorem dX7_late_31 : decode cX7_late 31 = .ok (.ifCond .ne 9, 3) := by decide +kernel
theorem dX7_late_34 : decode cX7_late 34 = .ok (.iload_n 1, 1) := by decide +kernel
theorem dX7_late_35 : decode cX7_late 35 = .ok (.iconst 1, 1) := by decide +kernel
theorem dX7_late_36 : decode cX7_late 36 = .ok (.iload_n 2, 1) := by decide +kernel
theorem dX7_late_37 : decode cX7_late 37 = .ok (.ishl, 1) := by decide +kernel
theorem dX7_late_38 : decode cX7_late 38 = .ok (.ior, 1) := by decide +kernel
theorem dX7_late_39 : decode cX7_late 39 = .ok (.istore_n 1, 1) := by decide +kernel
theorem dX7_late_40 : decode cX7_late 40 = .ok (.iinc 2 1, 3) := by decide +kernel
theorem dX7_late_43 : decode cX7_late 43 = .ok (.goto (-35), 3) := by decide +kernel
theorem dX7_late_46 : decode cX7_late 46 = .ok (.iload_n 1, 1) := by decide +kernel
theorem dX7_late_47 : decode cX7_late 47 = .ok (.ireturn, 1) := by decide +kernel
theorem dX7_row_0 : decode cX7_row 0 = .ok (.iload_n 1, 1) := by decide +kernel
theorem dX7_row_1 : decode cX7_row 1 = .ok (.iconst 0, 1) := by decide +kernel
theorem dX7_row_2 : decode cX7_row 2 = .ok (.bipush 8, 2) := by decide +kernel
theorem dX7_row_4 : decode cX7_row 4 = .ok (.invokestatic 97, 3) := by decide +kernel
theorem dX7_row_7 : decode cX7_row 7 = .ok (.ifCond .ne 6, 3) := by decide +kernel
theorem dX7_row_10 : decode cX7_row 10 = .ok (.bipush (-2), 2) := by decide +kernel
theorem dX7_row_12 : decode cX7_row 12 = .ok (.ireturn, 1) := by decide +kernel
theorem dX7_row_13 : decode cX7_row 13 = .ok (.aload_n 0, 1) := by decide +kernel
theorem dX7_row_14 : decode cX7_row 14 = .ok (.invokevirtual 125, 3) := by decide +kernel
theorem dX7_row_17 : decode cX7_row 17 = .ok (.iload_n 1, 1) := by decide +kernel
theorem dX7_row_18 : decode cX7_row 18 = .ok (.aload_n 0, 1) := by decide +kernel
theorem dX7_row_19 : decode cX7_row 19 = .ok (.getfield 41, 3) := by decide +kernel
theorem dX7_row_22 : decode cX7_row 22 = .ok (.getfield 205, 3) := by decide +kernel
theorem dX7_row_25 : decode cX7_row 25 = .ok (.if_icmp .gt 13, 3) := by decide +kernel
theorem dX7_row_28 : decode cX7_row 28 = .ok (.aload_n 0, 1) := by decide +kernel
theorem dX7_row_29 : decode cX7_row 29 = .ok (.getfield 41, 3) := by decide +kernel
theorem dX7_row_32 : decode cX7_row 32 = .ok (.getfield 205, 3) := by decide +kernel
theorem dX7_row_35 : decode cX7_row 35 = .ok (.ifCond .ne 5, 3) := by decide +kernel
theorem dX7_row_38 : decode cX7_row 38 = .ok (.iconst (-1), 1) := by decide +kernel
theorem dX7_row_39 : decode cX7_row 39 = .ok (.ireturn, 1) := by decide +kernel
theorem dX7_row_40 : decode cX7_row 40 = .ok (.aload_n 0, 1) := by decide +kernel
theorem dX7_row_41 : decode cX7_row 41 = .ok (.getfield 210, 3) := by decide +kernel
theorem dX7_row_44 : decode cX7_row 44 = .ok (.ifCond .ne 19, 3) := by decide +kernel
theorem dX7_row_47 : decode cX7_row 47 = .ok (.aload_n 0, 1) := by decide +kernel
theorem dX7_row_48 : decode cX7_row 48 = .ok (.getfield 82, 3) := by decide +kernel
theorem dX7_row_51 : decode cX7_row 51 = .ok (.aload_n 0, 1) := by decide +kernel
theorem dX7_row_52 : decode cX7_row 52 = .ok (.getfield 62, 3) := by decide +kernel
theorem dX7_row_55 : decode cX7_row 55 = .ok (.invokevirtual 214, 3) := by decide +kernel
theorem dX7_row_58 : decode cX7_row 58 = .ok (.aload_n 0, 1) := by decide +kernel
theorem dX7_row_59 : decode cX7_row 59 = .ok (.iconst 1, 1) := by decide +kernel
theorem dX7_row_60 : decode cX7_row 60 = .ok (.putfield 210, 3) := by decide +kernel
theorem dX7_row_63 : decode cX7_row 63 = .ok (.iload_n 1, 1) := by decide +kernel
theorem dX7_row_64 : decode cX7_row 64 = .ok (.ifCond .ne 13, 3) := by decide +kernel
theorem dX7_row_67 : decode cX7_row 67 = .ok (.aload_n 0, 1) := by decide +kernel
theorem dX7_row_68 : decode cX7_row 68 = .ok (.getfield 82, 3) := by decide +kernel
theorem dX7_row_71 : decode cX7_row 71 = .ok (.getfield 218, 3) := by decide +kernel
theorem dX7_row_74 : decode cX7_row 74 = .ok (.goto 14, 3) := by decide +kernel
theorem dX7_row_77 : decode cX7_row 77 = .ok (.aload_n 0, 1) := by decide +kernel
theorem dX7_row_78 : decode cX7_row 78 = .ok (.getfield 82, 3) := by decide +kernel
theorem dX7_row_81 : decode cX7_row 81 = .ok (.getfield 221, 3) := by decide +kernel
theorem dX7_row_84 : decode cX7_row 84 = .ok (.iload_n 1, 1) := by decide +kernel
theorem dX7_row_85 : decode cX7_row 85 = .ok (.iconst 1, 1) := by decide +kernel
theorem dX7_row_86 : decode cX7_row 86 = .ok (.isub, 1) := by decide +kernel
theorem dX7_row_87 : decode cX7_row 87 = .ok (.iaload, 1) := by decide +kernel
theorem dX7_row_88 : decode cX7_row 88 = .ok (.ireturn, 1) := by decide +kernel
theorem dX7_dress_0 : decode cX7_dress 0 = .ok (.iload_n 1, 1) := by decide +kernel
theorem dX7_dress_1 : decode cX7_dress 1 = .ok (.iconst 0, 1) := by decide +kernel
theorem dX7_dress_2 : decode cX7_dress 2 = .ok (.iconst 1, 1) := by decide +kernel
theorem dX7_dress_3 : decode cX7_dress 3 = .ok (.invokestatic 97, 3) := by decide +kernel
theorem dX7_dress_6 : decode cX7_dress 6 = .ok (.ifCond .ne 6, 3) := by decide +kernel
theorem dX7_dress_9 : decode cX7_dress 9 = .ok (.bipush (-2), 2) := by decide +kernel
theorem dX7_dress_11 : decode cX7_dress 11 = .ok (.ireturn, 1) := by decide +kernel
theorem dX7_dress_12 : decode cX7_dress 12 = .ok (.aload_n 0, 1) := by decide +kernel
theorem dX7_dress_13 : decode cX7_dress 13 = .ok (.invokevirtual 125, 3) := by decide +kernel
theorem dX7_dress_16 : decode cX7_dress 16 = .ok (.iconst 0, 1) := by decide +kernel
theorem dX7_dress_17 : decode cX7_dress 17 = .ok (.istore_n 2, 1) := by decide +kernel
theorem dX7_dress_18 : decode cX7_dress 18 = .ok (.iconst (-1), 1) := by decide +kernel
theorem dX7_dress_19 : decode cX7_dress 19 = .ok (.istore_n 3, 1) := by decide +kernel
theorem dX7_dress_20 : decode cX7_dress 20 = .ok (.iconst 0, 1) := by decide +kernel
theorem dX7_dress_21 : decode cX7_dress 21 = .ok (.istore 4, 2) := by decide +kernel
theorem dX7_dress_23 : decode cX7_dress 23 = .ok (.iload 4, 2) := by decide +kernel
theorem dX7_dress_25 : decode cX7_dress 25 = .ok (.bipush 40, 2) := by decide +kernel
theorem dX7_dress_27 : decode cX7_dress 27 = .ok (.if_icmp .ge 67, 3) := by decide +kernel
theorem dX7_dress_30 : decode cX7_dress 30 = .ok (.aload_n 0, 1) := by decide +kernel
theorem dX7_dress_31 : decode cX7_dress 31 = .ok (.getfield 73, 3) := by decide +kernel
theorem dX7_dress_34 : decode cX7_dress 34 = .ok (.aload_n 0, 1) := by decide +kernel
theorem dX7_dress_35 : decode cX7_dress 35 = .ok (.getfield 62, 3) := by decide +kernel
theorem dX7_dress_38 : decode cX7_dress 38 = .ok (.invokevirtual 224, 3) := by decide +kernel
theorem dX7_dress_41 : decode cX7_dress 41 = .ok (.aload_n 0, 1) := by decide +kernel
theorem dX7_dress_42 : decode cX7_dress 42 = .ok (.getfield 73, 3) := by decide +kernel
theorem dX7_dress_45 : decode cX7_dress 45 = .ok (.getfield 227, 3) := by decide +kernel
theorem dX7_dress_48 : decode cX7_dress 48 = .ok (.iload 4, 2) := by decide +kernel
theorem dX7_dress_50 : decode cX7_dress 50 = .ok (.dup2, 1) := by decide +kernel
theorem dX7_dress_51 : decode cX7_dress 51 = .ok (.iaload, 1) := by decide +kernel
theorem dX7_dress_52 : decode cX7_dress 52 = .ok (.iconst 1, 1) := by decide +kernel
theorem dX7_dress_53 : decode cX7_dress 53 = .ok (.iadd, 1) := by decide +kernel
theorem dX7_dress_54 : decode cX7_dress 54 = .ok (.iastore, 1) := by decide +kernel
theorem dX7_dress_55 : decode cX7_dress 55 = .ok (.aload_n 0, 1) := by decide +kernel
theorem dX7_dress_56 : decode cX7_dress 56 = .ok (.getfield 76, 3) := by decide +kernel
theorem dX7_dress_59 : decode cX7_dress 59 = .ok (.aload_n 0, 1) := by decide +kernel
theorem dX7_dress_60 : decode cX7_dress 60 = .ok (.getfield 73, 3) := by decide +kernel
theorem dX7_dress_63 : decode cX7_dress 63 = .ok (.invokevirtual 229, 3) := by decide +kernel
theorem dX7_dress_66 : decode cX7_dress 66 = .ok (.aload_n 0, 1) := by decide +kernel
theorem dX7_dress_67 : decode cX7_dress 67 = .ok (.getfield 76, 3) := by decide +kernel
theorem dX7_dress_70 : decode cX7_dress 70 = .ok (.invokevirtual 232, 3) := by decide +kernel
theorem dX7_dress_73 : decode cX7_dress 73 = .ok (.iload_n 3, 1) := by decide +kernel
theorem dX7_dress_74 : decode cX7_dress 74 = .ok (.if_icmp .le 14, 3) := by decide +kernel
theorem dX7_dress_77 : decode cX7_dress 77 = .ok (.iload 4, 2) := by decide +kernel
theorem dX7_dress_79 : decode cX7_dress 79 = .ok (.istore_n 2, 1) := by decide +kernel
theorem dX7_dress_80 : decode cX7_dress 80 = .ok (.aload_n 0, 1) := by decide +kernel
theorem dX7_dress_81 : decode cX7_dress 81 = .ok (.getfield 76, 3) := by decide +kernel
theorem dX7_dress_84 : decode cX7_dress 84 = .ok (.invokevirtual 232, 3) := by decide +kernel
theorem dX7_dress_87 : decode cX7_dress 87 = .ok (.istore_n 3, 1) := by decide +kernel
theorem dX7_dress_88 : decode cX7_dress 88 = .ok (.iinc 4 1, 3) := by decide +kernel
theorem dX7_dress_91 : decode cX7_dress 91 = .ok (.goto (-68), 3) := by decide +kernel
theorem dX7_dress_94 : decode cX7_dress 94 = .ok (.iload_n 1, 1) := by decide +kernel
theorem dX7_dress_95 : decode cX7_dress 95 = .ok (.ifCond .ne 7, 3) := by decide +kernel
theorem dX7_dress_98 : decode cX7_dress 98 = .ok (.iload_n 2, 1) := by decide +kernel
theorem dX7_dress_99 : decode cX7_dress 99 = .ok (.goto 4, 3) := by decide +kernel
theorem dX7_dress_102 : decode cX7_dress 102 = .ok (.iload_n 3, 1) := by decide +kernel
theorem dX7_dress_103 : decode cX7_dress 103 = .ok (.ireturn, 1) := by decide +kernel
theorem dX7_least_0 : decode cX7_least 0 = .ok (.aload_n 0, 1) := by decide +kernel
theorem dX7_least_1 : decode cX7_least 1 = .ok (.invokevirtual 125, 3) := by decide +kernel
theorem dX7_least_4 : decode cX7_least 4 = .ok (.aload_n 0, 1) := by decide +kernel
theorem dX7_least_5 : decode cX7_least 5 = .ok (.getfield 73, 3) := by decide +kernel
theorem dX7_least_8 : decode cX7_least 8 = .ok (.aload_n 0, 1) := by decide +kernel
theorem dX7_least_9 : decode cX7_least 9 = .ok (.getfield 62, 3) := by decide +kernel
theorem dX7_least_12 : decode cX7_least 12 = .ok (.invokevirtual 224, 3) := by decide +kernel
theorem dX7_least_15 : decode cX7_least 15 = .ok (.iconst 0, 1) := by decide +kernel
theorem dX7_least_16 : decode cX7_least 16 = .ok (.istore_n 1, 1) := by decide +kernel
theorem dX7_least_17 : decode cX7_least 17 = .ok (.iload_n 1, 1) := by decide +kernel
theorem dX7_least_18 : decode cX7_least 18 = .ok (.bipush 20, 2) := by decide +kernel
theorem dX7_least_20 : decode cX7_least 20 = .ok (.if_icmp .gt 46, 3) := by decide +kernel
theorem dX7_least_23 : decode cX7_least 23 = .ok (.aload_n 0, 1) := by decide +kernel
theorem dX7_least_24 : decode cX7_least 24 = .ok (.getfield 73, 3) := by decide +kernel
theorem dX7_least_27 : decode cX7_least 27 = .ok (.getfield 236, 3) := by decide +kernel
theorem dX7_least_30 : decode cX7_least 30 = .ok (.iconst 0, 1) := by decide +kernel
theorem dX7_least_31 : decode cX7_least 31 = .ok (.iload_n 1, 1) := by decide +kernel
theorem dX7_least_32 : decode cX7_least 32 = .ok (.iastore, 1) := by decide +kernel
theorem dX7_least_33 : decode cX7_least 33 = .ok (.aload_n 0, 1) := by decide +kernel
theorem dX7_least_34 : decode cX7_least 34 = .ok (.getfield 76, 3) := by decide +kernel
theorem dX7_least_37 : decode cX7_least 37 = .ok (.aload_n 0, 1) := by decide +kernel
theorem dX7_least_38 : decode cX7_least 38 = .ok (.getfield 73, 3) := by decide +kernel
theorem dX7_least_41 : decode cX7_least 41 = .ok (.invokevirtual 229, 3) := by decide +kernel
theorem dX7_least_44 : decode cX7_least 44 = .ok (.aload_n 0, 1) := by decide +kernel
theorem dX7_least_45 : decode cX7_least 45 = .ok (.getfield 76, 3) := by decide +kernel
theorem dX7_least_48 : decode cX7_least 48 = .ok (.aload_n 0, 1) := by decide +kernel
theorem dX7_least_49 : decode cX7_least 49 = .ok (.getfield 41, 3) := by decide +kernel
theorem dX7_least_52 : decode cX7_least 52 = .ok (.invokevirtual 237, 3) := by decide +kernel
theorem dX7_least_55 : decode cX7_least 55 = .ok (.ifCond .eq 5, 3) := by decide +kernel
theorem dX7_least_58 : decode cX7_least 58 = .ok (.iload_n 1, 1) := by decide +kernel
theorem dX7_least_59 : decode cX7_least 59 = .ok (.ireturn, 1) := by decide +kernel
theorem dX7_least_60 : decode cX7_least 60 = .ok (.iinc 1 1, 3) := by decide +kernel
theorem dX7_least_63 : decode cX7_least 63 = .ok (.goto (-46), 3) := by decide +kernel
theorem dX7_least_66 : decode cX7_least 66 = .ok (.iconst (-1), 1) := by decide +kernel
theorem dX7_least_67 : decode cX7_least 67 = .ok (.ireturn, 1) := by decide +kernel
theorem dX7_send_0 : decode cX7_send 0 = .ok (.iload_n 1, 1) := by decide +kernel
theorem dX7_send_1 : decode cX7_send 1 = .ok (.iconst 0, 1) := by decide +kernel
theorem dX7_send_2 : decode cX7_send 2 = .ok (.iconst 1, 1) := by decide +kernel
theorem dX7_send_3 : decode cX7_send 3 = .ok (.invokestatic 97, 3) := by decide +kernel
theorem dX7_send_6 : decode cX7_send 6 = .ok (.ifCond .ne 6, 3) := by decide +kernel
theorem dX7_send_9 : decode cX7_send 9 = .ok (.bipush (-2), 2) := by decide +kernel
theorem dX7_send_11 : decode cX7_send 11 = .ok (.ireturn, 1) := by decide +kernel
theorem dX7_send_12 : decode cX7_send 12 = .ok (.aload_n 0, 1) := by decide +kernel
theorem dX7_send_13 : decode cX7_send 13 = .ok (.invokevirtual 125, 3) := by decide +kernel
theorem dX7_send_16 : decode cX7_send 16 = .ok (.iconst (-1), 1) := by decide +kernel
theorem dX7_send_17 : decode cX7_send 17 = .ok (.istore_n 2, 1) := by decide +kernel
theorem dX7_send_18 : decode cX7_send 18 = .ok (.iconst (-1), 1) := by decide +kernel
theorem dX7_send_19 : decode cX7_send 19 = .ok (.istore_n 3, 1) := by decide +kernel
theorem dX7_send_20 : decode cX7_send 20 = .ok (.iconst 0, 1) := by decide +kernel
theorem dX7_send_21 : decode cX7_send 21 = .ok (.istore 4, 2) := by decide +kernel
theorem dX7_send_23 : decode cX7_send 23 = .ok (.iload 4, 2) := by decide +kernel
theorem dX7_send_25 : decode cX7_send 25 = .ok (.aload_n 0, 1) := by decide +kernel
theorem dX7_send_26 : decode cX7_send 26 = .ok (.getfield 41, 3) := by decide +kernel
theorem dX7_send_29 : decode cX7_send 29 = .ok (.getfield 205, 3) := by decide +kernel
theorem dX7_send_32 : decode cX7_send 32 = .ok (.if_icmp .ge 65, 3) := by decide +kernel
theorem dX7_send_35 : decode cX7_send 35 = .ok (.aload_n 0, 1) := by decide +kernel
theorem dX7_send_36 : decode cX7_send 36 = .ok (.getfield 73, 3) := by decide +kernel
theorem dX7_send_39 : decode cX7_send 39 = .ok (.aload_n 0, 1) := by decide +kernel
theorem dX7_send_40 : decode cX7_send 40 = .ok (.getfield 62, 3) := by decide +kernel
theorem dX7_send_43 : decode cX7_send 43 = .ok (.invokevirtual 224, 3) := by decide +kernel
theorem dX7_send_46 : decode cX7_send 46 = .ok (.aload_n 0, 1) := by decide +kernel
theorem dX7_send_47 : decode cX7_send 47 = .ok (.getfield 73, 3) := by decide +kernel
theorem dX7_send_50 : decode cX7_send 50 = .ok (.iload 4, 2) := by decide +kernel
theorem dX7_send_52 : decode cX7_send 52 = .ok (.invokevirtual 241, 3) := by decide +kernel
theorem dX7_send_55 : decode cX7_send 55 = .ok (.aload_n 0, 1) := by decide +kernel
theorem dX7_send_56 : decode cX7_send 56 = .ok (.getfield 76, 3) := by decide +kernel
theorem dX7_send_59 : decode cX7_send 59 = .ok (.aload_n 0, 1) := by decide +kernel
theorem dX7_send_60 : decode cX7_send 60 = .ok (.getfield 73, 3) := by decide +kernel
theorem dX7_send_63 : decode cX7_send 63 = .ok (.invokevirtual 229, 3) := by decide +kernel
theorem dX7_send_66 : decode cX7_send 66 = .ok (.aload_n 0, 1) := by decide +kernel
theorem dX7_send_67 : decode cX7_send 67 = .ok (.getfield 76, 3) := by decide +kernel
theorem dX7_send_70 : decode cX7_send 70 = .ok (.aload_n 0, 1) := by decide +kernel
theorem dX7_send_71 : decode cX7_send 71 = .ok (.getfield 41, 3) := by decide +kernel
theorem dX7_send_74 : decode cX7_send 74 = .ok (.invokevirtual 189, 3) := by decide +kernel
theorem dX7_send_77 : decode cX7_send 77 = .ok (.istore 5, 2) := by decide +kernel
theorem dX7_send_79 : decode cX7_send 79 = .ok (.iload 5, 2) := by decide +kernel
theorem dX7_send_81 : decode cX7_send 81 = .ok (.iload_n 3, 1) := by decide +kernel
theorem dX7_send_82 : decode cX7_send 82 = .ok (.if_icmp .le 9, 3) := by decide +kernel
theorem dX7_send_85 : decode cX7_send 85 = .ok (.iload 4, 2) := by decide +kernel
theorem dX7_send_87 : decode cX7_send 87 = .ok (.istore_n 2, 1) := by decide +kernel
theorem dX7_send_88 : decode cX7_send 88 = .ok (.iload 5, 2) := by decide +kernel
theorem dX7_send_90 : decode cX7_send 90 = .ok (.istore_n 3, 1) := by decide +kernel
theorem dX7_send_91 : decode cX7_send 91 = .ok (.iinc 4 1, 3) := by decide +kernel
theorem dX7_send_94 : decode cX7_send 94 = .ok (.goto (-71), 3) := by decide +kernel
theorem dX7_send_97 : decode cX7_send 97 = .ok (.iload_n 1, 1) := by decide +kernel
theorem dX7_send_98 : decode cX7_send 98 = .ok (.ifCond .ne 7, 3) := by decide +kernel
theorem dX7_send_101 : decode cX7_send 101 = .ok (.iload_n 2, 1) := by decide +kernel
theorem dX7_send_102 : decode cX7_send 102 = .ok (.goto 4, 3) := by decide +kernel
theorem dX7_send_105 : decode cX7_send 105 = .ok (.iload_n 3, 1) := by decide +kernel
theorem dX7_send_106 : decode cX7_send 106 = .ok (.ireturn, 1) := by decide +kernel
theorem dX7_seen_0 : decode cX7_seen 0 = .ok (.iload_n 1, 1) := by decide +kernel
theorem dX7_seen_1 : decode cX7_seen 1 = .ok (.invokestatic 121, 3) := by decide +kernel
theorem dX7_seen_4 : decode cX7_seen 4 = .ok (.ifCond .eq 13, 3) := by decide +kernel
theorem dX7_seen_7 : decode cX7_seen 7 = .ok (.iload_n 2, 1) := by decide +kernel
theorem dX7_seen_8 : decode cX7_seen 8 = .ok (.iconst 0, 1) := by decide +kernel
theorem dX7_seen_9 : decode cX7_seen 9 = .ok (.bipush 20, 2) := by decide +kernel
theorem dX7_seen_11 : decode cX7_seen 11 = .ok (.invokestatic 97, 3) := by decide +kernel
theorem dX7_seen_14 : decode cX7_seen 14 = .ok (.ifCond .ne 6, 3) := by decide +kernel
theorem dX7_seen_17 : decode cX7_seen 17 = .ok (.bipush (-2), 2) := by decide +kernel
theorem dX7_seen_19 : decode cX7_seen 19 = .ok (.ireturn, 1) := by decide +kernel
theorem dX7_seen_20 : decode cX7_seen 20 = .ok (.aload_n 0, 1) := by decide +kernel
theorem dX7_seen_21 : decode cX7_seen 21 = .ok (.getfield 25, 3) := by decide +kernel
theorem dX7_seen_24 : decode cX7_seen 24 = .ok (.invokevirtual 167, 3) := by decide +kernel
theorem dX7_seen_27 : decode cX7_seen 27 = .ok (.ifCond .eq 6, 3) := by decide +kernel
theorem dX7_seen_30 : decode cX7_seen 30 = .ok (.bipush (-4), 2) := by decide +kernel
theorem dX7_seen_32 : decode cX7_seen 32 = .ok (.ireturn, 1) := by decide +kernel
theorem dX7_seen_33 : decode cX7_seen 33 = .ok (.aload_n 0, 1) := by decide +kernel
theorem dX7_seen_34 : decode cX7_seen 34 = .ok (.getfield 25, 3) := by decide +kernel
theorem dX7_seen_37 : decode cX7_seen 37 = .ok (.iload_n 1, 1) := by decide +kernel
theorem dX7_seen_38 : decode cX7_seen 38 = .ok (.invokevirtual 170, 3) := by decide +kernel
theorem dX7_seen_41 : decode cX7_seen 41 = .ok (.aload_n 0, 1) := by decide +kernel
theorem dX7_seen_42 : decode cX7_seen 42 = .ok (.getfield 28, 3) := by decide +kernel
theorem dX7_seen_45 : decode cX7_seen 45 = .ok (.iload_n 2, 1) := by decide +kernel
theorem dX7_seen_46 : decode cX7_seen 46 = .ok (.invokevirtual 170, 3) := by decide +kernel
theorem dX7_seen_49 : decode cX7_seen 49 = .ok (.aload_n 0, 1) := by decide +kernel
theorem dX7_seen_50 : decode cX7_seen 50 = .ok (.getfield 25, 3) := by decide +kernel
theorem dX7_seen_53 : decode cX7_seen 53 = .ok (.getfield 105, 3) := by decide +kernel
theorem dX7_seen_56 : decode cX7_seen 56 = .ok (.ireturn, 1) := by decide +kernel
theorem dX7_forget_0 : decode cX7_forget 0 = .ok (.aload_n 0, 1) := by decide +kernel
theorem dX7_forget_1 : decode cX7_forget 1 = .ok (.getfield 25, 3) := by decide +kernel
theorem dX7_forget_4 : decode cX7_forget 4 = .ok (.getfield 105, 3) := by decide +kernel
theorem dX7_forget_7 : decode cX7_forget 7 = .ok (.istore_n 1, 1) := by decide +kernel
theorem dX7_forget_8 : decode cX7_forget 8 = .ok (.aload_n 0, 1) := by decide +kernel
theorem dX7_forget_9 : decode cX7_forget 9 = .ok (.getfield 25, 3) := by decide +kernel
theorem dX7_forget_12 : decode cX7_forget 12 = .ok (.iconst 0, 1) := by decide +kernel
theorem dX7_forget_13 : decode cX7_forget 13 = .ok (.putfield 105, 3) := by decide +kernel
theorem dX7_forget_16 : decode cX7_forget 16 = .ok (.aload_n 0, 1) := by decide +kernel
theorem dX7_forget_17 : decode cX7_forget 17 = .ok (.getfield 28, 3) := by decide +kernel
theorem dX7_forget_20 : decode cX7_forget 20 = .ok (.iconst 0, 1) := by decide +kernel
theorem dX7_forget_21 : decode cX7_forget 21 = .ok (.putfield 105, 3) := by decide +kernel
theorem dX7_forget_24 : decode cX7_forget 24 = .ok (.iload_n 1, 1) := by decide +kernel
theorem dX7_forget_25 : decode cX7_forget 25 = .ok (.ireturn, 1) := by decide +kernel
theorem dX7_never_0 : decode cX7_never 0 = .ok (.aload_n 0, 1) := by decide +kernel
theorem dX7_never_1 : decode cX7_never 1 = .ok (.invokevirtual 125, 3) := by decide +kernel
theorem dX7_never_4 : decode cX7_never 4 = .ok (.iconst 0, 1) := by decide +kernel
theorem dX7_never_5 : decode cX7_never 5 = .ok (.istore_n 1, 1) := by decide +kernel
theorem dX7_never_6 : decode cX7_never 6 = .ok (.iconst 0, 1) := by decide +kernel
theorem dX7_never_7 : decode cX7_never 7 = .ok (.istore_n 2, 1) := by decide +kernel
theorem dX7_never_8 : decode cX7_never 8 = .ok (.iload_n 2, 1) := by decide +kernel
theorem dX7_never_9 : decode cX7_never 9 = .ok (.aload_n 0, 1) := by decide +kernel
theorem dX7_never_10 : decode cX7_never 10 = .ok (.getfield 18, 3) := by decide +kernel
theorem dX7_never_13 : decode cX7_never 13 = .ok (.getfield 105, 3) := by decide +kernel
theorem dX7_never_16 : decode cX7_never 16 = .ok (.if_icmp .ge 54, 3) := by decide +kernel
theorem dX7_never_19 : decode cX7_never 19 = .ok (.aload_n 0, 1) := by decide +kernel
theorem dX7_never_20 : decode cX7_never 20 = .ok (.getfield 73, 3) := by decide +kernel
theorem dX7_never_23 : decode cX7_never 23 = .ok (.aload_n 0, 1) := by decide +kernel
theorem dX7_never_24 : decode cX7_never 24 = .ok (.getfield 62, 3) := by decide +kernel
theorem dX7_never_27 : decode cX7_never 27 = .ok (.invokevirtual 224, 3) := by decide +kernel
theorem dX7_never_30 : decode cX7_never 30 = .ok (.aload_n 0, 1) := by decide +kernel
theorem dX7_never_31 : decode cX7_never 31 = .ok (.getfield 73, 3) := by decide +kernel
theorem dX7_never_34 : decode cX7_never 34 = .ok (.getfield 244, 3) := by decide +kernel
theorem dX7_never_37 : decode cX7_never 37 = .ok (.aload_n 0, 1) := by decide +kernel
theorem dX7_never_38 : decode cX7_never 38 = .ok (.getfield 18, 3) := by decide +kernel
theorem dX7_never_41 : decode cX7_never 41 = .ok (.getfield 246, 3) := by decide +kernel
theorem dX7_never_44 : decode cX7_never 44 = .ok (.iload_n 2, 1) := by decide +kernel
theorem dX7_never_45 : decode cX7_never 45 = .ok (.iaload, 1) := by decide +kernel
theorem dX7_never_46 : decode cX7_never 46 = .ok (.dup2, 1) := by decide +kernel
theorem dX7_never_47 : decode cX7_never 47 = .ok (.iaload, 1) := by decide +kernel
theorem dX7_never_48 : decode cX7_never 48 = .ok (.iconst 1, 1) := by decide +kernel
theorem dX7_never_49 : decode cX7_never 49 = .ok (.isub, 1) := by decide +kernel
theorem dX7_never_50 : decode cX7_never 50 = .ok (.iastore, 1) := by decide +kernel
theorem dX7_never_51 : decode cX7_never 51 = .ok (.aload_n 0, 1) := by decide +kernel
theorem dX7_never_52 : decode cX7_never 52 = .ok (.invokevirtual 247, 3) := by decide +kernel
theorem dX7_never_55 : decode cX7_never 55 = .ok (.ifCond .eq 9, 3) := by decide +kernel
theorem dX7_never_58 : decode cX7_never 58 = .ok (.iload_n 1, 1) := by decide +kernel
theorem dX7_never_59 : decode cX7_never 59 = .ok (.iconst 1, 1) := by decide +kernel
theorem dX7_never_60 : decode cX7_never 60 = .ok (.iload_n 2, 1) := by decide +kernel
theorem dX7_never_61 : decode cX7_never 61 = .ok (.ishl, 1) := by decide +kernel
theorem dX7_never_62 : decode cX7_never 62 = .ok (.ior, 1) := by decide +kernel
theorem dX7_never_63 : decode cX7_never 63 = .ok (.istore_n 1, 1) := by decide +kernel
theorem dX7_never_64 : decode cX7_never 64 = .ok (.iinc 2 1, 3) := by decide +kernel
theorem dX7_never_67 : decode cX7_never 67 = .ok (.goto (-59), 3) := by decide +kernel
theorem dX7_never_70 : decode cX7_never 70 = .ok (.iload_n 1, 1) := by decide +kernel
theorem dX7_never_71 : decode cX7_never 71 = .ok (.ireturn, 1) := by decide +kernel
theorem dX7_was_0 : decode cX7_was 0 = .ok (.iload_n 1, 1) := by decide +kernel
theorem dX7_was_1 : decode cX7_was 1 = .ok (.iconst 0, 1) := by decide +kernel
theorem dX7_was_2 : decode cX7_was 2 = .ok (.iconst 1, 1) := by decide +kernel
theorem dX7_was_3 : decode cX7_was 3 = .ok (.invokestatic 97, 3) := by decide +kernel
theorem dX7_was_6 : decode cX7_was 6 = .ok (.ifCond .ne 6, 3) := by decide +kernel
theorem dX7_was_9 : decode cX7_was 9 = .ok (.bipush (-2), 2) := by decide +kernel
theorem dX7_was_11 : decode cX7_was 11 = .ok (.ireturn, 1) := by decide +kernel
theorem dX7_was_12 : decode cX7_was 12 = .ok (.iload_n 1, 1) := by decide +kernel
theorem dX7_was_13 : decode cX7_was 13 = .ok (.ifCond .ne 7, 3) := by decide +kernel
theorem dX7_was_16 : decode cX7_was 16 = .ok (.iconst 1, 1) := by decide +kernel
theorem dX7_was_17 : decode cX7_was 17 = .ok (.goto 4, 3) := by decide +kernel
theorem dX7_was_20 : decode cX7_was 20 = .ok (.iconst 0, 1) := by decide +kernel
theorem dX7_was_21 : decode cX7_was 21 = .ok (.istore_n 2, 1) := by decide +kernel
theorem dX7_was_22 : decode cX7_was 22 = .ok (.aload_n 0, 1) := by decide +kernel
theorem dX7_was_23 : decode cX7_was 23 = .ok (.invokevirtual 125, 3) := by decide +kernel
theorem dX7_was_26 : decode cX7_was 26 = .ok (.aload_n 0, 1) := by decide +kernel
theorem dX7_was_27 : decode cX7_was 27 = .ok (.getfield 73, 3) := by decide +kernel
theorem dX7_was_30 : decode cX7_was 30 = .ok (.aload_n 0, 1) := by decide +kernel
theorem dX7_was_31 : decode cX7_was 31 = .ok (.getfield 62, 3) := by decide +kernel
theorem dX7_was_34 : decode cX7_was 34 = .ok (.invokevirtual 224, 3) := by decide +kernel
theorem dX7_was_37 : decode cX7_was 37 = .ok (.iconst 0, 1) := by decide +kernel
theorem dX7_was_38 : decode cX7_was 38 = .ok (.istore_n 3, 1) := by decide +kernel
theorem dX7_was_39 : decode cX7_was 39 = .ok (.getstatic 146, 3) := by decide +kernel
theorem dX7_was_42 : decode cX7_was 42 = .ok (.iload_n 2, 1) := by decide +kernel
theorem dX7_was_43 : decode cX7_was 43 = .ok (.iaload, 1) := by decide +kernel
theorem dX7_was_44 : decode cX7_was 44 = .ok (.istore 4, 2) := by decide +kernel
theorem dX7_was_46 : decode cX7_was 46 = .ok (.iload 4, 2) := by decide +kernel
theorem dX7_was_48 : decode cX7_was 48 = .ok (.getstatic 149, 3) := by decide +kernel
theorem dX7_was_51 : decode cX7_was 51 = .ok (.iload_n 2, 1) := by decide +kernel
theorem dX7_was_52 : decode cX7_was 52 = .ok (.iaload, 1) := by decide +kernel
theorem dX7_was_53 : decode cX7_was 53 = .ok (.if_icmp .gt 34, 3) := by decide +kernel
theorem dX7_was_56 : decode cX7_was 56 = .ok (.aload_n 0, 1) := by decide +kernel
theorem dX7_was_57 : decode cX7_was 57 = .ok (.getfield 73, 3) := by decide +kernel
theorem dX7_was_60 : decode cX7_was 60 = .ok (.getfield 236, 3) := by decide +kernel
theorem dX7_was_63 : decode cX7_was 63 = .ok (.iload_n 2, 1) := by decide +kernel
theorem dX7_was_64 : decode cX7_was 64 = .ok (.iload 4, 2) := by decide +kernel
theorem dX7_was_66 : decode cX7_was 66 = .ok (.iastore, 1) := by decide +kernel
theorem dX7_was_67 : decode cX7_was 67 = .ok (.aload_n 0, 1) := by decide +kernel
theorem dX7_was_68 : decode cX7_was 68 = .ok (.invokevirtual 247, 3) := by decide +kernel
theorem dX7_was_71 : decode cX7_was 71 = .ok (.ifCond .eq 10, 3) := by decide +kernel
theorem dX7_was_74 : decode cX7_was 74 = .ok (.iload_n 3, 1) := by decide +kernel
theorem dX7_was_75 : decode cX7_was 75 = .ok (.iconst 1, 1) := by decide +kernel
theorem dX7_was_76 : decode cX7_was 76 = .ok (.iload 4, 2) := by decide +kernel
theorem dX7_was_78 : decode cX7_was 78 = .ok (.ishl, 1) := by decide +kernel
theorem dX7_was_79 : decode cX7_was 79 = .ok (.ior, 1) := by decide +kernel
theorem dX7_was_80 : decode cX7_was 80 = .ok (.istore_n 3, 1) := by decide +kernel
theorem dX7_was_81 : decode cX7_was 81 = .ok (.iinc 4 1, 3) := by decide +kernel
theorem dX7_was_84 : decode cX7_was 84 = .ok (.goto (-38), 3) := by decide +kernel
theorem dX7_was_87 : decode cX7_was 87 = .ok (.iload_n 3, 1) := by decide +kernel
theorem dX7_was_88 : decode cX7_was 88 = .ok (.ireturn, 1) := by decide +kernel
theorem dX7_ask_0 : decode cX7_ask 0 = .ok (.aload_n 0, 1) := by decide +kernel
theorem dX7_ask_1 : decode cX7_ask 1 = .ok (.invokevirtual 125, 3) := by decide +kernel
theorem dX7_ask_4 : decode cX7_ask 4 = .ok (.aload_n 0, 1) := by decide +kernel
theorem dX7_ask_5 : decode cX7_ask 5 = .ok (.invokevirtual 250, 3) := by decide +kernel
theorem dX7_ask_8 : decode cX7_ask 8 = .ok (.iconst 0, 1) := by decide +kernel
theorem dX7_ask_9 : decode cX7_ask 9 = .ok (.istore_n 1, 1) := by decide +kernel
theorem dX7_ask_10 : decode cX7_ask 10 = .ok (.aload_n 0, 1) := by decide +kernel
theorem dX7_ask_11 : decode cX7_ask 11 = .ok (.iconst 0, 1) := by decide +kernel
theorem dX7_ask_12 : decode cX7_ask 12 = .ok (.invokevirtual 253, 3) := by decide +kernel
theorem dX7_ask_15 : decode cX7_ask 15 = .ok (.istore_n 2, 1) := by decide +kernel
theorem dX7_ask_16 : decode cX7_ask 16 = .ok (.iconst 1, 1) := by decide +kernel
theorem dX7_ask_17 : decode cX7_ask 17 = .ok (.istore_n 3, 1) := by decide +kernel
theorem dX7_ask_18 : decode cX7_ask 18 = .ok (.iload_n 3, 1) := by decide +kernel
theorem dX7_ask_19 : decode cX7_ask 19 = .ok (.bipush 40, 2) := by decide +kernel
theorem dX7_ask_21 : decode cX7_ask 21 = .ok (.if_icmp .ge 27, 3) := by decide +kernel
theorem dX7_ask_24 : decode cX7_ask 24 = .ok (.aload_n 0, 1) := by decide +kernel
theorem dX7_ask_25 : decode cX7_ask 25 = .ok (.iload_n 3, 1) := by decide +kernel
theorem dX7_ask_26 : decode cX7_ask 26 = .ok (.invokevirtual 253, 3) := by decide +kernel
theorem dX7_ask_29 : decode cX7_ask 29 = .ok (.istore 4, 2) := by decide +kernel
theorem dX7_ask_31 : decode cX7_ask 31 = .ok (.iload 4, 2) := by decide +kernel
theorem dX7_ask_33 : decode cX7_ask 33 = .ok (.iload_n 2, 1) := by decide +kernel
theorem dX7_ask_34 : decode cX7_ask 34 = .ok (.if_icmp .ge 8, 3) := by decide +kernel
theorem dX7_ask_37 : decode cX7_ask 37 = .ok (.iload_n 3, 1) := by decide +kernel
theorem dX7_ask_38 : decode cX7_ask 38 = .ok (.istore_n 1, 1) := by decide +kernel
theorem dX7_ask_39 : decode cX7_ask 39 = .ok (.iload 4, 2) := by decide +kernel
theorem dX7_ask_41 : decode cX7_ask 41 = .ok (.istore_n 2, 1) := by decide +kernel
theorem dX7_ask_42 : decode cX7_ask 42 = .ok (.iinc 3 1, 3) := by decide +kernel
theorem dX7_ask_45 : decode cX7_ask 45 = .ok (.goto (-27), 3) := by decide +kernel
theorem dX7_ask_48 : decode cX7_ask 48 = .ok (.iload_n 1, 1) := by decide +kernel
theorem dX7_ask_49 : decode cX7_ask 49 = .ok (.ireturn, 1) := by decide +kernel
theorem dX7_shower_0 : decode cX7_shower 0 = .ok (.iload_n 1, 1) := by decide +kernel
theorem dX7_shower_1 : decode cX7_shower 1 = .ok (.iconst 0, 1) := by decide +kernel
theorem dX7_shower_2 : decode cX7_shower 2 = .ok (.bipush 16, 2) := by decide +kernel
theorem dX7_shower_4 : decode cX7_shower 4 = .ok (.invokestatic 97, 3) := by decide +kernel
theorem dX7_shower_7 : decode cX7_shower 7 = .ok (.ifCond .eq 20, 3) := by decide +kernel
theorem dX7_shower_10 : decode cX7_shower 10 = .ok (.aload_n 0, 1) := by decide +kernel
theorem dX7_shower_11 : decode cX7_shower 11 = .ok (.iload_n 2, 1) := by decide +kernel
theorem dX7_shower_12 : decode cX7_shower 12 = .ok (.invokevirtual 131, 3) := by decide +kernel
theorem dX7_shower_15 : decode cX7_shower 15 = .ok (.ifCond .eq 12, 3) := by decide +kernel
theorem dX7_shower_18 : decode cX7_shower 18 = .ok (.iload_n 3, 1) := by decide +kernel
theorem dX7_shower_19 : decode cX7_shower 19 = .ok (.iconst 0, 1) := by decide +kernel
theorem dX7_shower_20 : decode cX7_shower 20 = .ok (.iconst 1, 1) := by decide +kernel
theorem dX7_shower_21 : decode cX7_shower 21 = .ok (.invokestatic 97, 3) := by decide +kernel
theorem dX7_shower_24 : decode cX7_shower 24 = .ok (.ifCond .ne 7, 3) := by decide +kernel
theorem dX7_shower_27 : decode cX7_shower 27 = .ok (.ldc2_w 256, 3) := by decide +kernel
theorem dX7_shower_30 : decode cX7_shower 30 = .ok (.lreturn, 1) := by decide +kernel
theorem dX7_shower_31 : decode cX7_shower 31 = .ok (.aload_n 0, 1) := by decide +kernel
theorem dX7_shower_32 : decode cX7_shower 32 = .ok (.getfield 93, 3) := by decide +kernel
theorem dX7_shower_35 : decode cX7_shower 35 = .ok (.iload_n 1, 1) := by decide +kernel
theorem dX7_shower_36 : decode cX7_shower 36 = .ok (.if_icmp .eq 13, 3) := by decide +kernel
theorem dX7_shower_39 : decode cX7_shower 39 = .ok (.aload_n 0, 1) := by decide +kernel
theorem dX7_shower_40 : decode cX7_shower 40 = .ok (.iload_n 1, 1) := by decide +kernel
theorem dX7_shower_41 : decode cX7_shower 41 = .ok (.invokevirtual 258, 3) := by decide +kernel
theorem dX7_shower_44 : decode cX7_shower 44 = .ok (.aload_n 0, 1) := by decide +kernel
theorem dX7_shower_45 : decode cX7_shower 45 = .ok (.iload_n 1, 1) := by decide +kernel
theorem dX7_shower_46 : decode cX7_shower 46 = .ok (.putfield 93, 3) := by decide +kernel
theorem dX7_shower_49 : decode cX7_shower 49 = .ok (.aload_n 0, 1) := by decide +kernel
theorem dX7_shower_50 : decode cX7_shower 50 = .ok (.getfield 86, 3) := by decide +kernel
theorem dX7_shower_53 : decode cX7_shower 53 = .ok (.iload_n 2, 1) := by decide +kernel
theorem dX7_shower_54 : decode cX7_shower 54 = .ok (.laload, 1) := by decide +kernel
theorem dX7_shower_55 : decode cX7_shower 55 = .ok (.lstore 4, 2) := by decide +kernel
theorem dX7_shower_57 : decode cX7_shower 57 = .ok (.bipush 16, 2) := by decide +kernel
theorem dX7_shower_59 : decode cX7_shower 59 = .ok (.aload_n 0, 1) := by decide +kernel
theorem dX7_shower_60 : decode cX7_shower 60 = .ok (.getfield 18, 3) := by decide +kernel
theorem dX7_shower_63 : decode cX7_shower 63 = .ok (.getfield 105, 3) := by decide +kernel
theorem dX7_shower_66 : decode cX7_shower 66 = .ok (.invokestatic 261, 3) := by decide +kernel
theorem dX7_shower_69 : decode cX7_shower 69 = .ok (.lstore 6, 2) := by decide +kernel
theorem dX7_shower_71 : decode cX7_shower 71 = .ok (.iconst 0, 1) := by decide +kernel
theorem dX7_shower_72 : decode cX7_shower 72 = .ok (.istore 8, 2) := by decide +kernel
theorem dX7_shower_74 : decode cX7_shower 74 = .ok (.iload 8, 2) := by decide +kernel
theorem dX7_shower_76 : decode cX7_shower 76 = .ok (.iconst 4, 1) := by decide +kernel
theorem dX7_shower_77 : decode cX7_shower 77 = .ok (.aload_n 0, 1) := by decide +kernel
theorem dX7_shower_78 : decode cX7_shower 78 = .ok (.getfield 18, 3) := by decide +kernel
theorem dX7_shower_81 : decode cX7_shower 81 = .ok (.getfield 105, 3) := by decide +kernel
theorem dX7_shower_84 : decode cX7_shower 84 = .ok (.imul, 1) := by decide +kernel
theorem dX7_shower_85 : decode cX7_shower 85 = .ok (.if_icmp .ge 36, 3) := by decide +kernel
theorem dX7_shower_88 : decode cX7_shower 88 = .ok (.lload 4, 2) := by decide +kernel
theorem dX7_shower_90 : decode cX7_shower 90 = .ok (.ldc2_w 265, 3) := by decide +kernel
theorem dX7_shower_93 : decode cX7_shower 93 = .ok (.lrem, 1) := by decide +kernel
theorem dX7_shower_94 : decode cX7_shower 94 = .ok (.lconst 0, 1) := by decide +kernel
theorem dX7_shower_95 : decode cX7_shower 95 = .ok (.lcmp, 1) := by decide +kernel
theorem dX7_shower_96 : decode cX7_shower 96 = .ok (.ifCond .ne 25, 3) := by decide +kernel
theorem dX7_shower_99 : decode cX7_shower 99 = .ok (.lload 4, 2) := by decide +kernel
theorem dX7_shower_101 : decode cX7_shower 101 = .ok (.ldc2_w 265, 3) := by decide +kernel
theorem dX7_shower_104 : decode cX7_shower 104 = .ok (.ldiv, 1) := by decide +kernel
theorem dX7_shower_105 : decode cX7_shower 105 = .ok (.lstore 4, 2) := by decide +kernel
theorem dX7_shower_107 : decode cX7_shower 107 = .ok (.lload 6, 2) := by decide +kernel
theorem dX7_shower_109 : decode cX7_shower 109 = .ok (.ldc2_w 265, 3) := by decide +kernel
theorem dX7_shower_112 : decode cX7_shower 112 = .ok (.ldiv, 1) := by decide +kernel
theorem dX7_shower_113 : decode cX7_shower 113 = .ok (.lstore 6, 2) := by decide +kernel
theorem dX7_shower_115 : decode cX7_shower 115 = .ok (.iinc 8 1, 3) := by decide +kernel
theorem dX7_shower_118 : decode cX7_shower 118 = .ok (.goto (-44), 3) := by decide +kernel
theorem dX7_shower_121 : decode cX7_shower 121 = .ok (.iload_n 3, 1) := by decide +kernel
theorem dX7_shower_122 : decode cX7_shower 122 = .ok (.ifCond .ne 8, 3) := by decide +kernel
theorem dX7_shower_125 : decode cX7_shower 125 = .ok (.lload 4, 2) := by decide +kernel
theorem dX7_shower_127 : decode cX7_shower 127 = .ok (.goto 5, 3) := by decide +kernel
theorem dX7_shower_130 : decode cX7_shower 130 = .ok (.lload 6, 2) := by decide +kernel
theorem dX7_shower_132 : decode cX7_shower 132 = .ok (.lreturn, 1) := by decide +kernel
theorem dX7_moon_0 : decode cX7_moon 0 = .ok (.iload_n 2, 1) := by decide +kernel
theorem dX7_moon_1 : decode cX7_moon 1 = .ok (.iconst 0, 1) := by decide +kernel
theorem dX7_moon_2 : decode cX7_moon 2 = .ok (.bipush 40, 2) := by decide +kernel
theorem dX7_moon_4 : decode cX7_moon 4 = .ok (.invokestatic 97, 3) := by decide +kernel
theorem dX7_moon_7 : decode cX7_moon 7 = .ok (.ifCond .eq 12, 3) := by decide +kernel
theorem dX7_moon_10 : decode cX7_moon 10 = .ok (.iload_n 3, 1) := by decide +kernel
theorem dX7_moon_11 : decode cX7_moon 11 = .ok (.iconst 0, 1) := by decide +kernel
theorem dX7_moon_12 : decode cX7_moon 12 = .ok (.iconst 1, 1) := by decide +kernel
theorem dX7_moon_13 : decode cX7_moon 13 = .ok (.invokestatic 97, 3) := by decide +kernel
theorem dX7_moon_16 : decode cX7_moon 16 = .ok (.ifCond .ne 6, 3) := by decide +kernel
theorem dX7_moon_19 : decode cX7_moon 19 = .ok (.bipush (-2), 2) := by decide +kernel
theorem dX7_moon_21 : decode cX7_moon 21 = .ok (.ireturn, 1) := by decide +kernel
theorem dX7_moon_22 : decode cX7_moon 22 = .ok (.aload_n 0, 1) := by decide +kernel
theorem dX7_moon_23 : decode cX7_moon 23 = .ok (.invokevirtual 125, 3) := by decide +kernel
theorem dX7_moon_26 : decode cX7_moon 26 = .ok (.aload_n 0, 1) := by decide +kernel
theorem dX7_moon_27 : decode cX7_moon 27 = .ok (.getfield 73, 3) := by decide +kernel
theorem dX7_moon_30 : decode cX7_moon 30 = .ok (.aload_n 0, 1) := by decide +kernel
theorem dX7_moon_31 : decode cX7_moon 31 = .ok (.getfield 62, 3) := by decide +kernel
theorem dX7_moon_34 : decode cX7_moon 34 = .ok (.invokevirtual 224, 3) := by decide +kernel
theorem dX7_moon_37 : decode cX7_moon 37 = .ok (.iload_n 1, 1) := by decide +kernel
theorem dX7_moon_38 : decode cX7_moon 38 = .ok (.istore 4, 2) := by decide +kernel
theorem dX7_moon_40 : decode cX7_moon 40 = .ok (.iconst 0, 1) := by decide +kernel
theorem dX7_moon_41 : decode cX7_moon 41 = .ok (.istore 5, 2) := by decide +kernel
theorem dX7_moon_43 : decode cX7_moon 43 = .ok (.iload 5, 2) := by decide +kernel
theorem dX7_moon_45 : decode cX7_moon 45 = .ok (.bipush 40, 2) := by decide +kernel
theorem dX7_moon_47 : decode cX7_moon 47 = .ok (.if_icmp .ge 51, 3) := by decide +kernel
theorem dX7_moon_50 : decode cX7_moon 50 = .ok (.ldc_w 267, 3) := by decide +kernel
theorem dX7_moon_53 : decode cX7_moon 53 = .ok (.iload 4, 2) := by decide +kernel
theorem dX7_moon_55 : decode cX7_moon 55 = .ok (.imul, 1) := by decide +kernel
theorem dX7_moon_56 : decode cX7_moon 56 = .ok (.sipush 12345, 3) := by decide +kernel
theorem dX7_moon_59 : decode cX7_moon 59 = .ok (.iadd, 1) := by decide +kernel
theorem dX7_moon_60 : decode cX7_moon 60 = .ok (.istore 4, 2) := by decide +kernel
theorem dX7_moon_62 : decode cX7_moon 62 = .ok (.aload_n 0, 1) := by decide +kernel
theorem dX7_moon_63 : decode cX7_moon 63 = .ok (.getfield 73, 3) := by decide +kernel
theorem dX7_moon_66 : decode cX7_moon 66 = .ok (.getfield 128, 3) := by decide +kernel
theorem dX7_moon_69 : decode cX7_moon 69 = .ok (.iload 5, 2) := by decide +kernel
theorem dX7_moon_71 : decode cX7_moon 71 = .ok (.iload 5, 2) := by decide +kernel
theorem dX7_moon_73 : decode cX7_moon 73 = .ok (.iload_n 2, 1) := by decide +kernel
theorem dX7_moon_74 : decode cX7_moon 74 = .ok (.if_icmp .ge 16, 3) := by decide +kernel
theorem dX7_moon_77 : decode cX7_moon 77 = .ok (.iconst 2, 1) := by decide +kernel
theorem dX7_moon_78 : decode cX7_moon 78 = .ok (.iload 4, 2) := by decide +kernel
theorem dX7_moon_80 : decode cX7_moon 80 = .ok (.bipush 16, 2) := by decide +kernel
theorem dX7_moon_82 : decode cX7_moon 82 = .ok (.iushr, 1) := by decide +kernel
theorem dX7_moon_83 : decode cX7_moon 83 = .ok (.bipush 10, 2) := by decide +kernel
theorem dX7_moon_85 : decode cX7_moon 85 = .ok (.irem, 1) := by decide +kernel
theorem dX7_moon_86 : decode cX7_moon 86 = .ok (.imul, 1) := by decide +kernel
theorem dX7_moon_87 : decode cX7_moon 87 = .ok (.goto 4, 3) := by decide +kernel
theorem dX7_moon_90 : decode cX7_moon 90 = .ok (.iconst 0, 1) := by decide +kernel
theorem dX7_moon_91 : decode cX7_moon 91 = .ok (.iastore, 1) := by decide +kernel
theorem dX7_moon_92 : decode cX7_moon 92 = .ok (.iinc 5 1, 3) := by decide +kernel
theorem dX7_moon_95 : decode cX7_moon 95 = .ok (.goto (-52), 3) := by decide +kernel
theorem dX7_moon_98 : decode cX7_moon 98 = .ok (.aload_n 0, 1) := by decide +kernel
theorem dX7_moon_99 : decode cX7_moon 99 = .ok (.getfield 76, 3) := by decide +kernel
theorem dX7_moon_102 : decode cX7_moon 102 = .ok (.aload_n 0, 1) := by decide +kernel
theorem dX7_moon_103 : decode cX7_moon 103 = .ok (.getfield 73, 3) := by decide +kernel
theorem dX7_moon_106 : decode cX7_moon 106 = .ok (.invokevirtual 229, 3) := by decide +kernel
theorem dX7_moon_109 : decode cX7_moon 109 = .ok (.iload_n 3, 1) := by decide +kernel
theorem dX7_moon_110 : decode cX7_moon 110 = .ok (.ifCond .ne 13, 3) := by decide +kernel
theorem dX7_moon_113 : decode cX7_moon 113 = .ok (.aload_n 0, 1) := by decide +kernel
theorem dX7_moon_114 : decode cX7_moon 114 = .ok (.getfield 76, 3) := by decide +kernel
theorem dX7_moon_117 : decode cX7_moon 117 = .ok (.invokevirtual 232, 3) := by decide +kernel
theorem dX7_moon_120 : decode cX7_moon 120 = .ok (.goto 14, 3) := by decide +kernel
theorem dX7_moon_123 : decode cX7_moon 123 = .ok (.aload_n 0, 1) := by decide +kernel
theorem dX7_moon_124 : decode cX7_moon 124 = .ok (.getfield 76, 3) := by decide +kernel
theorem dX7_moon_127 : decode cX7_moon 127 = .ok (.aload_n 0, 1) := by decide +kernel
theorem dX7_moon_128 : decode cX7_moon 128 = .ok (.getfield 41, 3) := by decide +kernel
theorem dX7_moon_131 : decode cX7_moon 131 = .ok (.invokevirtual 189, 3) := by decide +kernel
theorem dX7_moon_134 : decode cX7_moon 134 = .ok (.ireturn, 1) := by decide +kernel
theorem dX7_sheet_0 : decode cX7_sheet 0 = .ok (.iload_n 1, 1) := by decide +kernel
theorem dX7_sheet_1 : decode cX7_sheet 1 = .ok (.invokestatic 152, 3) := by decide +kernel
theorem dX7_sheet_4 : decode cX7_sheet 4 = .ok (.ifCond .eq 16, 3) := by decide +kernel
theorem dX7_sheet_7 : decode cX7_sheet 7 = .ok (.iload_n 2, 1) := by decide +kernel
theorem dX7_sheet_8 : decode cX7_sheet 8 = .ok (.invokestatic 268, 3) := by decide +kernel
theorem dX7_sheet_11 : decode cX7_sheet 11 = .ok (.ifCond .eq 9, 3) := by decide +kernel
theorem dX7_sheet_14 : decode cX7_sheet 14 = .ok (.iload_n 3, 1) := by decide +kernel
theorem dX7_sheet_15 : decode cX7_sheet 15 = .ok (.bipush 60, 2) := by decide +kernel
theorem dX7_sheet_17 : decode cX7_sheet 17 = .ok (.if_icmp .le 6, 3) := by decide +kernel
theorem dX7_sheet_20 : decode cX7_sheet 20 = .ok (.bipush (-2), 2) := by decide +kernel
theorem dX7_sheet_22 : decode cX7_sheet 22 = .ok (.ireturn, 1) := by decide +kernel
theorem dX7_sheet_23 : decode cX7_sheet 23 = .ok (.iload_n 3, 1) := by decide +kernel
theorem dX7_sheet_24 : decode cX7_sheet 24 = .ok (.ifCond .ge 9, 3) := by decide +kernel
theorem dX7_sheet_27 : decode cX7_sheet 27 = .ok (.aload_n 0, 1) := by decide +kernel
theorem dX7_sheet_28 : decode cX7_sheet 28 = .ok (.iconst 5, 1) := by decide +kernel
theorem dX7_sheet_29 : decode cX7_sheet 29 = .ok (.invokevirtual 159, 3) := by decide +kernel
theorem dX7_sheet_32 : decode cX7_sheet 32 = .ok (.ireturn, 1) := by decide +kernel
theorem dX7_sheet_33 : decode cX7_sheet 33 = .ok (.aload_n 0, 1) := by decide +kernel
theorem dX7_sheet_34 : decode cX7_sheet 34 = .ok (.getfield 34, 3) := by decide +kernel
theorem dX7_sheet_37 : decode cX7_sheet 37 = .ok (.iload_n 1, 1) := by decide +kernel
theorem dX7_sheet_38 : decode cX7_sheet 38 = .ok (.aaload, 1) := by decide +kernel
theorem dX7_sheet_39 : decode cX7_sheet 39 = .ok (.iload_n 2, 1) := by decide +kernel
theorem dX7_sheet_40 : decode cX7_sheet 40 = .ok (.iload_n 3, 1) := by decide +kernel
theorem dX7_sheet_41 : decode cX7_sheet 41 = .ok (.invokevirtual 271, 3) := by decide +kernel
theorem dX7_sheet_44 : decode cX7_sheet 44 = .ok (.iload_n 3, 1) := by decide +kernel
theorem dX7_sheet_45 : decode cX7_sheet 45 = .ok (.ireturn, 1) := by decide +kernel
theorem dX7_lose_0 : decode cX7_lose 0 = .ok (.iload_n 1, 1) := by decide +kernel
theorem dX7_lose_1 : decode cX7_lose 1 = .ok (.invokestatic 152, 3) := by decide +kernel
theorem dX7_lose_4 : decode cX7_lose 4 = .ok (.ifCond .ne 6, 3) := by decide +kernel
theorem dX7_lose_7 : decode cX7_lose 7 = .ok (.bipush (-2), 2) := by decide +kernel
theorem dX7_lose_9 : decode cX7_lose 9 = .ok (.ireturn, 1) := by decide +kernel
theorem dX7_lose_10 : decode cX7_lose 10 = .ok (.aload_n 0, 1) := by decide +kernel
theorem dX7_lose_11 : decode cX7_lose 11 = .ok (.getfield 34, 3) := by decide +kernel
theorem dX7_lose_14 : decode cX7_lose 14 = .ok (.iload_n 1, 1) := by decide +kernel
theorem dX7_lose_15 : decode cX7_lose 15 = .ok (.aaload, 1) := by decide +kernel
theorem dX7_lose_16 : decode cX7_lose 16 = .ok (.astore_n 2, 1) := by decide +kernel
theorem dX7_lose_17 : decode cX7_lose 17 = .ok (.aload_n 2, 1) := by decide +kernel
theorem dX7_lose_18 : decode cX7_lose 18 = .ok (.invokevirtual 155, 3) := by decide +kernel
end
section
theorem dX7_lose_21 : decode cX7_lose 21 = .ok (.ifCond .eq 9, 3) := by decide +kernel
theorem dX7_lose_24 : decode cX7_lose 24 = .ok (.aload_n 0, 1) := by decide +kernel
theorem dX7_lose_25 : decode cX7_lose 25 = .ok (.iconst 1, 1) := by decide +kernel
theorem dX7_lose_26 : decode cX7_lose 26 = .ok (.invokevirtual 159, 3) := by decide +kernel
theorem dX7_lose_29 : decode cX7_lose 29 = .ok (.ireturn, 1) := by decide +kernel
theorem dX7_lose_30 : decode cX7_lose 30 = .ok (.aload_n 2, 1) := by decide +kernel
theorem dX7_lose_31 : decode cX7_lose 31 = .ok (.getfield 163, 3) := by decide +kernel
theorem dX7_lose_34 : decode cX7_lose 34 = .ok (.istore_n 3, 1) := by decide +kernel
theorem dX7_lose_35 : decode cX7_lose 35 = .ok (.aload_n 2, 1) := by decide +kernel
theorem dX7_lose_36 : decode cX7_lose 36 = .ok (.iconst (-1), 1) := by decide +kernel
theorem dX7_lose_37 : decode cX7_lose 37 = .ok (.iconst 0, 1) := by decide +kernel
theorem dX7_lose_38 : decode cX7_lose 38 = .ok (.invokevirtual 271, 3) := by decide +kernel
theorem dX7_lose_41 : decode cX7_lose 41 = .ok (.iload_n 3, 1) := by decide +kernel
theorem dX7_lose_42 : decode cX7_lose 42 = .ok (.ireturn, 1) := by decide +kernel
theorem dX7_put_0 : decode cX7_put 0 = .ok (.iload_n 1, 1) := by decide +kernel
theorem dX7_put_1 : decode cX7_put 1 = .ok (.invokestatic 152, 3) := by decide +kernel
theorem dX7_put_4 : decode cX7_put 4 = .ok (.ifCond .eq 10, 3) := by decide +kernel
theorem dX7_put_7 : decode cX7_put 7 = .ok (.iload_n 2, 1) := by decide +kernel
theorem dX7_put_8 : decode cX7_put 8 = .ok (.invokestatic 268, 3) := by decide +kernel
theorem dX7_put_11 : decode cX7_put 11 = .ok (.ifCond .ne 6, 3) := by decide +kernel
theorem dX7_put_14 : decode cX7_put 14 = .ok (.bipush (-2), 2) := by decide +kernel
theorem dX7_put_16 : decode cX7_put 16 = .ok (.ireturn, 1) := by decide +kernel
theorem dX7_put_17 : decode cX7_put 17 = .ok (.aload_n 0, 1) := by decide +kernel
theorem dX7_put_18 : decode cX7_put 18 = .ok (.getfield 34, 3) := by decide +kernel
theorem dX7_put_21 : decode cX7_put 21 = .ok (.iload_n 1, 1) := by decide +kernel
theorem dX7_put_22 : decode cX7_put 22 = .ok (.aaload, 1) := by decide +kernel
theorem dX7_put_23 : decode cX7_put 23 = .ok (.iload_n 2, 1) := by decide +kernel
theorem dX7_put_24 : decode cX7_put 24 = .ok (.iload_n 3, 1) := by decide +kernel
theorem dX7_put_25 : decode cX7_put 25 = .ok (.invokevirtual 275, 3) := by decide +kernel
theorem dX7_put_28 : decode cX7_put 28 = .ok (.istore 5, 2) := by decide +kernel
theorem dX7_put_30 : decode cX7_put 30 = .ok (.iload 5, 2) := by decide +kernel
theorem dX7_put_32 : decode cX7_put 32 = .ok (.ifCond .eq 10, 3) := by decide +kernel
theorem dX7_put_35 : decode cX7_put 35 = .ok (.aload_n 0, 1) := by decide +kernel
theorem dX7_put_36 : decode cX7_put 36 = .ok (.iload 5, 2) := by decide +kernel
theorem dX7_put_38 : decode cX7_put 38 = .ok (.invokevirtual 159, 3) := by decide +kernel
theorem dX7_put_41 : decode cX7_put 41 = .ok (.ireturn, 1) := by decide +kernel
theorem dX7_put_42 : decode cX7_put 42 = .ok (.aload_n 0, 1) := by decide +kernel
theorem dX7_put_43 : decode cX7_put 43 = .ok (.getfield 34, 3) := by decide +kernel
theorem dX7_put_46 : decode cX7_put 46 = .ok (.iload_n 1, 1) := by decide +kernel
theorem dX7_put_47 : decode cX7_put 47 = .ok (.aaload, 1) := by decide +kernel
theorem dX7_put_48 : decode cX7_put 48 = .ok (.iload_n 3, 1) := by decide +kernel
theorem dX7_put_49 : decode cX7_put 49 = .ok (.iload 4, 2) := by decide +kernel
theorem dX7_put_51 : decode cX7_put 51 = .ok (.invokevirtual 279, 3) := by decide +kernel
theorem dX7_put_54 : decode cX7_put 54 = .ok (.iconst 1, 1) := by decide +kernel
theorem dX7_put_55 : decode cX7_put 55 = .ok (.ireturn, 1) := by decide +kernel
theorem dX7_get_0 : decode cX7_get 0 = .ok (.iload_n 1, 1) := by decide +kernel
theorem dX7_get_1 : decode cX7_get 1 = .ok (.invokestatic 152, 3) := by decide +kernel
theorem dX7_get_4 : decode cX7_get 4 = .ok (.ifCond .eq 10, 3) := by decide +kernel
theorem dX7_get_7 : decode cX7_get 7 = .ok (.iload_n 2, 1) := by decide +kernel
theorem dX7_get_8 : decode cX7_get 8 = .ok (.invokestatic 268, 3) := by decide +kernel
theorem dX7_get_11 : decode cX7_get 11 = .ok (.ifCond .ne 7, 3) := by decide +kernel
theorem dX7_get_14 : decode cX7_get 14 = .ok (.ldc_w 282, 3) := by decide +kernel
theorem dX7_get_17 : decode cX7_get 17 = .ok (.ireturn, 1) := by decide +kernel
theorem dX7_get_18 : decode cX7_get 18 = .ok (.aload_n 0, 1) := by decide +kernel
theorem dX7_get_19 : decode cX7_get 19 = .ok (.getfield 34, 3) := by decide +kernel
theorem dX7_get_22 : decode cX7_get 22 = .ok (.iload_n 1, 1) := by decide +kernel
theorem dX7_get_23 : decode cX7_get 23 = .ok (.aaload, 1) := by decide +kernel
theorem dX7_get_24 : decode cX7_get 24 = .ok (.iload_n 2, 1) := by decide +kernel
theorem dX7_get_25 : decode cX7_get 25 = .ok (.iload_n 3, 1) := by decide +kernel
theorem dX7_get_26 : decode cX7_get 26 = .ok (.invokevirtual 275, 3) := by decide +kernel
theorem dX7_get_29 : decode cX7_get 29 = .ok (.istore 4, 2) := by decide +kernel
theorem dX7_get_31 : decode cX7_get 31 = .ok (.iload 4, 2) := by decide +kernel
theorem dX7_get_33 : decode cX7_get 33 = .ok (.ifCond .eq 13, 3) := by decide +kernel
theorem dX7_get_36 : decode cX7_get 36 = .ok (.aload_n 0, 1) := by decide +kernel
theorem dX7_get_37 : decode cX7_get 37 = .ok (.iload 4, 2) := by decide +kernel
theorem dX7_get_39 : decode cX7_get 39 = .ok (.putfield 283, 3) := by decide +kernel
theorem dX7_get_42 : decode cX7_get 42 = .ok (.ldc_w 282, 3) := by decide +kernel
theorem dX7_get_45 : decode cX7_get 45 = .ok (.ireturn, 1) := by decide +kernel
theorem dX7_get_46 : decode cX7_get 46 = .ok (.aload_n 0, 1) := by decide +kernel
theorem dX7_get_47 : decode cX7_get 47 = .ok (.getfield 34, 3) := by decide +kernel
theorem dX7_get_50 : decode cX7_get 50 = .ok (.iload_n 1, 1) := by decide +kernel
theorem dX7_get_51 : decode cX7_get 51 = .ok (.aaload, 1) := by decide +kernel
theorem dX7_get_52 : decode cX7_get 52 = .ok (.getfield 164, 3) := by decide +kernel
theorem dX7_get_55 : decode cX7_get 55 = .ok (.iload_n 3, 1) := by decide +kernel
theorem dX7_get_56 : decode cX7_get 56 = .ok (.iaload, 1) := by decide +kernel
theorem dX7_get_57 : decode cX7_get 57 = .ok (.ireturn, 1) := by decide +kernel
theorem dX7_copy_0 : decode cX7_copy 0 = .ok (.iload_n 1, 1) := by decide +kernel
theorem dX7_copy_1 : decode cX7_copy 1 = .ok (.invokestatic 152, 3) := by decide +kernel
theorem dX7_copy_4 : decode cX7_copy 4 = .ok (.ifCond .eq 10, 3) := by decide +kernel
theorem dX7_copy_7 : decode cX7_copy 7 = .ok (.iload_n 3, 1) := by decide +kernel
theorem dX7_copy_8 : decode cX7_copy 8 = .ok (.invokestatic 152, 3) := by decide +kernel
theorem dX7_copy_11 : decode cX7_copy 11 = .ok (.ifCond .ne 6, 3) := by decide +kernel
theorem dX7_copy_14 : decode cX7_copy 14 = .ok (.bipush (-2), 2) := by decide +kernel
theorem dX7_copy_16 : decode cX7_copy 16 = .ok (.ireturn, 1) := by decide +kernel
theorem dX7_copy_17 : decode cX7_copy 17 = .ok (.aload_n 0, 1) := by decide +kernel
theorem dX7_copy_18 : decode cX7_copy 18 = .ok (.getfield 34, 3) := by decide +kernel
theorem dX7_copy_21 : decode cX7_copy 21 = .ok (.iload_n 1, 1) := by decide +kernel
theorem dX7_copy_22 : decode cX7_copy 22 = .ok (.aaload, 1) := by decide +kernel
theorem dX7_copy_23 : decode cX7_copy 23 = .ok (.astore 6, 2) := by decide +kernel
theorem dX7_copy_25 : decode cX7_copy 25 = .ok (.aload_n 0, 1) := by decide +kernel
theorem dX7_copy_26 : decode cX7_copy 26 = .ok (.getfield 34, 3) := by decide +kernel
theorem dX7_copy_29 : decode cX7_copy 29 = .ok (.iload_n 3, 1) := by decide +kernel
theorem dX7_copy_30 : decode cX7_copy 30 = .ok (.aaload, 1) := by decide +kernel
theorem dX7_copy_31 : decode cX7_copy 31 = .ok (.astore 7, 2) := by decide +kernel
theorem dX7_copy_33 : decode cX7_copy 33 = .ok (.aload 6, 2) := by decide +kernel
theorem dX7_copy_35 : decode cX7_copy 35 = .ok (.invokevirtual 155, 3) := by decide +kernel
theorem dX7_copy_38 : decode cX7_copy 38 = .ok (.ifCond .ne 11, 3) := by decide +kernel
theorem dX7_copy_41 : decode cX7_copy 41 = .ok (.aload 7, 2) := by decide +kernel
theorem dX7_copy_43 : decode cX7_copy 43 = .ok (.invokevirtual 155, 3) := by decide +kernel
theorem dX7_copy_46 : decode cX7_copy 46 = .ok (.ifCond .eq 9, 3) := by decide +kernel
theorem dX7_copy_49 : decode cX7_copy 49 = .ok (.aload_n 0, 1) := by decide +kernel
theorem dX7_copy_50 : decode cX7_copy 50 = .ok (.iconst 1, 1) := by decide +kernel
theorem dX7_copy_51 : decode cX7_copy 51 = .ok (.invokevirtual 159, 3) := by decide +kernel
theorem dX7_copy_54 : decode cX7_copy 54 = .ok (.ireturn, 1) := by decide +kernel
theorem dX7_copy_55 : decode cX7_copy 55 = .ok (.aload 6, 2) := by decide +kernel
theorem dX7_copy_57 : decode cX7_copy 57 = .ok (.getfield 286, 3) := by decide +kernel
theorem dX7_copy_60 : decode cX7_copy 60 = .ok (.aload 7, 2) := by decide +kernel
theorem dX7_copy_62 : decode cX7_copy 62 = .ok (.getfield 286, 3) := by decide +kernel
theorem dX7_copy_65 : decode cX7_copy 65 = .ok (.if_icmp .eq 9, 3) := by decide +kernel
theorem dX7_copy_68 : decode cX7_copy 68 = .ok (.aload_n 0, 1) := by decide +kernel
theorem dX7_copy_69 : decode cX7_copy 69 = .ok (.iconst 4, 1) := by decide +kernel
theorem dX7_copy_70 : decode cX7_copy 70 = .ok (.invokevirtual 159, 3) := by decide +kernel
theorem dX7_copy_73 : decode cX7_copy 73 = .ok (.ireturn, 1) := by decide +kernel
theorem dX7_copy_74 : decode cX7_copy 74 = .ok (.aload 6, 2) := by decide +kernel
theorem dX7_copy_76 : decode cX7_copy 76 = .ok (.iload_n 2, 1) := by decide +kernel
theorem dX7_copy_77 : decode cX7_copy 77 = .ok (.iload 5, 2) := by decide +kernel
theorem dX7_copy_79 : decode cX7_copy 79 = .ok (.invokevirtual 289, 3) := by decide +kernel
theorem dX7_copy_82 : decode cX7_copy 82 = .ok (.ifCond .eq 15, 3) := by decide +kernel
theorem dX7_copy_85 : decode cX7_copy 85 = .ok (.aload 7, 2) := by decide +kernel
theorem dX7_copy_87 : decode cX7_copy 87 = .ok (.iload 4, 2) := by decide +kernel
theorem dX7_copy_89 : decode cX7_copy 89 = .ok (.iload 5, 2) := by decide +kernel
theorem dX7_copy_91 : decode cX7_copy 91 = .ok (.invokevirtual 289, 3) := by decide +kernel
theorem dX7_copy_94 : decode cX7_copy 94 = .ok (.ifCond .ne 9, 3) := by decide +kernel
theorem dX7_copy_97 : decode cX7_copy 97 = .ok (.aload_n 0, 1) := by decide +kernel
theorem dX7_copy_98 : decode cX7_copy 98 = .ok (.iconst 2, 1) := by decide +kernel
theorem dX7_copy_99 : decode cX7_copy 99 = .ok (.invokevirtual 159, 3) := by decide +kernel
theorem dX7_copy_102 : decode cX7_copy 102 = .ok (.ireturn, 1) := by decide +kernel
theorem dX7_copy_103 : decode cX7_copy 103 = .ok (.aload 6, 2) := by decide +kernel
theorem dX7_copy_105 : decode cX7_copy 105 = .ok (.getfield 164, 3) := by decide +kernel
theorem dX7_copy_108 : decode cX7_copy 108 = .ok (.iload_n 2, 1) := by decide +kernel
theorem dX7_copy_109 : decode cX7_copy 109 = .ok (.aload 7, 2) := by decide +kernel
theorem dX7_copy_111 : decode cX7_copy 111 = .ok (.getfield 164, 3) := by decide +kernel
theorem dX7_copy_114 : decode cX7_copy 114 = .ok (.iload 4, 2) := by decide +kernel
theorem dX7_copy_116 : decode cX7_copy 116 = .ok (.iload 5, 2) := by decide +kernel
theorem dX7_copy_118 : decode cX7_copy 118 = .ok (.invokestatic 293, 3) := by decide +kernel
theorem dX7_copy_121 : decode cX7_copy 121 = .ok (.iconst 1, 1) := by decide +kernel
theorem dX7_copy_122 : decode cX7_copy 122 = .ok (.ireturn, 1) := by decide +kernel
theorem dX7_write_0 : decode cX7_write 0 = .ok (.iload_n 1, 1) := by decide +kernel
theorem dX7_write_1 : decode cX7_write 1 = .ok (.invokestatic 152, 3) := by decide +kernel
theorem dX7_write_4 : decode cX7_write 4 = .ok (.ifCond .ne 6, 3) := by decide +kernel
theorem dX7_write_7 : decode cX7_write 7 = .ok (.bipush (-2), 2) := by decide +kernel
theorem dX7_write_9 : decode cX7_write 9 = .ok (.ireturn, 1) := by decide +kernel
theorem dX7_write_10 : decode cX7_write 10 = .ok (.aload_n 0, 1) := by decide +kernel
theorem dX7_write_11 : decode cX7_write 11 = .ok (.getfield 34, 3) := by decide +kernel
theorem dX7_write_14 : decode cX7_write 14 = .ok (.iload_n 1, 1) := by decide +kernel
theorem dX7_write_15 : decode cX7_write 15 = .ok (.aaload, 1) := by decide +kernel
theorem dX7_write_16 : decode cX7_write 16 = .ok (.astore_n 2, 1) := by decide +kernel
theorem dX7_write_17 : decode cX7_write 17 = .ok (.aload_n 2, 1) := by decide +kernel
theorem dX7_write_18 : decode cX7_write 18 = .ok (.invokevirtual 155, 3) := by decide +kernel
theorem dX7_write_21 : decode cX7_write 21 = .ok (.ifCond .eq 9, 3) := by decide +kernel
theorem dX7_write_24 : decode cX7_write 24 = .ok (.aload_n 0, 1) := by decide +kernel
theorem dX7_write_25 : decode cX7_write 25 = .ok (.iconst 1, 1) := by decide +kernel
theorem dX7_write_26 : decode cX7_write 26 = .ok (.invokevirtual 159, 3) := by decide +kernel
theorem dX7_write_29 : decode cX7_write 29 = .ok (.ireturn, 1) := by decide +kernel
theorem dX7_write_30 : decode cX7_write 30 = .ok (.aload_n 0, 1) := by decide +kernel
theorem dX7_write_31 : decode cX7_write 31 = .ok (.invokevirtual 125, 3) := by decide +kernel
theorem dX7_write_34 : decode cX7_write 34 = .ok (.aload_n 2, 1) := by decide +kernel
theorem dX7_write_35 : decode cX7_write 35 = .ok (.getfield 163, 3) := by decide +kernel
theorem dX7_write_38 : decode cX7_write 38 = .ok (.bipush 40, 2) := by decide +kernel
theorem dX7_write_40 : decode cX7_write 40 = .ok (.invokestatic 299, 3) := by decide +kernel
theorem dX7_write_43 : decode cX7_write 43 = .ok (.istore_n 3, 1) := by decide +kernel
theorem dX7_write_44 : decode cX7_write 44 = .ok (.iconst 0, 1) := by decide +kernel
theorem dX7_write_45 : decode cX7_write 45 = .ok (.istore 4, 2) := by decide +kernel
theorem dX7_write_47 : decode cX7_write 47 = .ok (.iload 4, 2) := by decide +kernel
theorem dX7_write_49 : decode cX7_write 49 = .ok (.iload_n 3, 1) := by decide +kernel
theorem dX7_write_50 : decode cX7_write 50 = .ok (.if_icmp .ge 25, 3) := by decide +kernel
theorem dX7_write_53 : decode cX7_write 53 = .ok (.aload_n 2, 1) := by decide +kernel
theorem dX7_write_54 : decode cX7_write 54 = .ok (.iload 4, 2) := by decide +kernel
theorem dX7_write_56 : decode cX7_write 56 = .ok (.aload_n 0, 1) := by decide +kernel
theorem dX7_write_57 : decode cX7_write 57 = .ok (.getfield 69, 3) := by decide +kernel
theorem dX7_write_60 : decode cX7_write 60 = .ok (.getfield 173, 3) := by decide +kernel
theorem dX7_write_63 : decode cX7_write 63 = .ok (.iload 4, 2) := by decide +kernel
theorem dX7_write_65 : decode cX7_write 65 = .ok (.iaload, 1) := by decide +kernel
theorem dX7_write_66 : decode cX7_write 66 = .ok (.invokevirtual 279, 3) := by decide +kernel
theorem dX7_write_69 : decode cX7_write 69 = .ok (.iinc 4 1, 3) := by decide +kernel
theorem dX7_write_72 : decode cX7_write 72 = .ok (.goto (-25), 3) := by decide +kernel
theorem dX7_write_75 : decode cX7_write 75 = .ok (.iload_n 3, 1) := by decide +kernel
theorem dX7_write_76 : decode cX7_write 76 = .ok (.ireturn, 1) := by decide +kernel
theorem dX7_count_0 : decode cX7_count 0 = .ok (.aload_n 0, 1) := by decide +kernel
theorem dX7_count_1 : decode cX7_count 1 = .ok (.invokevirtual 125, 3) := by decide +kernel
theorem dX7_count_4 : decode cX7_count 4 = .ok (.iload_n 1, 1) := by decide +kernel
theorem dX7_count_5 : decode cX7_count 5 = .ok (.tableswitch 143 0 8 #[51, 78, 86, 96, 106, 114, 122, 130, 138], 51) := by decide +kernel
theorem dX7_count_56 : decode cX7_count 56 = .ok (.aload_n 0, 1) := by decide +kernel
theorem dX7_count_57 : decode cX7_count 57 = .ok (.getfield 14, 3) := by decide +kernel
theorem dX7_count_60 : decode cX7_count 60 = .ok (.iconst 0, 1) := by decide +kernel
theorem dX7_count_61 : decode cX7_count 61 = .ok (.aaload, 1) := by decide +kernel
theorem dX7_count_62 : decode cX7_count 62 = .ok (.invokestatic 115, 3) := by decide +kernel
theorem dX7_count_65 : decode cX7_count 65 = .ok (.iconst (-1), 1) := by decide +kernel
theorem dX7_count_66 : decode cX7_count 66 = .ok (.if_icmp .ne 15, 3) := by decide +kernel
theorem dX7_count_69 : decode cX7_count 69 = .ok (.aload_n 0, 1) := by decide +kernel
theorem dX7_count_70 : decode cX7_count 70 = .ok (.getfield 14, 3) := by decide +kernel
theorem dX7_count_73 : decode cX7_count 73 = .ok (.iconst 0, 1) := by decide +kernel
theorem dX7_count_74 : decode cX7_count 74 = .ok (.aaload, 1) := by decide +kernel
theorem dX7_count_75 : decode cX7_count 75 = .ok (.getfield 105, 3) := by decide +kernel
theorem dX7_count_78 : decode cX7_count 78 = .ok (.goto 4, 3) := by decide +kernel
theorem dX7_count_81 : decode cX7_count 81 = .ok (.iconst 0, 1) := by decide +kernel
theorem dX7_count_82 : decode cX7_count 82 = .ok (.ireturn, 1) := by decide +kernel
theorem dX7_count_83 : decode cX7_count 83 = .ok (.aload_n 0, 1) := by decide +kernel
theorem dX7_count_84 : decode cX7_count 84 = .ok (.getfield 41, 3) := by decide +kernel
theorem dX7_count_87 : decode cX7_count 87 = .ok (.getfield 205, 3) := by decide +kernel
theorem dX7_count_90 : decode cX7_count 90 = .ok (.ireturn, 1) := by decide +kernel
theorem dX7_count_91 : decode cX7_count 91 = .ok (.aload_n 0, 1) := by decide +kernel
theorem dX7_count_92 : decode cX7_count 92 = .ok (.getfield 14, 3) := by decide +kernel
theorem dX7_count_95 : decode cX7_count 95 = .ok (.iconst 0, 1) := by decide +kernel
theorem dX7_count_96 : decode cX7_count 96 = .ok (.aaload, 1) := by decide +kernel
theorem dX7_count_97 : decode cX7_count 97 = .ok (.getfield 105, 3) := by decide +kernel
theorem dX7_count_100 : decode cX7_count 100 = .ok (.ireturn, 1) := by decide +kernel
theorem dX7_count_101 : decode cX7_count 101 = .ok (.aload_n 0, 1) := by decide +kernel
theorem dX7_count_102 : decode cX7_count 102 = .ok (.getfield 14, 3) := by decide +kernel
theorem dX7_count_105 : decode cX7_count 105 = .ok (.iconst 1, 1) := by decide +kernel
theorem dX7_count_106 : decode cX7_count 106 = .ok (.aaload, 1) := by decide +kernel
theorem dX7_count_107 : decode cX7_count 107 = .ok (.getfield 105, 3) := by decide +kernel
theorem dX7_count_110 : decode cX7_count 110 = .ok (.ireturn, 1) := by decide +kernel
theorem dX7_count_111 : decode cX7_count 111 = .ok (.aload_n 0, 1) := by decide +kernel
theorem dX7_count_112 : decode cX7_count 112 = .ok (.getfield 18, 3) := by decide +kernel
theorem dX7_count_115 : decode cX7_count 115 = .ok (.getfield 105, 3) := by decide +kernel
theorem dX7_count_118 : decode cX7_count 118 = .ok (.ireturn, 1) := by decide +kernel
theorem dX7_count_119 : decode cX7_count 119 = .ok (.aload_n 0, 1) := by decide +kernel
theorem dX7_count_120 : decode cX7_count 120 = .ok (.getfield 22, 3) := by decide +kernel
theorem dX7_count_123 : decode cX7_count 123 = .ok (.getfield 105, 3) := by decide +kernel
theorem dX7_count_126 : decode cX7_count 126 = .ok (.ireturn, 1) := by decide +kernel
theorem dX7_count_127 : decode cX7_count 127 = .ok (.aload_n 0, 1) := by decide +kernel
theorem dX7_count_128 : decode cX7_count 128 = .ok (.getfield 69, 3) := by decide +kernel
theorem dX7_count_131 : decode cX7_count 131 = .ok (.invokevirtual 232, 3) := by decide +kernel
theorem dX7_count_134 : decode cX7_count 134 = .ok (.ireturn, 1) := by decide +kernel
theorem dX7_count_135 : decode cX7_count 135 = .ok (.aload_n 0, 1) := by decide +kernel
theorem dX7_count_136 : decode cX7_count 136 = .ok (.getfield 25, 3) := by decide +kernel
theorem dX7_count_139 : decode cX7_count 139 = .ok (.getfield 105, 3) := by decide +kernel
theorem dX7_count_142 : decode cX7_count 142 = .ok (.ireturn, 1) := by decide +kernel
theorem dX7_count_143 : decode cX7_count 143 = .ok (.aload_n 0, 1) := by decide +kernel
theorem dX7_count_144 : decode cX7_count 144 = .ok (.getfield 283, 3) := by decide +kernel
theorem dX7_count_147 : decode cX7_count 147 = .ok (.ireturn, 1) := by decide +kernel
theorem dX7_count_148 : decode cX7_count 148 = .ok (.bipush (-2), 2) := by decide +kernel
theorem dX7_count_150 : decode cX7_count 150 = .ok (.ireturn, 1) := by decide +kernel
theorem dX7_digest_0 : decode cX7_digest 0 = .ok (.ldc2_w 304, 3) := by decide +kernel
theorem dX7_digest_3 : decode cX7_digest 3 = .ok (.lstore_n 1, 1) := by decide +kernel
theorem dX7_digest_4 : decode cX7_digest 4 = .ok (.iconst 0, 1) := by decide +kernel
theorem dX7_digest_5 : decode cX7_digest 5 = .ok (.istore_n 3, 1) := by decide +kernel
theorem dX7_digest_6 : decode cX7_digest 6 = .ok (.iload_n 3, 1) := by decide +kernel
theorem dX7_digest_7 : decode cX7_digest 7 = .ok (.bipush 7, 2) := by decide +kernel
theorem dX7_digest_9 : decode cX7_digest 9 = .ok (.if_icmp .gt 22, 3) := by decide +kernel
theorem dX7_digest_12 : decode cX7_digest 12 = .ok (.ldc2_w 306, 3) := by decide +kernel
theorem dX7_digest_15 : decode cX7_digest 15 = .ok (.lload_n 1, 1) := by decide +kernel
theorem dX7_digest_16 : decode cX7_digest 16 = .ok (.lmul, 1) := by decide +kernel
theorem dX7_digest_17 : decode cX7_digest 17 = .ok (.aload_n 0, 1) := by decide +kernel
theorem dX7_digest_18 : decode cX7_digest 18 = .ok (.iload_n 3, 1) := by decide +kernel
theorem dX7_digest_19 : decode cX7_digest 19 = .ok (.invokevirtual 308, 3) := by decide +kernel
theorem dX7_digest_22 : decode cX7_digest 22 = .ok (.i2l, 1) := by decide +kernel
theorem dX7_digest_23 : decode cX7_digest 23 = .ok (.ladd, 1) := by decide +kernel
theorem dX7_digest_24 : decode cX7_digest 24 = .ok (.lstore_n 1, 1) := by decide +kernel
theorem dX7_digest_25 : decode cX7_digest 25 = .ok (.iinc 3 1, 3) := by decide +kernel
theorem dX7_digest_28 : decode cX7_digest 28 = .ok (.goto (-22), 3) := by decide +kernel
theorem dX7_digest_31 : decode cX7_digest 31 = .ok (.ldc2_w 306, 3) := by decide +kernel
theorem dX7_digest_34 : decode cX7_digest 34 = .ok (.lload_n 1, 1) := by decide +kernel
theorem dX7_digest_35 : decode cX7_digest 35 = .ok (.lmul, 1) := by decide +kernel
theorem dX7_digest_36 : decode cX7_digest 36 = .ok (.aload_n 0, 1) := by decide +kernel
theorem dX7_digest_37 : decode cX7_digest 37 = .ok (.iconst 0, 1) := by decide +kernel
theorem dX7_digest_38 : decode cX7_digest 38 = .ok (.invokevirtual 311, 3) := by decide +kernel
theorem dX7_digest_41 : decode cX7_digest 41 = .ok (.i2l, 1) := by decide +kernel
theorem dX7_digest_42 : decode cX7_digest 42 = .ok (.ladd, 1) := by decide +kernel
theorem dX7_digest_43 : decode cX7_digest 43 = .ok (.lstore_n 1, 1) := by decide +kernel
theorem dX7_digest_44 : decode cX7_digest 44 = .ok (.ldc2_w 306, 3) := by decide +kernel
theorem dX7_digest_47 : decode cX7_digest 47 = .ok (.lload_n 1, 1) := by decide +kernel
theorem dX7_digest_48 : decode cX7_digest 48 = .ok (.lmul, 1) := by decide +kernel
theorem dX7_digest_49 : decode cX7_digest 49 = .ok (.aload_n 0, 1) := by decide +kernel
theorem dX7_digest_50 : decode cX7_digest 50 = .ok (.iconst 1, 1) := by decide +kernel
theorem dX7_digest_51 : decode cX7_digest 51 = .ok (.invokevirtual 311, 3) := by decide +kernel
theorem dX7_digest_54 : decode cX7_digest 54 = .ok (.i2l, 1) := by decide +kernel
theorem dX7_digest_55 : decode cX7_digest 55 = .ok (.ladd, 1) := by decide +kernel
theorem dX7_digest_56 : decode cX7_digest 56 = .ok (.lstore_n 1, 1) := by decide +kernel
theorem dX7_digest_57 : decode cX7_digest 57 = .ok (.iconst 0, 1) := by decide +kernel
theorem dX7_digest_58 : decode cX7_digest 58 = .ok (.istore_n 3, 1) := by decide +kernel
theorem dX7_digest_59 : decode cX7_digest 59 = .ok (.iload_n 3, 1) := by decide +kernel
theorem dX7_digest_60 : decode cX7_digest 60 = .ok (.bipush 40, 2) := by decide +kernel
theorem dX7_digest_62 : decode cX7_digest 62 = .ok (.if_icmp .ge 52, 3) := by decide +kernel
theorem dX7_digest_65 : decode cX7_digest 65 = .ok (.ldc2_w 306, 3) := by decide +kernel
theorem dX7_digest_68 : decode cX7_digest 68 = .ok (.lload_n 1, 1) := by decide +kernel
theorem dX7_digest_69 : decode cX7_digest 69 = .ok (.lmul, 1) := by decide +kernel
theorem dX7_digest_70 : decode cX7_digest 70 = .ok (.aload_n 0, 1) := by decide +kernel
theorem dX7_digest_71 : decode cX7_digest 71 = .ok (.iload_n 3, 1) := by decide +kernel
theorem dX7_digest_72 : decode cX7_digest 72 = .ok (.invokevirtual 314, 3) := by decide +kernel
theorem dX7_digest_75 : decode cX7_digest 75 = .ok (.i2l, 1) := by decide +kernel
theorem dX7_digest_76 : decode cX7_digest 76 = .ok (.ladd, 1) := by decide +kernel
theorem dX7_digest_77 : decode cX7_digest 77 = .ok (.lstore_n 1, 1) := by decide +kernel
theorem dX7_digest_78 : decode cX7_digest 78 = .ok (.iconst 0, 1) := by decide +kernel
theorem dX7_digest_79 : decode cX7_digest 79 = .ok (.istore 4, 2) := by decide +kernel
theorem dX7_digest_81 : decode cX7_digest 81 = .ok (.iload 4, 2) := by decide +kernel
theorem dX7_digest_83 : decode cX7_digest 83 = .ok (.iconst 4, 1) := by decide +kernel
theorem dX7_digest_84 : decode cX7_digest 84 = .ok (.if_icmp .gt 24, 3) := by decide +kernel
theorem dX7_digest_87 : decode cX7_digest 87 = .ok (.ldc2_w 306, 3) := by decide +kernel
theorem dX7_digest_90 : decode cX7_digest 90 = .ok (.lload_n 1, 1) := by decide +kernel
theorem dX7_digest_91 : decode cX7_digest 91 = .ok (.lmul, 1) := by decide +kernel
theorem dX7_digest_92 : decode cX7_digest 92 = .ok (.aload_n 0, 1) := by decide +kernel
theorem dX7_digest_93 : decode cX7_digest 93 = .ok (.iload_n 3, 1) := by decide +kernel
theorem dX7_digest_94 : decode cX7_digest 94 = .ok (.iload 4, 2) := by decide +kernel
theorem dX7_digest_96 : decode cX7_digest 96 = .ok (.invokevirtual 316, 3) := by decide +kernel
theorem dX7_digest_99 : decode cX7_digest 99 = .ok (.i2l, 1) := by decide +kernel
theorem dX7_digest_100 : decode cX7_digest 100 = .ok (.ladd, 1) := by decide +kernel
theorem dX7_digest_101 : decode cX7_digest 101 = .ok (.lstore_n 1, 1) := by decide +kernel
theorem dX7_digest_102 : decode cX7_digest 102 = .ok (.iinc 4 1, 3) := by decide +kernel
theorem dX7_digest_105 : decode cX7_digest 105 = .ok (.goto (-24), 3) := by decide +kernel
theorem dX7_digest_108 : decode cX7_digest 108 = .ok (.iinc 3 1, 3) := by decide +kernel
theorem dX7_digest_111 : decode cX7_digest 111 = .ok (.goto (-52), 3) := by decide +kernel
theorem dX7_digest_114 : decode cX7_digest 114 = .ok (.iconst 0, 1) := by decide +kernel
theorem dX7_digest_115 : decode cX7_digest 115 = .ok (.istore_n 3, 1) := by decide +kernel
theorem dX7_digest_116 : decode cX7_digest 116 = .ok (.iload_n 3, 1) := by decide +kernel
theorem dX7_digest_117 : decode cX7_digest 117 = .ok (.aload_n 0, 1) := by decide +kernel
theorem dX7_digest_118 : decode cX7_digest 118 = .ok (.getfield 41, 3) := by decide +kernel
theorem dX7_digest_121 : decode cX7_digest 121 = .ok (.getfield 205, 3) := by decide +kernel
theorem dX7_digest_124 : decode cX7_digest 124 = .ok (.if_icmp .ge 80, 3) := by decide +kernel
theorem dX7_digest_127 : decode cX7_digest 127 = .ok (.iconst 0, 1) := by decide +kernel
theorem dX7_digest_128 : decode cX7_digest 128 = .ok (.istore 4, 2) := by decide +kernel
theorem dX7_digest_130 : decode cX7_digest 130 = .ok (.iload 4, 2) := by decide +kernel
theorem dX7_digest_132 : decode cX7_digest 132 = .ok (.iconst 3, 1) := by decide +kernel
theorem dX7_digest_133 : decode cX7_digest 133 = .ok (.if_icmp .gt 24, 3) := by decide +kernel
theorem dX7_digest_136 : decode cX7_digest 136 = .ok (.ldc2_w 306, 3) := by decide +kernel
theorem dX7_digest_139 : decode cX7_digest 139 = .ok (.lload_n 1, 1) := by decide +kernel
theorem dX7_digest_140 : decode cX7_digest 140 = .ok (.lmul, 1) := by decide +kernel
theorem dX7_digest_141 : decode cX7_digest 141 = .ok (.aload_n 0, 1) := by decide +kernel
theorem dX7_digest_142 : decode cX7_digest 142 = .ok (.iload_n 3, 1) := by decide +kernel
theorem dX7_digest_143 : decode cX7_digest 143 = .ok (.iload 4, 2) := by decide +kernel
theorem dX7_digest_145 : decode cX7_digest 145 = .ok (.invokevirtual 319, 3) := by decide +kernel
theorem dX7_digest_148 : decode cX7_digest 148 = .ok (.i2l, 1) := by decide +kernel
theorem dX7_digest_149 : decode cX7_digest 149 = .ok (.ladd, 1) := by decide +kernel
theorem dX7_digest_150 : decode cX7_digest 150 = .ok (.lstore_n 1, 1) := by decide +kernel
theorem dX7_digest_151 : decode cX7_digest 151 = .ok (.iinc 4 1, 3) := by decide +kernel
theorem dX7_digest_154 : decode cX7_digest 154 = .ok (.goto (-24), 3) := by decide +kernel
theorem dX7_digest_157 : decode cX7_digest 157 = .ok (.ldc2_w 306, 3) := by decide +kernel
theorem dX7_digest_160 : decode cX7_digest 160 = .ok (.lload_n 1, 1) := by decide +kernel
theorem dX7_digest_161 : decode cX7_digest 161 = .ok (.lmul, 1) := by decide +kernel
theorem dX7_digest_162 : decode cX7_digest 162 = .ok (.aload_n 0, 1) := by decide +kernel
theorem dX7_digest_163 : decode cX7_digest 163 = .ok (.iload_n 3, 1) := by decide +kernel
theorem dX7_digest_164 : decode cX7_digest 164 = .ok (.invokevirtual 321, 3) := by decide +kernel
theorem dX7_digest_167 : decode cX7_digest 167 = .ok (.i2l, 1) := by decide +kernel
theorem dX7_digest_168 : decode cX7_digest 168 = .ok (.ladd, 1) := by decide +kernel
theorem dX7_digest_169 : decode cX7_digest 169 = .ok (.lstore_n 1, 1) := by decide +kernel
theorem dX7_digest_170 : decode cX7_digest 170 = .ok (.ldc2_w 306, 3) := by decide +kernel
theorem dX7_digest_173 : decode cX7_digest 173 = .ok (.lload_n 1, 1) := by decide +kernel
theorem dX7_digest_174 : decode cX7_digest 174 = .ok (.lmul, 1) := by decide +kernel
theorem dX7_digest_175 : decode cX7_digest 175 = .ok (.aload_n 0, 1) := by decide +kernel
theorem dX7_digest_176 : decode cX7_digest 176 = .ok (.iconst 5, 1) := by decide +kernel
theorem dX7_digest_177 : decode cX7_digest 177 = .ok (.iload_n 3, 1) := by decide +kernel
theorem dX7_digest_178 : decode cX7_digest 178 = .ok (.iconst 0, 1) := by decide +kernel
theorem dX7_digest_179 : decode cX7_digest 179 = .ok (.invokevirtual 323, 3) := by decide +kernel
theorem dX7_digest_182 : decode cX7_digest 182 = .ok (.ladd, 1) := by decide +kernel
theorem dX7_digest_183 : decode cX7_digest 183 = .ok (.lstore_n 1, 1) := by decide +kernel
theorem dX7_digest_184 : decode cX7_digest 184 = .ok (.ldc2_w 306, 3) := by decide +kernel
theorem dX7_digest_187 : decode cX7_digest 187 = .ok (.lload_n 1, 1) := by decide +kernel
theorem dX7_digest_188 : decode cX7_digest 188 = .ok (.lmul, 1) := by decide +kernel
theorem dX7_digest_189 : decode cX7_digest 189 = .ok (.aload_n 0, 1) := by decide +kernel
theorem dX7_digest_190 : decode cX7_digest 190 = .ok (.iconst 5, 1) := by decide +kernel
theorem dX7_digest_191 : decode cX7_digest 191 = .ok (.iload_n 3, 1) := by decide +kernel
theorem dX7_digest_192 : decode cX7_digest 192 = .ok (.iconst 1, 1) := by decide +kernel
theorem dX7_digest_193 : decode cX7_digest 193 = .ok (.invokevirtual 323, 3) := by decide +kernel
theorem dX7_digest_196 : decode cX7_digest 196 = .ok (.ladd, 1) := by decide +kernel
theorem dX7_digest_197 : decode cX7_digest 197 = .ok (.lstore_n 1, 1) := by decide +kernel
theorem dX7_digest_198 : decode cX7_digest 198 = .ok (.iinc 3 1, 3) := by decide +kernel
theorem dX7_digest_201 : decode cX7_digest 201 = .ok (.goto (-85), 3) := by decide +kernel
theorem dX7_digest_204 : decode cX7_digest 204 = .ok (.ldc2_w 306, 3) := by decide +kernel
theorem dX7_digest_207 : decode cX7_digest 207 = .ok (.lload_n 1, 1) := by decide +kernel
theorem dX7_digest_208 : decode cX7_digest 208 = .ok (.lmul, 1) := by decide +kernel
theorem dX7_digest_209 : decode cX7_digest 209 = .ok (.aload_n 0, 1) := by decide +kernel
theorem dX7_digest_210 : decode cX7_digest 210 = .ok (.invokevirtual 327, 3) := by decide +kernel
theorem dX7_digest_213 : decode cX7_digest 213 = .ok (.i2l, 1) := by decide +kernel
theorem dX7_digest_214 : decode cX7_digest 214 = .ok (.ladd, 1) := by decide +kernel
theorem dX7_digest_215 : decode cX7_digest 215 = .ok (.lstore_n 1, 1) := by decide +kernel
theorem dX7_digest_216 : decode cX7_digest 216 = .ok (.ldc2_w 306, 3) := by decide +kernel
theorem dX7_digest_219 : decode cX7_digest 219 = .ok (.lload_n 1, 1) := by decide +kernel
theorem dX7_digest_220 : decode cX7_digest 220 = .ok (.lmul, 1) := by decide +kernel
theorem dX7_digest_221 : decode cX7_digest 221 = .ok (.aload_n 0, 1) := by decide +kernel
theorem dX7_digest_222 : decode cX7_digest 222 = .ok (.invokevirtual 330, 3) := by decide +kernel
theorem dX7_digest_225 : decode cX7_digest 225 = .ok (.i2l, 1) := by decide +kernel
theorem dX7_digest_226 : decode cX7_digest 226 = .ok (.ladd, 1) := by decide +kernel
theorem dX7_digest_227 : decode cX7_digest 227 = .ok (.lstore_n 1, 1) := by decide +kernel
theorem dX7_digest_228 : decode cX7_digest 228 = .ok (.ldc2_w 306, 3) := by decide +kernel
theorem dX7_digest_231 : decode cX7_digest 231 = .ok (.lload_n 1, 1) := by decide +kernel
theorem dX7_digest_232 : decode cX7_digest 232 = .ok (.lmul, 1) := by decide +kernel
theorem dX7_digest_233 : decode cX7_digest 233 = .ok (.aload_n 0, 1) := by decide +kernel
theorem dX7_digest_234 : decode cX7_digest 234 = .ok (.invokevirtual 332, 3) := by decide +kernel
theorem dX7_digest_237 : decode cX7_digest 237 = .ok (.i2l, 1) := by decide +kernel
theorem dX7_digest_238 : decode cX7_digest 238 = .ok (.ladd, 1) := by decide +kernel
theorem dX7_digest_239 : decode cX7_digest 239 = .ok (.lstore_n 1, 1) := by decide +kernel
theorem dX7_digest_240 : decode cX7_digest 240 = .ok (.ldc2_w 306, 3) := by decide +kernel
theorem dX7_digest_243 : decode cX7_digest 243 = .ok (.lload_n 1, 1) := by decide +kernel
theorem dX7_digest_244 : decode cX7_digest 244 = .ok (.lmul, 1) := by decide +kernel
theorem dX7_digest_245 : decode cX7_digest 245 = .ok (.aload_n 0, 1) := by decide +kernel
theorem dX7_digest_246 : decode cX7_digest 246 = .ok (.invokevirtual 334, 3) := by decide +kernel
theorem dX7_digest_249 : decode cX7_digest 249 = .ok (.i2l, 1) := by decide +kernel
theorem dX7_digest_250 : decode cX7_digest 250 = .ok (.ladd, 1) := by decide +kernel
theorem dX7_digest_251 : decode cX7_digest 251 = .ok (.lstore_n 1, 1) := by decide +kernel
theorem dX7_digest_252 : decode cX7_digest 252 = .ok (.iconst 0, 1) := by decide +kernel
theorem dX7_digest_253 : decode cX7_digest 253 = .ok (.istore_n 3, 1) := by decide +kernel
theorem dX7_digest_254 : decode cX7_digest 254 = .ok (.iload_n 3, 1) := by decide +kernel
theorem dX7_digest_255 : decode cX7_digest 255 = .ok (.iconst 3, 1) := by decide +kernel
theorem dX7_digest_256 : decode cX7_digest 256 = .ok (.if_icmp .gt 22, 3) := by decide +kernel
theorem dX7_digest_259 : decode cX7_digest 259 = .ok (.ldc2_w 306, 3) := by decide +kernel
theorem dX7_digest_262 : decode cX7_digest 262 = .ok (.lload_n 1, 1) := by decide +kernel
theorem dX7_digest_263 : decode cX7_digest 263 = .ok (.lmul, 1) := by decide +kernel
theorem dX7_digest_264 : decode cX7_digest 264 = .ok (.aload_n 0, 1) := by decide +kernel
theorem dX7_digest_265 : decode cX7_digest 265 = .ok (.iload_n 3, 1) := by decide +kernel
theorem dX7_digest_266 : decode cX7_digest 266 = .ok (.invokevirtual 337, 3) := by decide +kernel
theorem dX7_digest_269 : decode cX7_digest 269 = .ok (.i2l, 1) := by decide +kernel
theorem dX7_digest_270 : decode cX7_digest 270 = .ok (.ladd, 1) := by decide +kernel
theorem dX7_digest_271 : decode cX7_digest 271 = .ok (.lstore_n 1, 1) := by decide +kernel
theorem dX7_digest_272 : decode cX7_digest 272 = .ok (.iinc 3 1, 3) := by decide +kernel
theorem dX7_digest_275 : decode cX7_digest 275 = .ok (.goto (-21), 3) := by decide +kernel
theorem dX7_digest_278 : decode cX7_digest 278 = .ok (.ldc2_w 306, 3) := by decide +kernel
theorem dX7_digest_281 : decode cX7_digest 281 = .ok (.lload_n 1, 1) := by decide +kernel
theorem dX7_digest_282 : decode cX7_digest 282 = .ok (.lmul, 1) := by decide +kernel
theorem dX7_digest_283 : decode cX7_digest 283 = .ok (.aload_n 0, 1) := by decide +kernel
theorem dX7_digest_284 : decode cX7_digest 284 = .ok (.iconst 0, 1) := by decide +kernel
theorem dX7_digest_285 : decode cX7_digest 285 = .ok (.invokevirtual 340, 3) := by decide +kernel
theorem dX7_digest_288 : decode cX7_digest 288 = .ok (.i2l, 1) := by decide +kernel
theorem dX7_digest_289 : decode cX7_digest 289 = .ok (.ladd, 1) := by decide +kernel
theorem dX7_digest_290 : decode cX7_digest 290 = .ok (.lstore_n 1, 1) := by decide +kernel
theorem dX7_digest_291 : decode cX7_digest 291 = .ok (.ldc2_w 306, 3) := by decide +kernel
theorem dX7_digest_294 : decode cX7_digest 294 = .ok (.lload_n 1, 1) := by decide +kernel
theorem dX7_digest_295 : decode cX7_digest 295 = .ok (.lmul, 1) := by decide +kernel
theorem dX7_digest_296 : decode cX7_digest 296 = .ok (.aload_n 0, 1) := by decide +kernel
theorem dX7_digest_297 : decode cX7_digest 297 = .ok (.iconst 1, 1) := by decide +kernel
theorem dX7_digest_298 : decode cX7_digest 298 = .ok (.invokevirtual 340, 3) := by decide +kernel
theorem dX7_digest_301 : decode cX7_digest 301 = .ok (.i2l, 1) := by decide +kernel
theorem dX7_digest_302 : decode cX7_digest 302 = .ok (.ladd, 1) := by decide +kernel
theorem dX7_digest_303 : decode cX7_digest 303 = .ok (.lstore_n 1, 1) := by decide +kernel
theorem dX7_digest_304 : decode cX7_digest 304 = .ok (.ldc2_w 306, 3) := by decide +kernel
theorem dX7_digest_307 : decode cX7_digest 307 = .ok (.lload_n 1, 1) := by decide +kernel
theorem dX7_digest_308 : decode cX7_digest 308 = .ok (.lmul, 1) := by decide +kernel
theorem dX7_digest_309 : decode cX7_digest 309 = .ok (.aload_n 0, 1) := by decide +kernel
theorem dX7_digest_310 : decode cX7_digest 310 = .ok (.invokevirtual 343, 3) := by decide +kernel
theorem dX7_digest_313 : decode cX7_digest 313 = .ok (.i2l, 1) := by decide +kernel
theorem dX7_digest_314 : decode cX7_digest 314 = .ok (.ladd, 1) := by decide +kernel
theorem dX7_digest_315 : decode cX7_digest 315 = .ok (.lstore_n 1, 1) := by decide +kernel
theorem dX7_digest_316 : decode cX7_digest 316 = .ok (.ldc2_w 306, 3) := by decide +kernel
theorem dX7_digest_319 : decode cX7_digest 319 = .ok (.lload_n 1, 1) := by decide +kernel
theorem dX7_digest_320 : decode cX7_digest 320 = .ok (.lmul, 1) := by decide +kernel
theorem dX7_digest_321 : decode cX7_digest 321 = .ok (.aload_n 0, 1) := by decide +kernel
theorem dX7_digest_322 : decode cX7_digest 322 = .ok (.iconst 0, 1) := by decide +kernel
theorem dX7_digest_323 : decode cX7_digest 323 = .ok (.invokevirtual 346, 3) := by decide +kernel
theorem dX7_digest_326 : decode cX7_digest 326 = .ok (.i2l, 1) := by decide +kernel
theorem dX7_digest_327 : decode cX7_digest 327 = .ok (.ladd, 1) := by decide +kernel
theorem dX7_digest_328 : decode cX7_digest 328 = .ok (.lstore_n 1, 1) := by decide +kernel
theorem dX7_digest_329 : decode cX7_digest 329 = .ok (.ldc2_w 306, 3) := by decide +kernel
theorem dX7_digest_332 : decode cX7_digest 332 = .ok (.lload_n 1, 1) := by decide +kernel
theorem dX7_digest_333 : decode cX7_digest 333 = .ok (.lmul, 1) := by decide +kernel
theorem dX7_digest_334 : decode cX7_digest 334 = .ok (.aload_n 0, 1) := by decide +kernel
theorem dX7_digest_335 : decode cX7_digest 335 = .ok (.iconst 1, 1) := by decide +kernel
theorem dX7_digest_336 : decode cX7_digest 336 = .ok (.invokevirtual 346, 3) := by decide +kernel
theorem dX7_digest_339 : decode cX7_digest 339 = .ok (.i2l, 1) := by decide +kernel
theorem dX7_digest_340 : decode cX7_digest 340 = .ok (.ladd, 1) := by decide +kernel
theorem dX7_digest_341 : decode cX7_digest 341 = .ok (.lstore_n 1, 1) := by decide +kernel
theorem dX7_digest_342 : decode cX7_digest 342 = .ok (.ldc2_w 306, 3) := by decide +kernel
theorem dX7_digest_345 : decode cX7_digest 345 = .ok (.lload_n 1, 1) := by decide +kernel
theorem dX7_digest_346 : decode cX7_digest 346 = .ok (.lmul, 1) := by decide +kernel
theorem dX7_digest_347 : decode cX7_digest 347 = .ok (.aload_n 0, 1) := by decide +kernel
theorem dX7_digest_348 : decode cX7_digest 348 = .ok (.invokevirtual 349, 3) := by decide +kernel
theorem dX7_digest_351 : decode cX7_digest 351 = .ok (.i2l, 1) := by decide +kernel
theorem dX7_digest_352 : decode cX7_digest 352 = .ok (.ladd, 1) := by decide +kernel
theorem dX7_digest_353 : decode cX7_digest 353 = .ok (.lstore_n 1, 1) := by decide +kernel
theorem dX7_digest_354 : decode cX7_digest 354 = .ok (.ldc2_w 306, 3) := by decide +kernel
theorem dX7_digest_357 : decode cX7_digest 357 = .ok (.lload_n 1, 1) := by decide +kernel
theorem dX7_digest_358 : decode cX7_digest 358 = .ok (.lmul, 1) := by decide +kernel
theorem dX7_digest_359 : decode cX7_digest 359 = .ok (.aload_n 0, 1) := by decide +kernel
theorem dX7_digest_360 : decode cX7_digest 360 = .ok (.iconst 0, 1) := by decide +kernel
theorem dX7_digest_361 : decode cX7_digest 361 = .ok (.invokevirtual 352, 3) := by decide +kernel
theorem dX7_digest_364 : decode cX7_digest 364 = .ok (.i2l, 1) := by decide +kernel
theorem dX7_digest_365 : decode cX7_digest 365 = .ok (.ladd, 1) := by decide +kernel
theorem dX7_digest_366 : decode cX7_digest 366 = .ok (.lstore_n 1, 1) := by decide +kernel
theorem dX7_digest_367 : decode cX7_digest 367 = .ok (.ldc2_w 306, 3) := by decide +kernel
theorem dX7_digest_370 : decode cX7_digest 370 = .ok (.lload_n 1, 1) := by decide +kernel
theorem dX7_digest_371 : decode cX7_digest 371 = .ok (.lmul, 1) := by decide +kernel
theorem dX7_digest_372 : decode cX7_digest 372 = .ok (.aload_n 0, 1) := by decide +kernel
theorem dX7_digest_373 : decode cX7_digest 373 = .ok (.iconst 1, 1) := by decide +kernel
theorem dX7_digest_374 : decode cX7_digest 374 = .ok (.invokevirtual 352, 3) := by decide +kernel
theorem dX7_digest_377 : decode cX7_digest 377 = .ok (.i2l, 1) := by decide +kernel
theorem dX7_digest_378 : decode cX7_digest 378 = .ok (.ladd, 1) := by decide +kernel
theorem dX7_digest_379 : decode cX7_digest 379 = .ok (.lstore_n 1, 1) := by decide +kernel
theorem dX7_digest_380 : decode cX7_digest 380 = .ok (.ldc2_w 306, 3) := by decide +kernel
theorem dX7_digest_383 : decode cX7_digest 383 = .ok (.lload_n 1, 1) := by decide +kernel
theorem dX7_digest_384 : decode cX7_digest 384 = .ok (.lmul, 1) := by decide +kernel
theorem dX7_digest_385 : decode cX7_digest 385 = .ok (.aload_n 0, 1) := by decide +kernel
theorem dX7_digest_386 : decode cX7_digest 386 = .ok (.invokevirtual 355, 3) := by decide +kernel
theorem dX7_digest_389 : decode cX7_digest 389 = .ok (.i2l, 1) := by decide +kernel
theorem dX7_digest_390 : decode cX7_digest 390 = .ok (.ladd, 1) := by decide +kernel
theorem dX7_digest_391 : decode cX7_digest 391 = .ok (.lstore_n 1, 1) := by decide +kernel
theorem dX7_digest_392 : decode cX7_digest 392 = .ok (.ldc2_w 306, 3) := by decide +kernel
theorem dX7_digest_395 : decode cX7_digest 395 = .ok (.lload_n 1, 1) := by decide +kernel
theorem dX7_digest_396 : decode cX7_digest 396 = .ok (.lmul, 1) := by decide +kernel
theorem dX7_digest_397 : decode cX7_digest 397 = .ok (.aload_n 0, 1) := by decide +kernel
theorem dX7_digest_398 : decode cX7_digest 398 = .ok (.bipush 7, 2) := by decide +kernel
theorem dX7_digest_400 : decode cX7_digest 400 = .ok (.bipush 30, 2) := by decide +kernel
theorem dX7_digest_402 : decode cX7_digest 402 = .ok (.iconst 0, 1) := by decide +kernel
theorem dX7_digest_403 : decode cX7_digest 403 = .ok (.invokevirtual 358, 3) := by decide +kernel
theorem dX7_digest_406 : decode cX7_digest 406 = .ok (.i2l, 1) := by decide +kernel
theorem dX7_digest_407 : decode cX7_digest 407 = .ok (.ladd, 1) := by decide +kernel
theorem dX7_digest_408 : decode cX7_digest 408 = .ok (.lstore_n 1, 1) := by decide +kernel
theorem dX7_digest_409 : decode cX7_digest 409 = .ok (.ldc2_w 306, 3) := by decide +kernel
theorem dX7_digest_412 : decode cX7_digest 412 = .ok (.lload_n 1, 1) := by decide +kernel
theorem dX7_digest_413 : decode cX7_digest 413 = .ok (.lmul, 1) := by decide +kernel
theorem dX7_digest_414 : decode cX7_digest 414 = .ok (.aload_n 0, 1) := by decide +kernel
theorem dX7_digest_415 : decode cX7_digest 415 = .ok (.bipush 7, 2) := by decide +kernel
theorem dX7_digest_417 : decode cX7_digest 417 = .ok (.bipush 30, 2) := by decide +kernel
theorem dX7_digest_419 : decode cX7_digest 419 = .ok (.iconst 1, 1) := by decide +kernel
theorem dX7_digest_420 : decode cX7_digest 420 = .ok (.invokevirtual 358, 3) := by decide +kernel
theorem dX7_digest_423 : decode cX7_digest 423 = .ok (.i2l, 1) := by decide +kernel
theorem dX7_digest_424 : decode cX7_digest 424 = .ok (.ladd, 1) := by decide +kernel
theorem dX7_digest_425 : decode cX7_digest 425 = .ok (.lreturn, 1) := by decide +kernel
theorem dX7_within_0 : decode cX7_within 0 = .ok (.iload_n 0, 1) := by decide +kernel
theorem dX7_within_1 : decode cX7_within 1 = .ok (.iload_n 1, 1) := by decide +kernel
theorem dX7_within_2 : decode cX7_within 2 = .ok (.if_icmp .lt 12, 3) := by decide +kernel
theorem dX7_within_5 : decode cX7_within 5 = .ok (.iload_n 0, 1) := by decide +kernel
theorem dX7_within_6 : decode cX7_within 6 = .ok (.iload_n 2, 1) := by decide +kernel
theorem dX7_within_7 : decode cX7_within 7 = .ok (.if_icmp .gt 7, 3) := by decide +kernel
theorem dX7_within_10 : decode cX7_within 10 = .ok (.iconst 1, 1) := by decide +kernel
theorem dX7_within_11 : decode cX7_within 11 = .ok (.goto 4, 3) := by decide +kernel
theorem dX7_within_14 : decode cX7_within 14 = .ok (.iconst 0, 1) := by decide +kernel
theorem dX7_within_15 : decode cX7_within 15 = .ok (.ireturn, 1) := by decide +kernel
theorem dX7_isHour_0 : decode cX7_isHour 0 = .ok (.iload_n 0, 1) := by decide +kernel
theorem dX7_isHour_1 : decode cX7_isHour 1 = .ok (.iconst 0, 1) := by decide +kernel
theorem dX7_isHour_2 : decode cX7_isHour 2 = .ok (.bipush 39, 2) := by decide +kernel
theorem dX7_isHour_4 : decode cX7_isHour 4 = .ok (.invokestatic 97, 3) := by decide +kernel
theorem dX7_isHour_7 : decode cX7_isHour 7 = .ok (.ireturn, 1) := by decide +kernel
theorem dX7_isSheet_0 : decode cX7_isSheet 0 = .ok (.iload_n 0, 1) := by decide +kernel
theorem dX7_isSheet_1 : decode cX7_isSheet 1 = .ok (.iconst 0, 1) := by decide +kernel
theorem dX7_isSheet_2 : decode cX7_isSheet 2 = .ok (.iconst 3, 1) := by decide +kernel
theorem dX7_isSheet_3 : decode cX7_isSheet 3 = .ok (.invokestatic 97, 3) := by decide +kernel
theorem dX7_isSheet_6 : decode cX7_isSheet 6 = .ok (.ireturn, 1) := by decide +kernel
theorem dX7_isForm_0 : decode cX7_isForm 0 = .ok (.iload_n 0, 1) := by decide +kernel
theorem dX7_isForm_1 : decode cX7_isForm 1 = .ok (.iconst 0, 1) := by decide +kernel
theorem dX7_isForm_2 : decode cX7_isForm 2 = .ok (.iconst 2, 1) := by decide +kernel
theorem dX7_isForm_3 : decode cX7_isForm 3 = .ok (.invokestatic 97, 3) := by decide +kernel
theorem dX7_isForm_6 : decode cX7_isForm 6 = .ok (.ireturn, 1) := by decide +kernel
theorem dX7_isOrder_0 : decode cX7_isOrder 0 = .ok (.aload_n 0, 1) := by decide +kernel
theorem dX7_isOrder_1 : decode cX7_isOrder 1 = .ok (.invokevirtual 125, 3) := by decide +kernel
theorem dX7_isOrder_4 : decode cX7_isOrder 4 = .ok (.iload_n 1, 1) := by decide +kernel
theorem dX7_isOrder_5 : decode cX7_isOrder 5 = .ok (.iconst 0, 1) := by decide +kernel
theorem dX7_isOrder_6 : decode cX7_isOrder 6 = .ok (.aload_n 0, 1) := by decide +kernel
theorem dX7_isOrder_7 : decode cX7_isOrder 7 = .ok (.getfield 41, 3) := by decide +kernel
theorem dX7_isOrder_10 : decode cX7_isOrder 10 = .ok (.getfield 205, 3) := by decide +kernel
theorem dX7_isOrder_13 : decode cX7_isOrder 13 = .ok (.iconst 1, 1) := by decide +kernel
theorem dX7_isOrder_14 : decode cX7_isOrder 14 = .ok (.isub, 1) := by decide +kernel
theorem dX7_isOrder_15 : decode cX7_isOrder 15 = .ok (.invokestatic 97, 3) := by decide +kernel
theorem dX7_isOrder_18 : decode cX7_isOrder 18 = .ok (.ireturn, 1) := by decide +kernel
theorem dX7_found_0 : decode cX7_found 0 = .ok (.aload_n 0, 1) := by decide +kernel
theorem dX7_found_1 : decode cX7_found 1 = .ok (.iload_n 1, 1) := by decide +kernel
theorem dX7_found_2 : decode cX7_found 2 = .ok (.putfield 283, 3) := by decide +kernel
theorem dX7_found_5 : decode cX7_found 5 = .ok (.bipush (-10), 2) := by decide +kernel
theorem dX7_found_7 : decode cX7_found 7 = .ok (.iload_n 1, 1) := by decide +kernel
theorem dX7_found_8 : decode cX7_found 8 = .ok (.isub, 1) := by decide +kernel
theorem dX7_found_9 : decode cX7_found 9 = .ok (.ireturn, 1) := by decide +kernel
theorem dX7_more_0 : decode cX7_more 0 = .ok (.aload_n 1, 1) := by decide +kernel
theorem dX7_more_1 : decode cX7_more 1 = .ok (.invokevirtual 167, 3) := by decide +kernel
theorem dX7_more_4 : decode cX7_more 4 = .ok (.ifCond .eq 6, 3) := by decide +kernel
theorem dX7_more_7 : decode cX7_more 7 = .ok (.bipush (-4), 2) := by decide +kernel
theorem dX7_more_9 : decode cX7_more 9 = .ok (.ireturn, 1) := by decide +kernel
theorem dX7_more_10 : decode cX7_more 10 = .ok (.aload_n 1, 1) := by decide +kernel
theorem dX7_more_11 : decode cX7_more 11 = .ok (.iload_n 2, 1) := by decide +kernel
theorem dX7_more_12 : decode cX7_more 12 = .ok (.invokevirtual 170, 3) := by decide +kernel
theorem dX7_more_15 : decode cX7_more 15 = .ok (.aload_n 0, 1) := by decide +kernel
theorem dX7_more_16 : decode cX7_more 16 = .ok (.invokevirtual 108, 3) := by decide +kernel
theorem dX7_more_19 : decode cX7_more 19 = .ok (.aload_n 1, 1) := by decide +kernel
theorem dX7_more_20 : decode cX7_more 20 = .ok (.getfield 105, 3) := by decide +kernel
theorem dX7_more_23 : decode cX7_more 23 = .ok (.ireturn, 1) := by decide +kernel
theorem dX7_less_0 : decode cX7_less 0 = .ok (.aload_n 1, 1) := by decide +kernel
theorem dX7_less_1 : decode cX7_less 1 = .ok (.getfield 105, 3) := by decide +kernel
theorem dX7_less_4 : decode cX7_less 4 = .ok (.ifCond .ne 6, 3) := by decide +kernel
theorem dX7_less_7 : decode cX7_less 7 = .ok (.bipush (-3), 2) := by decide +kernel
theorem dX7_less_9 : decode cX7_less 9 = .ok (.ireturn, 1) := by decide +kernel
theorem dX7_less_10 : decode cX7_less 10 = .ok (.aload_n 1, 1) := by decide +kernel
theorem dX7_less_11 : decode cX7_less 11 = .ok (.dup, 1) := by decide +kernel
theorem dX7_less_12 : decode cX7_less 12 = .ok (.getfield 105, 3) := by decide +kernel
theorem dX7_less_15 : decode cX7_less 15 = .ok (.iconst 1, 1) := by decide +kernel
theorem dX7_less_16 : decode cX7_less 16 = .ok (.isub, 1) := by decide +kernel
theorem dX7_less_17 : decode cX7_less 17 = .ok (.putfield 105, 3) := by decide +kernel
theorem dX7_less_20 : decode cX7_less 20 = .ok (.aload_n 0, 1) := by decide +kernel
theorem dX7_less_21 : decode cX7_less 21 = .ok (.invokevirtual 108, 3) := by decide +kernel
theorem dX7_less_24 : decode cX7_less 24 = .ok (.aload_n 1, 1) := by decide +kernel
theorem dX7_less_25 : decode cX7_less 25 = .ok (.getfield 105, 3) := by decide +kernel
theorem dX7_less_28 : decode cX7_less 28 = .ok (.ireturn, 1) := by decide +kernel
theorem dX7_changed_0 : decode cX7_changed 0 = .ok (.aload_n 0, 1) := by decide +kernel
theorem dX7_changed_1 : decode cX7_changed 1 = .ok (.iconst 0, 1) := by decide +kernel
theorem dX7_changed_2 : decode cX7_changed 2 = .ok (.putfield 362, 3) := by decide +kernel
theorem dX7_changed_5 : decode cX7_changed 5 = .ok (.aload_n 0, 1) := by decide +kernel
theorem dX7_changed_6 : decode cX7_changed 6 = .ok (.iconst 0, 1) := by decide +kernel
theorem dX7_changed_7 : decode cX7_changed 7 = .ok (.putfield 210, 3) := by decide +kernel
theorem dX7_changed_10 : decode cX7_changed 10 = .ok (.aload_n 0, 1) := by decide +kernel
theorem dX7_changed_11 : decode cX7_changed 11 = .ok (.iconst (-1), 1) := by decide +kernel
theorem dX7_changed_12 : decode cX7_changed 12 = .ok (.putfield 93, 3) := by decide +kernel
theorem dX7_changed_15 : decode cX7_changed 15 = .ok (.return_, 1) := by decide +kernel
theorem dX7_settle_0 : decode cX7_settle 0 = .ok (.aload_n 0, 1) := by decide +kernel
theorem dX7_settle_1 : decode cX7_settle 1 = .ok (.getfield 362, 3) := by decide +kernel
theorem dX7_settle_4 : decode cX7_settle 4 = .ok (.ifCond .eq 4, 3) := by decide +kernel
theorem dX7_settle_7 : decode cX7_settle 7 = .ok (.return_, 1) := by decide +kernel
theorem dX7_settle_8 : decode cX7_settle 8 = .ok (.aload_n 0, 1) := by decide +kernel
theorem dX7_settle_9 : decode cX7_settle 9 = .ok (.getfield 41, 3) := by decide +kernel
theorem dX7_settle_12 : decode cX7_settle 12 = .ok (.aload_n 0, 1) := by decide +kernel
theorem dX7_settle_13 : decode cX7_settle 13 = .ok (.getfield 14, 3) := by decide +kernel
theorem dX7_settle_16 : decode cX7_settle 16 = .ok (.iconst 1, 1) := by decide +kernel
theorem dX7_settle_17 : decode cX7_settle 17 = .ok (.aaload, 1) := by decide +kernel
theorem dX7_settle_18 : decode cX7_settle 18 = .ok (.invokevirtual 365, 3) := by decide +kernel
theorem dX7_settle_21 : decode cX7_settle 21 = .ok (.aload_n 0, 1) := by decide +kernel
theorem dX7_settle_22 : decode cX7_settle 22 = .ok (.getfield 62, 3) := by decide +kernel
theorem dX7_settle_25 : decode cX7_settle 25 = .ok (.aload_n 0, 1) := by decide +kernel
theorem dX7_settle_26 : decode cX7_settle 26 = .ok (.getfield 14, 3) := by decide +kernel
theorem dX7_settle_29 : decode cX7_settle 29 = .ok (.iconst 0, 1) := by decide +kernel
theorem dX7_settle_30 : decode cX7_settle 30 = .ok (.aaload, 1) := by decide +kernel
theorem dX7_settle_31 : decode cX7_settle 31 = .ok (.aload_n 0, 1) := by decide +kernel
theorem dX7_settle_32 : decode cX7_settle 32 = .ok (.getfield 54, 3) := by decide +kernel
theorem dX7_settle_35 : decode cX7_settle 35 = .ok (.invokevirtual 369, 3) := by decide +kernel
theorem dX7_settle_38 : decode cX7_settle 38 = .ok (.aload_n 0, 1) := by decide +kernel
theorem dX7_settle_39 : decode cX7_settle 39 = .ok (.getfield 18, 3) := by decide +kernel
theorem dX7_settle_42 : decode cX7_settle 42 = .ok (.aload_n 0, 1) := by decide +kernel
theorem dX7_settle_43 : decode cX7_settle 43 = .ok (.getfield 62, 3) := by decide +kernel
theorem dX7_settle_46 : decode cX7_settle 46 = .ok (.getfield 244, 3) := by decide +kernel
theorem dX7_settle_49 : decode cX7_settle 49 = .ok (.invokestatic 373, 3) := by decide +kernel
theorem dX7_settle_52 : decode cX7_settle 52 = .ok (.aload_n 0, 1) := by decide +kernel
theorem dX7_settle_53 : decode cX7_settle 53 = .ok (.getfield 22, 3) := by decide +kernel
theorem dX7_settle_56 : decode cX7_settle 56 = .ok (.aload_n 0, 1) := by decide +kernel
theorem dX7_settle_57 : decode cX7_settle 57 = .ok (.getfield 62, 3) := by decide +kernel
theorem dX7_settle_60 : decode cX7_settle 60 = .ok (.getfield 227, 3) := by decide +kernel
theorem dX7_settle_63 : decode cX7_settle 63 = .ok (.invokestatic 373, 3) := by decide +kernel
theorem dX7_settle_66 : decode cX7_settle 66 = .ok (.aload_n 0, 1) := by decide +kernel
theorem dX7_settle_67 : decode cX7_settle 67 = .ok (.getfield 69, 3) := by decide +kernel
theorem dX7_settle_70 : decode cX7_settle 70 = .ok (.aload_n 0, 1) := by decide +kernel
theorem dX7_settle_71 : decode cX7_settle 71 = .ok (.getfield 62, 3) := by decide +kernel
theorem dX7_settle_74 : decode cX7_settle 74 = .ok (.invokevirtual 229, 3) := by decide +kernel
theorem dX7_settle_77 : decode cX7_settle 77 = .ok (.aload_n 0, 1) := by decide +kernel
theorem dX7_settle_78 : decode cX7_settle 78 = .ok (.iconst 1, 1) := by decide +kernel
theorem dX7_settle_79 : decode cX7_settle 79 = .ok (.putfield 362, 3) := by decide +kernel
theorem dX7_settle_82 : decode cX7_settle 82 = .ok (.return_, 1) := by decide +kernel
theorem dX7_countHours_0 : decode cX7_countHours 0 = .ok (.aload_n 1, 1) := by decide +kernel
theorem dX7_countHours_1 : decode cX7_countHours 1 = .ok (.iconst 0, 1) := by decide +kernel
theorem dX7_countHours_2 : decode cX7_countHours 2 = .ok (.invokestatic 376, 3) := by decide +kernel
theorem dX7_countHours_5 : decode cX7_countHours 5 = .ok (.iconst 0, 1) := by decide +kernel
theorem dX7_countHours_6 : decode cX7_countHours 6 = .ok (.istore_n 2, 1) := by decide +kernel
theorem dX7_countHours_7 : decode cX7_countHours 7 = .ok (.iload_n 2, 1) := by decide +kernel
theorem dX7_countHours_8 : decode cX7_countHours 8 = .ok (.aload_n 0, 1) := by decide +kernel
theorem dX7_countHours_9 : decode cX7_countHours 9 = .ok (.getfield 105, 3) := by decide +kernel
theorem dX7_countHours_12 : decode cX7_countHours 12 = .ok (.if_icmp .ge 21, 3) := by decide +kernel
theorem dX7_countHours_15 : decode cX7_countHours 15 = .ok (.aload_n 1, 1) := by decide +kernel
theorem dX7_countHours_16 : decode cX7_countHours 16 = .ok (.aload_n 0, 1) := by decide +kernel
theorem dX7_countHours_17 : decode cX7_countHours 17 = .ok (.getfield 246, 3) := by decide +kernel
theorem dX7_countHours_20 : decode cX7_countHours 20 = .ok (.iload_n 2, 1) := by decide +kernel
theorem dX7_countHours_21 : decode cX7_countHours 21 = .ok (.iaload, 1) := by decide +kernel
theorem dX7_countHours_22 : decode cX7_countHours 22 = .ok (.dup2, 1) := by decide +kernel
theorem dX7_countHours_23 : decode cX7_countHours 23 = .ok (.iaload, 1) := by decide +kernel
theorem dX7_countHours_24 : decode cX7_countHours 24 = .ok (.iconst 1, 1) := by decide +kernel
theorem dX7_countHours_25 : decode cX7_countHours 25 = .ok (.iadd, 1) := by decide +kernel
theorem dX7_countHours_26 : decode cX7_countHours 26 = .ok (.iastore, 1) := by decide +kernel
theorem dX7_countHours_27 : decode cX7_countHours 27 = .ok (.iinc 2 1, 3) := by decide +kernel
theorem dX7_countHours_30 : decode cX7_countHours 30 = .ok (.goto (-23), 3) := by decide +kernel
theorem dX7_countHours_33 : decode cX7_countHours 33 = .ok (.return_, 1) := by decide +kernel
theorem dX7_comesOutSo_0 : decode cX7_comesOutSo 0 = .ok (.aload_n 0, 1) := by decide +kernel
theorem dX7_comesOutSo_1 : decode cX7_comesOutSo 1 = .ok (.getfield 76, 3) := by decide +kernel
theorem dX7_comesOutSo_4 : decode cX7_comesOutSo 4 = .ok (.aload_n 0, 1) := by decide +kernel
theorem dX7_comesOutSo_5 : decode cX7_comesOutSo 5 = .ok (.getfield 73, 3) := by decide +kernel
theorem dX7_comesOutSo_8 : decode cX7_comesOutSo 8 = .ok (.invokevirtual 229, 3) := by decide +kernel
theorem dX7_comesOutSo_11 : decode cX7_comesOutSo 11 = .ok (.iconst 0, 1) := by decide +kernel
theorem dX7_comesOutSo_12 : decode cX7_comesOutSo 12 = .ok (.istore_n 1, 1) := by decide +kernel
theorem dX7_comesOutSo_13 : decode cX7_comesOutSo 13 = .ok (.iload_n 1, 1) := by decide +kernel
theorem dX7_comesOutSo_14 : decode cX7_comesOutSo 14 = .ok (.aload_n 0, 1) := by decide +kernel
theorem dX7_comesOutSo_15 : decode cX7_comesOutSo 15 = .ok (.getfield 25, 3) := by decide +kernel
theorem dX7_comesOutSo_18 : decode cX7_comesOutSo 18 = .ok (.getfield 105, 3) := by decide +kernel
theorem dX7_comesOutSo_21 : decode cX7_comesOutSo 21 = .ok (.if_icmp .ge 40, 3) := by decide +kernel
theorem dX7_comesOutSo_24 : decode cX7_comesOutSo 24 = .ok (.aload_n 0, 1) := by decide +kernel
theorem dX7_comesOutSo_25 : decode cX7_comesOutSo 25 = .ok (.getfield 76, 3) := by decide +kernel
theorem dX7_comesOutSo_28 : decode cX7_comesOutSo 28 = .ok (.getfield 173, 3) := by decide +kernel
theorem dX7_comesOutSo_31 : decode cX7_comesOutSo 31 = .ok (.aload_n 0, 1) := by decide +kernel
theorem dX7_comesOutSo_32 : decode cX7_comesOutSo 32 = .ok (.getfield 25, 3) := by decide +kernel
theorem dX7_comesOutSo_35 : decode cX7_comesOutSo 35 = .ok (.getfield 246, 3) := by decide +kernel
theorem dX7_comesOutSo_38 : decode cX7_comesOutSo 38 = .ok (.iload_n 1, 1) := by decide +kernel
theorem dX7_comesOutSo_39 : decode cX7_comesOutSo 39 = .ok (.iaload, 1) := by decide +kernel
theorem dX7_comesOutSo_40 : decode cX7_comesOutSo 40 = .ok (.iaload, 1) := by decide +kernel
theorem dX7_comesOutSo_41 : decode cX7_comesOutSo 41 = .ok (.aload_n 0, 1) := by decide +kernel
theorem dX7_comesOutSo_42 : decode cX7_comesOutSo 42 = .ok (.getfield 28, 3) := by decide +kernel
theorem dX7_comesOutSo_45 : decode cX7_comesOutSo 45 = .ok (.getfield 246, 3) := by decide +kernel
theorem dX7_comesOutSo_48 : decode cX7_comesOutSo 48 = .ok (.iload_n 1, 1) := by decide +kernel
theorem dX7_comesOutSo_49 : decode cX7_comesOutSo 49 = .ok (.iaload, 1) := by decide +kernel
theorem dX7_comesOutSo_50 : decode cX7_comesOutSo 50 = .ok (.if_icmp .eq 5, 3) := by decide +kernel
theorem dX7_comesOutSo_53 : decode cX7_comesOutSo 53 = .ok (.iconst 0, 1) := by decide +kernel
theorem dX7_comesOutSo_54 : decode cX7_comesOutSo 54 = .ok (.ireturn, 1) := by decide +kernel
theorem dX7_comesOutSo_55 : decode cX7_comesOutSo 55 = .ok (.iinc 1 1, 3) := by decide +kernel
theorem dX7_comesOutSo_58 : decode cX7_comesOutSo 58 = .ok (.goto (-45), 3) := by decide +kernel
theorem dX7_comesOutSo_61 : decode cX7_comesOutSo 61 = .ok (.iconst 1, 1) := by decide +kernel
theorem dX7_comesOutSo_62 : decode cX7_comesOutSo 62 = .ok (.ireturn, 1) := by decide +kernel
theorem dX7_countCrowd_0 : decode cX7_countCrowd 0 = .ok (.aload_n 0, 1) := by decide +kernel
theorem dX7_countCrowd_1 : decode cX7_countCrowd 1 = .ok (.getfield 90, 3) := by decide +kernel
theorem dX7_countCrowd_4 : decode cX7_countCrowd 4 = .ok (.iconst 0, 1) := by decide +kernel
theorem dX7_countCrowd_5 : decode cX7_countCrowd 5 = .ok (.invokestatic 376, 3) := by decide +kernel
theorem dX7_countCrowd_8 : decode cX7_countCrowd 8 = .ok (.aload_n 0, 1) := by decide +kernel
theorem dX7_countCrowd_9 : decode cX7_countCrowd 9 = .ok (.getfield 73, 3) := by decide +kernel
theorem dX7_countCrowd_12 : decode cX7_countCrowd 12 = .ok (.aload_n 0, 1) := by decide +kernel
theorem dX7_countCrowd_13 : decode cX7_countCrowd 13 = .ok (.getfield 62, 3) := by decide +kernel
theorem dX7_countCrowd_16 : decode cX7_countCrowd 16 = .ok (.invokevirtual 224, 3) := by decide +kernel
theorem dX7_countCrowd_19 : decode cX7_countCrowd 19 = .ok (.iconst 0, 1) := by decide +kernel
theorem dX7_countCrowd_20 : decode cX7_countCrowd 20 = .ok (.istore_n 1, 1) := by decide +kernel
theorem dX7_countCrowd_21 : decode cX7_countCrowd 21 = .ok (.iload_n 1, 1) := by decide +kernel
theorem dX7_countCrowd_22 : decode cX7_countCrowd 22 = .ok (.bipush 20, 2) := by decide +kernel
theorem dX7_countCrowd_24 : decode cX7_countCrowd 24 = .ok (.if_icmp .gt 63, 3) := by decide +kernel
theorem dX7_countCrowd_27 : decode cX7_countCrowd 27 = .ok (.aload_n 0, 1) := by decide +kernel
theorem dX7_countCrowd_28 : decode cX7_countCrowd 28 = .ok (.getfield 73, 3) := by decide +kernel
theorem dX7_countCrowd_31 : decode cX7_countCrowd 31 = .ok (.getfield 236, 3) := by decide +kernel
theorem dX7_countCrowd_34 : decode cX7_countCrowd 34 = .ok (.iconst 0, 1) := by decide +kernel
theorem dX7_countCrowd_35 : decode cX7_countCrowd 35 = .ok (.iload_n 1, 1) := by decide +kernel
theorem dX7_countCrowd_36 : decode cX7_countCrowd 36 = .ok (.iastore, 1) := by decide +kernel
theorem dX7_countCrowd_37 : decode cX7_countCrowd 37 = .ok (.aload_n 0, 1) := by decide +kernel
theorem dX7_countCrowd_38 : decode cX7_countCrowd 38 = .ok (.invokevirtual 247, 3) := by decide +kernel
theorem dX7_countCrowd_41 : decode cX7_countCrowd 41 = .ok (.ifCond .eq 40, 3) := by decide +kernel
theorem dX7_countCrowd_44 : decode cX7_countCrowd 44 = .ok (.iconst 0, 1) := by decide +kernel
theorem dX7_countCrowd_45 : decode cX7_countCrowd 45 = .ok (.istore_n 2, 1) := by decide +kernel
theorem dX7_countCrowd_46 : decode cX7_countCrowd 46 = .ok (.iload_n 2, 1) := by decide +kernel
theorem dX7_countCrowd_47 : decode cX7_countCrowd 47 = .ok (.bipush 40, 2) := by decide +kernel
theorem dX7_countCrowd_49 : decode cX7_countCrowd 49 = .ok (.if_icmp .ge 32, 3) := by decide +kernel
theorem dX7_countCrowd_52 : decode cX7_countCrowd 52 = .ok (.aload_n 0, 1) := by decide +kernel
theorem dX7_countCrowd_53 : decode cX7_countCrowd 53 = .ok (.getfield 90, 3) := by decide +kernel
theorem dX7_countCrowd_56 : decode cX7_countCrowd 56 = .ok (.iload_n 2, 1) := by decide +kernel
theorem dX7_countCrowd_57 : decode cX7_countCrowd 57 = .ok (.bipush 21, 2) := by decide +kernel
theorem dX7_countCrowd_59 : decode cX7_countCrowd 59 = .ok (.imul, 1) := by decide +kernel
theorem dX7_countCrowd_60 : decode cX7_countCrowd 60 = .ok (.aload_n 0, 1) := by decide +kernel
theorem dX7_countCrowd_61 : decode cX7_countCrowd 61 = .ok (.getfield 76, 3) := by decide +kernel
theorem dX7_countCrowd_64 : decode cX7_countCrowd 64 = .ok (.getfield 173, 3) := by decide +kernel
theorem dX7_countCrowd_67 : decode cX7_countCrowd 67 = .ok (.iload_n 2, 1) := by decide +kernel
theorem dX7_countCrowd_68 : decode cX7_countCrowd 68 = .ok (.iaload, 1) := by decide +kernel
theorem dX7_countCrowd_69 : decode cX7_countCrowd 69 = .ok (.iadd, 1) := by decide +kernel
theorem dX7_countCrowd_70 : decode cX7_countCrowd 70 = .ok (.dup2, 1) := by decide +kernel
theorem dX7_countCrowd_71 : decode cX7_countCrowd 71 = .ok (.iaload, 1) := by decide +kernel
theorem dX7_countCrowd_72 : decode cX7_countCrowd 72 = .ok (.iconst 1, 1) := by decide +kernel
theorem dX7_countCrowd_73 : decode cX7_countCrowd 73 = .ok (.iadd, 1) := by decide +kernel
theorem dX7_countCrowd_74 : decode cX7_countCrowd 74 = .ok (.iastore, 1) := by decide +kernel
theorem dX7_countCrowd_75 : decode cX7_countCrowd 75 = .ok (.iinc 2 1, 3) := by decide +kernel
theorem dX7_countCrowd_78 : decode cX7_countCrowd 78 = .ok (.goto (-32), 3) := by decide +kernel
theorem dX7_countCrowd_81 : decode cX7_countCrowd 81 = .ok (.iinc 1 1, 3) := by decide +kernel
theorem dX7_countCrowd_84 : decode cX7_countCrowd 84 = .ok (.goto (-63), 3) := by decide +kernel
theorem dX7_countCrowd_87 : decode cX7_countCrowd 87 = .ok (.return_, 1) := by decide +kernel
theorem dX7_greatestCrowd_0 : decode cX7_greatestCrowd 0 = .ok (.iconst 0, 1) := by decide +kernel
theorem dX7_greatestCrowd_1 : decode cX7_greatestCrowd 1 = .ok (.istore_n 2, 1) := by decide +kernel
theorem dX7_greatestCrowd_2 : decode cX7_greatestCrowd 2 = .ok (.iconst 0, 1) := by decide +kernel
theorem dX7_greatestCrowd_3 : decode cX7_greatestCrowd 3 = .ok (.istore_n 3, 1) := by decide +kernel
theorem dX7_greatestCrowd_4 : decode cX7_greatestCrowd 4 = .ok (.iload_n 3, 1) := by decide +kernel
theorem dX7_greatestCrowd_5 : decode cX7_greatestCrowd 5 = .ok (.bipush 20, 2) := by decide +kernel
theorem dX7_greatestCrowd_7 : decode cX7_greatestCrowd 7 = .ok (.if_icmp .gt 25, 3) := by decide +kernel
theorem dX7_greatestCrowd_10 : decode cX7_greatestCrowd 10 = .ok (.iload_n 2, 1) := by decide +kernel
theorem dX7_greatestCrowd_11 : decode cX7_greatestCrowd 11 = .ok (.aload_n 0, 1) := by decide +kernel
theorem dX7_greatestCrowd_12 : decode cX7_greatestCrowd 12 = .ok (.getfield 90, 3) := by decide +kernel
theorem dX7_greatestCrowd_15 : decode cX7_greatestCrowd 15 = .ok (.iload_n 1, 1) := by decide +kernel
theorem dX7_greatestCrowd_16 : decode cX7_greatestCrowd 16 = .ok (.bipush 21, 2) := by decide +kernel
theorem dX7_greatestCrowd_18 : decode cX7_greatestCrowd 18 = .ok (.imul, 1) := by decide +kernel
theorem dX7_greatestCrowd_19 : decode cX7_greatestCrowd 19 = .ok (.iload_n 3, 1) := by decide +kernel
theorem dX7_greatestCrowd_20 : decode cX7_greatestCrowd 20 = .ok (.iadd, 1) := by decide +kernel
theorem dX7_greatestCrowd_21 : decode cX7_greatestCrowd 21 = .ok (.iaload, 1) := by decide +kernel
theorem dX7_greatestCrowd_22 : decode cX7_greatestCrowd 22 = .ok (.invokestatic 382, 3) := by decide +kernel
theorem dX7_greatestCrowd_25 : decode cX7_greatestCrowd 25 = .ok (.istore_n 2, 1) := by decide +kernel
theorem dX7_greatestCrowd_26 : decode cX7_greatestCrowd 26 = .ok (.iinc 3 1, 3) := by decide +kernel
theorem dX7_greatestCrowd_29 : decode cX7_greatestCrowd 29 = .ok (.goto (-25), 3) := by decide +kernel
theorem dX7_greatestCrowd_32 : decode cX7_greatestCrowd 32 = .ok (.iload_n 2, 1) := by decide +kernel
theorem dX7_greatestCrowd_33 : decode cX7_greatestCrowd 33 = .ok (.ireturn, 1) := by decide +kernel
theorem dX7_weighShowers_0 : decode cX7_weighShowers 0 = .ok (.aload_n 0, 1) := by decide +kernel
theorem dX7_weighShowers_1 : decode cX7_weighShowers 1 = .ok (.getfield 86, 3) := by decide +kernel
theorem dX7_weighShowers_4 : decode cX7_weighShowers 4 = .ok (.lconst 0, 1) := by decide +kernel
theorem dX7_weighShowers_5 : decode cX7_weighShowers 5 = .ok (.invokestatic 385, 3) := by decide +kernel
theorem dX7_weighShowers_8 : decode cX7_weighShowers 8 = .ok (.aload_n 0, 1) := by decide +kernel
theorem dX7_weighShowers_9 : decode cX7_weighShowers 9 = .ok (.getfield 73, 3) := by decide +kernel
theorem dX7_weighShowers_12 : decode cX7_weighShowers 12 = .ok (.aload_n 0, 1) := by decide +kernel
theorem dX7_weighShowers_13 : decode cX7_weighShowers 13 = .ok (.getfield 62, 3) := by decide +kernel
theorem dX7_weighShowers_16 : decode cX7_weighShowers 16 = .ok (.invokevirtual 224, 3) := by decide +kernel
theorem dX7_weighShowers_19 : decode cX7_weighShowers 19 = .ok (.iconst 0, 1) := by decide +kernel
theorem dX7_weighShowers_20 : decode cX7_weighShowers 20 = .ok (.istore_n 2, 1) := by decide +kernel
theorem dX7_weighShowers_21 : decode cX7_weighShowers 21 = .ok (.iload_n 2, 1) := by decide +kernel
theorem dX7_weighShowers_22 : decode cX7_weighShowers 22 = .ok (.iconst 1, 1) := by decide +kernel
theorem dX7_weighShowers_23 : decode cX7_weighShowers 23 = .ok (.aload_n 0, 1) := by decide +kernel
theorem dX7_weighShowers_24 : decode cX7_weighShowers 24 = .ok (.getfield 18, 3) := by decide +kernel
theorem dX7_weighShowers_27 : decode cX7_weighShowers 27 = .ok (.getfield 105, 3) := by decide +kernel
theorem dX7_weighShowers_30 : decode cX7_weighShowers 30 = .ok (.ishl, 1) := by decide +kernel
theorem dX7_weighShowers_31 : decode cX7_weighShowers 31 = .ok (.if_icmp .ge 168, 3) := by decide +kernel
theorem dX7_weighShowers_34 : decode cX7_weighShowers 34 = .ok (.iload_n 2, 1) := by decide +kernel
theorem dX7_weighShowers_35 : decode cX7_weighShowers 35 = .ok (.invokestatic 388, 3) := by decide +kernel
theorem dX7_weighShowers_38 : decode cX7_weighShowers 38 = .ok (.istore_n 3, 1) := by decide +kernel
theorem dX7_weighShowers_39 : decode cX7_weighShowers 39 = .ok (.iload_n 1, 1) := by decide +kernel
theorem dX7_weighShowers_40 : decode cX7_weighShowers 40 = .ok (.iload_n 3, 1) := by decide +kernel
theorem dX7_weighShowers_41 : decode cX7_weighShowers 41 = .ok (.invokestatic 261, 3) := by decide +kernel
theorem dX7_weighShowers_44 : decode cX7_weighShowers 44 = .ok (.bipush 16, 2) := by decide +kernel
theorem dX7_weighShowers_46 : decode cX7_weighShowers 46 = .ok (.iload_n 1, 1) := by decide +kernel
theorem dX7_weighShowers_47 : decode cX7_weighShowers 47 = .ok (.isub, 1) := by decide +kernel
theorem dX7_weighShowers_48 : decode cX7_weighShowers 48 = .ok (.aload_n 0, 1) := by decide +kernel
theorem dX7_weighShowers_49 : decode cX7_weighShowers 49 = .ok (.getfield 18, 3) := by decide +kernel
theorem dX7_weighShowers_52 : decode cX7_weighShowers 52 = .ok (.getfield 105, 3) := by decide +kernel
theorem dX7_weighShowers_55 : decode cX7_weighShowers 55 = .ok (.iload_n 3, 1) := by decide +kernel
theorem dX7_weighShowers_56 : decode cX7_weighShowers 56 = .ok (.isub, 1) := by decide +kernel
theorem dX7_weighShowers_57 : decode cX7_weighShowers 57 = .ok (.invokestatic 261, 3) := by decide +kernel
theorem dX7_weighShowers_60 : decode cX7_weighShowers 60 = .ok (.lmul, 1) := by decide +kernel
theorem dX7_weighShowers_61 : decode cX7_weighShowers 61 = .ok (.lstore 4, 2) := by decide +kernel
theorem dX7_weighShowers_63 : decode cX7_weighShowers 63 = .ok (.lload 4, 2) := by decide +kernel
theorem dX7_weighShowers_65 : decode cX7_weighShowers 65 = .ok (.lconst 0, 1) := by decide +kernel
theorem dX7_weighShowers_66 : decode cX7_weighShowers 66 = .ok (.lcmp, 1) := by decide +kernel
theorem dX7_weighShowers_67 : decode cX7_weighShowers 67 = .ok (.ifCond .le 126, 3) := by decide +kernel
theorem dX7_weighShowers_70 : decode cX7_weighShowers 70 = .ok (.aload_n 0, 1) := by decide +kernel
theorem dX7_weighShowers_71 : decode cX7_weighShowers 71 = .ok (.getfield 73, 3) := by decide +kernel
theorem dX7_weighShowers_74 : decode cX7_weighShowers 74 = .ok (.getfield 244, 3) := by decide +kernel
theorem dX7_weighShowers_77 : decode cX7_weighShowers 77 = .ok (.iconst 0, 1) := by decide +kernel
theorem dX7_weighShowers_78 : decode cX7_weighShowers 78 = .ok (.invokestatic 376, 3) := by decide +kernel
theorem dX7_weighShowers_81 : decode cX7_weighShowers 81 = .ok (.iconst 0, 1) := by decide +kernel
theorem dX7_weighShowers_82 : decode cX7_weighShowers 82 = .ok (.istore 6, 2) := by decide +kernel
theorem dX7_weighShowers_84 : decode cX7_weighShowers 84 = .ok (.iload 6, 2) := by decide +kernel
theorem dX7_weighShowers_86 : decode cX7_weighShowers 86 = .ok (.aload_n 0, 1) := by decide +kernel
theorem dX7_weighShowers_87 : decode cX7_weighShowers 87 = .ok (.getfield 18, 3) := by decide +kernel
theorem dX7_weighShowers_90 : decode cX7_weighShowers 90 = .ok (.getfield 105, 3) := by decide +kernel
theorem dX7_weighShowers_93 : decode cX7_weighShowers 93 = .ok (.if_icmp .ge 36, 3) := by decide +kernel
theorem dX7_weighShowers_96 : decode cX7_weighShowers 96 = .ok (.aload_n 0, 1) := by decide +kernel
theorem dX7_weighShowers_97 : decode cX7_weighShowers 97 = .ok (.getfield 73, 3) := by decide +kernel
theorem dX7_weighShowers_100 : decode cX7_weighShowers 100 = .ok (.getfield 244, 3) := by decide +kernel
theorem dX7_weighShowers_103 : decode cX7_weighShowers 103 = .ok (.aload_n 0, 1) := by decide +kernel
theorem dX7_weighShowers_104 : decode cX7_weighShowers 104 = .ok (.getfield 18, 3) := by decide +kernel
theorem dX7_weighShowers_107 : decode cX7_weighShowers 107 = .ok (.getfield 246, 3) := by decide +kernel
theorem dX7_weighShowers_110 : decode cX7_weighShowers 110 = .ok (.iload 6, 2) := by decide +kernel
theorem dX7_weighShowers_112 : decode cX7_weighShowers 112 = .ok (.iaload, 1) := by decide +kernel
theorem dX7_weighShowers_113 : decode cX7_weighShowers 113 = .ok (.dup2, 1) := by decide +kernel
theorem dX7_weighShowers_114 : decode cX7_weighShowers 114 = .ok (.iaload, 1) := by decide +kernel
theorem dX7_weighShowers_115 : decode cX7_weighShowers 115 = .ok (.iload_n 2, 1) := by decide +kernel
theorem dX7_weighShowers_116 : decode cX7_weighShowers 116 = .ok (.iload 6, 2) := by decide +kernel
theorem dX7_weighShowers_118 : decode cX7_weighShowers 118 = .ok (.ishr, 1) := by decide +kernel
theorem dX7_weighShowers_119 : decode cX7_weighShowers 119 = .ok (.iconst 1, 1) := by decide +kernel
theorem dX7_weighShowers_120 : decode cX7_weighShowers 120 = .ok (.iand, 1) := by decide +kernel
theorem dX7_weighShowers_121 : decode cX7_weighShowers 121 = .ok (.iadd, 1) := by decide +kernel
theorem dX7_weighShowers_122 : decode cX7_weighShowers 122 = .ok (.iastore, 1) := by decide +kernel
theorem dX7_weighShowers_123 : decode cX7_weighShowers 123 = .ok (.iinc 6 1, 3) := by decide +kernel
theorem dX7_weighShowers_126 : decode cX7_weighShowers 126 = .ok (.goto (-42), 3) := by decide +kernel
theorem dX7_weighShowers_129 : decode cX7_weighShowers 129 = .ok (.aload_n 0, 1) := by decide +kernel
theorem dX7_weighShowers_130 : decode cX7_weighShowers 130 = .ok (.getfield 76, 3) := by decide +kernel
theorem dX7_weighShowers_133 : decode cX7_weighShowers 133 = .ok (.aload_n 0, 1) := by decide +kernel
theorem dX7_weighShowers_134 : decode cX7_weighShowers 134 = .ok (.getfield 73, 3) := by decide +kernel
theorem dX7_weighShowers_137 : decode cX7_weighShowers 137 = .ok (.invokevirtual 229, 3) := by decide +kernel
theorem dX7_weighShowers_140 : decode cX7_weighShowers 140 = .ok (.iconst 0, 1) := by decide +kernel
theorem dX7_weighShowers_141 : decode cX7_weighShowers 141 = .ok (.istore 6, 2) := by decide +kernel
theorem dX7_weighShowers_143 : decode cX7_weighShowers 143 = .ok (.iload 6, 2) := by decide +kernel
theorem dX7_weighShowers_145 : decode cX7_weighShowers 145 = .ok (.aload_n 0, 1) := by decide +kernel
theorem dX7_weighShowers_146 : decode cX7_weighShowers 146 = .ok (.getfield 41, 3) := by decide +kernel
theorem dX7_weighShowers_149 : decode cX7_weighShowers 149 = .ok (.getfield 205, 3) := by decide +kernel
theorem dX7_weighShowers_152 : decode cX7_weighShowers 152 = .ok (.if_icmp .ge 41, 3) := by decide +kernel
theorem dX7_weighShowers_155 : decode cX7_weighShowers 155 = .ok (.aload_n 0, 1) := by decide +kernel
theorem dX7_weighShowers_156 : decode cX7_weighShowers 156 = .ok (.getfield 86, 3) := by decide +kernel
theorem dX7_weighShowers_159 : decode cX7_weighShowers 159 = .ok (.iload 6, 2) := by decide +kernel
theorem dX7_weighShowers_161 : decode cX7_weighShowers 161 = .ok (.dup2, 1) := by decide +kernel
theorem dX7_weighShowers_162 : decode cX7_weighShowers 162 = .ok (.laload, 1) := by decide +kernel
theorem dX7_weighShowers_163 : decode cX7_weighShowers 163 = .ok (.aload_n 0, 1) := by decide +kernel
theorem dX7_weighShowers_164 : decode cX7_weighShowers 164 = .ok (.getfield 76, 3) := by decide +kernel
theorem dX7_weighShowers_167 : decode cX7_weighShowers 167 = .ok (.aload_n 0, 1) := by decide +kernel
theorem dX7_weighShowers_168 : decode cX7_weighShowers 168 = .ok (.getfield 41, 3) := by decide +kernel
theorem dX7_weighShowers_171 : decode cX7_weighShowers 171 = .ok (.iload 6, 2) := by decide +kernel
theorem dX7_weighShowers_173 : decode cX7_weighShowers 173 = .ok (.invokevirtual 206, 3) := by decide +kernel
theorem dX7_weighShowers_176 : decode cX7_weighShowers 176 = .ok (.ifCond .eq 8, 3) := by decide +kernel
theorem dX7_weighShowers_179 : decode cX7_weighShowers 179 = .ok (.lload 4, 2) := by decide +kernel
theorem dX7_weighShowers_181 : decode cX7_weighShowers 181 = .ok (.goto 4, 3) := by decide +kernel
theorem dX7_weighShowers_184 : decode cX7_weighShowers 184 = .ok (.lconst 0, 1) := by decide +kernel
theorem dX7_weighShowers_185 : decode cX7_weighShowers 185 = .ok (.ladd, 1) := by decide +kernel
theorem dX7_weighShowers_186 : decode cX7_weighShowers 186 = .ok (.lastore, 1) := by decide +kernel
theorem dX7_weighShowers_187 : decode cX7_weighShowers 187 = .ok (.iinc 6 1, 3) := by decide +kernel
theorem dX7_weighShowers_190 : decode cX7_weighShowers 190 = .ok (.goto (-47), 3) := by decide +kernel
theorem dX7_weighShowers_193 : decode cX7_weighShowers 193 = .ok (.iinc 2 1, 3) := by decide +kernel
theorem dX7_weighShowers_196 : decode cX7_weighShowers 196 = .ok (.goto (-175), 3) := by decide +kernel
theorem dX7_weighShowers_199 : decode cX7_weighShowers 199 = .ok (.return_, 1) := by decide +kernel
theorem dX7_power_0 : decode cX7_power 0 = .ok (.lconst 1, 1) := by decide +kernel
theorem dX7_power_1 : decode cX7_power 1 = .ok (.lstore_n 2, 1) := by decide +kernel
theorem dX7_power_2 : decode cX7_power 2 = .ok (.iconst 0, 1) := by decide +kernel
theorem dX7_power_3 : decode cX7_power 3 = .ok (.istore 4, 2) := by decide +kernel
theorem dX7_power_5 : decode cX7_power 5 = .ok (.iload 4, 2) := by decide +kernel
theorem dX7_power_7 : decode cX7_power 7 = .ok (.iload_n 1, 1) := by decide +kernel
theorem dX7_power_8 : decode cX7_power 8 = .ok (.if_icmp .ge 14, 3) := by decide +kernel
theorem dX7_power_11 : decode cX7_power 11 = .ok (.lload_n 2, 1) := by decide +kernel
theorem dX7_power_12 : decode cX7_power 12 = .ok (.iload_n 0, 1) := by decide +kernel
theorem dX7_power_13 : decode cX7_power 13 = .ok (.i2l, 1) := by decide +kernel
theorem dX7_power_14 : decode cX7_power 14 = .ok (.lmul, 1) := by decide +kernel
theorem dX7_power_15 : decode cX7_power 15 = .ok (.lstore_n 2, 1) := by decide +kernel
theorem dX7_power_16 : decode cX7_power 16 = .ok (.iinc 4 1, 3) := by decide +kernel
theorem dX7_power_19 : decode cX7_power 19 = .ok (.goto (-14), 3) := by decide +kernel
theorem dX7_power_22 : decode cX7_power 22 = .ok (.lload_n 2, 1) := by decide +kernel
theorem dX7_power_23 : decode cX7_power 23 = .ok (.lreturn, 1) := by decide +kernel
theorem dX7_isFigure_0 : decode cX7_isFigure 0 = .ok (.iload_n 0, 1) := by decide +kernel
theorem dX7_isFigure_1 : decode cX7_isFigure 1 = .ok (.iload_n 1, 1) := by decide +kernel
theorem dX7_isFigure_2 : decode cX7_isFigure 2 = .ok (.if_icmp .lt 12, 3) := by decide +kernel
theorem dX7_isFigure_5 : decode cX7_isFigure 5 = .ok (.iload_n 0, 1) := by decide +kernel
theorem dX7_isFigure_6 : decode cX7_isFigure 6 = .ok (.iload_n 2, 1) := by decide +kernel
theorem dX7_isFigure_7 : decode cX7_isFigure 7 = .ok (.if_icmp .gt 7, 3) := by decide +kernel
theorem dX7_isFigure_10 : decode cX7_isFigure 10 = .ok (.iconst 1, 1) := by decide +kernel
theorem dX7_isFigure_11 : decode cX7_isFigure 11 = .ok (.goto 4, 3) := by decide +kernel
theorem dX7_isFigure_14 : decode cX7_isFigure 14 = .ok (.iconst 0, 1) := by decide +kernel
theorem dX7_isFigure_15 : decode cX7_isFigure 15 = .ok (.ireturn, 1) := by decide +kernel
theorem dX7_tideFault_0 : decode cX7_tideFault 0 = .ok (.iconst 0, 1) := by decide +kernel
theorem dX7_tideFault_1 : decode cX7_tideFault 1 = .ok (.istore_n 1, 1) := by decide +kernel
theorem dX7_tideFault_2 : decode cX7_tideFault 2 = .ok (.iload_n 1, 1) := by decide +kernel
theorem dX7_tideFault_3 : decode cX7_tideFault 3 = .ok (.aload_n 0, 1) := by decide +kernel
theorem dX7_tideFault_4 : decode cX7_tideFault 4 = .ok (.getfield 105, 3) := by decide +kernel
theorem dX7_tideFault_7 : decode cX7_tideFault 7 = .ok (.if_icmp .ge 27, 3) := by decide +kernel
theorem dX7_tideFault_10 : decode cX7_tideFault 10 = .ok (.aload_n 0, 1) := by decide +kernel
theorem dX7_tideFault_11 : decode cX7_tideFault 11 = .ok (.getfield 246, 3) := by decide +kernel
theorem dX7_tideFault_14 : decode cX7_tideFault 14 = .ok (.iload_n 1, 1) := by decide +kernel
theorem dX7_tideFault_15 : decode cX7_tideFault 15 = .ok (.iaload, 1) := by decide +kernel
theorem dX7_tideFault_16 : decode cX7_tideFault 16 = .ok (.bipush 48, 2) := by decide +kernel
theorem dX7_tideFault_18 : decode cX7_tideFault 18 = .ok (.bipush 57, 2) := by decide +kernel
theorem dX7_tideFault_20 : decode cX7_tideFault 20 = .ok (.invokestatic 393, 3) := by decide +kernel
theorem dX7_tideFault_23 : decode cX7_tideFault 23 = .ok (.ifCond .ne 5, 3) := by decide +kernel
theorem dX7_tideFault_26 : decode cX7_tideFault 26 = .ok (.iload_n 1, 1) := by decide +kernel
theorem dX7_tideFault_27 : decode cX7_tideFault 27 = .ok (.ireturn, 1) := by decide +kernel
theorem dX7_tideFault_28 : decode cX7_tideFault 28 = .ok (.iinc 1 1, 3) := by decide +kernel
theorem dX7_tideFault_31 : decode cX7_tideFault 31 = .ok (.goto (-29), 3) := by decide +kernel
theorem dX7_tideFault_34 : decode cX7_tideFault 34 = .ok (.iconst (-1), 1) := by decide +kernel
theorem dX7_tideFault_35 : decode cX7_tideFault 35 = .ok (.ireturn, 1) := by decide +kernel
theorem dX7_orderFault_0 : decode cX7_orderFault 0 = .ok (.iconst 0, 1) := by decide +kernel
theorem dX7_orderFault_1 : decode cX7_orderFault 1 = .ok (.istore_n 1, 1) := by decide +kernel
theorem dX7_orderFault_2 : decode cX7_orderFault 2 = .ok (.iload_n 1, 1) := by decide +kernel
theorem dX7_orderFault_3 : decode cX7_orderFault 3 = .ok (.aload_n 0, 1) := by decide +kernel
theorem dX7_orderFault_4 : decode cX7_orderFault 4 = .ok (.getfield 105, 3) := by decide +kernel
theorem dX7_orderFault_7 : decode cX7_orderFault 7 = .ok (.if_icmp .ge 27, 3) := by decide +kernel
theorem dX7_orderFault_10 : decode cX7_orderFault 10 = .ok (.aload_n 0, 1) := by decide +kernel
theorem dX7_orderFault_11 : decode cX7_orderFault 11 = .ok (.getfield 246, 3) := by decide +kernel
theorem dX7_orderFault_14 : decode cX7_orderFault 14 = .ok (.iload_n 1, 1) := by decide +kernel
theorem dX7_orderFault_15 : decode cX7_orderFault 15 = .ok (.iaload, 1) := by decide +kernel
theorem dX7_orderFault_16 : decode cX7_orderFault 16 = .ok (.iload_n 1, 1) := by decide +kernel
theorem dX7_orderFault_17 : decode cX7_orderFault 17 = .ok (.bipush 6, 2) := by decide +kernel
theorem dX7_orderFault_19 : decode cX7_orderFault 19 = .ok (.irem, 1) := by decide +kernel
theorem dX7_orderFault_20 : decode cX7_orderFault 20 = .ok (.invokestatic 397, 3) := by decide +kernel
theorem dX7_orderFault_23 : decode cX7_orderFault 23 = .ok (.ifCond .ne 5, 3) := by decide +kernel
theorem dX7_orderFault_26 : decode cX7_orderFault 26 = .ok (.iload_n 1, 1) := by decide +kernel
theorem dX7_orderFault_27 : decode cX7_orderFault 27 = .ok (.ireturn, 1) := by decide +kernel
theorem dX7_orderFault_28 : decode cX7_orderFault 28 = .ok (.iinc 1 1, 3) := by decide +kernel
theorem dX7_orderFault_31 : decode cX7_orderFault 31 = .ok (.goto (-29), 3) := by decide +kernel
theorem dX7_orderFault_34 : decode cX7_orderFault 34 = .ok (.aload_n 0, 1) := by decide +kernel
theorem dX7_orderFault_35 : decode cX7_orderFault 35 = .ok (.getfield 105, 3) := by decide +kernel
theorem dX7_orderFault_38 : decode cX7_orderFault 38 = .ok (.ifCond .eq 14, 3) := by decide +kernel
theorem dX7_orderFault_41 : decode cX7_orderFault 41 = .ok (.aload_n 0, 1) := by decide +kernel
theorem dX7_orderFault_42 : decode cX7_orderFault 42 = .ok (.getfield 105, 3) := by decide +kernel
theorem dX7_orderFault_45 : decode cX7_orderFault 45 = .ok (.bipush 6, 2) := by decide +kernel
theorem dX7_orderFault_47 : decode cX7_orderFault 47 = .ok (.irem, 1) := by decide +kernel
theorem dX7_orderFault_48 : decode cX7_orderFault 48 = .ok (.iconst 5, 1) := by decide +kernel
theorem dX7_orderFault_49 : decode cX7_orderFault 49 = .ok (.if_icmp .ne 7, 3) := by decide +kernel
theorem dX7_orderFault_52 : decode cX7_orderFault 52 = .ok (.iconst 1, 1) := by decide +kernel
theorem dX7_orderFault_53 : decode cX7_orderFault 53 = .ok (.goto 4, 3) := by decide +kernel
theorem dX7_orderFault_56 : decode cX7_orderFault 56 = .ok (.iconst 0, 1) := by decide +kernel
theorem dX7_orderFault_57 : decode cX7_orderFault 57 = .ok (.istore_n 1, 1) := by decide +kernel
theorem dX7_orderFault_58 : decode cX7_orderFault 58 = .ok (.iload_n 1, 1) := by decide +kernel
theorem dX7_orderFault_59 : decode cX7_orderFault 59 = .ok (.ifCond .eq 7, 3) := by decide +kernel
theorem dX7_orderFault_62 : decode cX7_orderFault 62 = .ok (.iconst (-1), 1) := by decide +kernel
theorem dX7_orderFault_63 : decode cX7_orderFault 63 = .ok (.goto 7, 3) := by decide +kernel
theorem dX7_orderFault_66 : decode cX7_orderFault 66 = .ok (.aload_n 0, 1) := by decide +kernel
theorem dX7_orderFault_67 : decode cX7_orderFault 67 = .ok (.getfield 105, 3) := by decide +kernel
theorem dX7_orderFault_70 : decode cX7_orderFault 70 = .ok (.ireturn, 1) := by decide +kernel
theorem dX7_fitsOrder_0 : decode cX7_fitsOrder 0 = .ok (.iload_n 1, 1) := by decide +kernel
theorem dX7_fitsOrder_1 : decode cX7_fitsOrder 1 = .ok (.tableswitch 93 0 5 #[39, 63, 72, 93, 93, 81], 39) := by decide +kernel
theorem dX7_fitsOrder_40 : decode cX7_fitsOrder 40 = .ok (.iload_n 0, 1) := by decide +kernel
theorem dX7_fitsOrder_41 : decode cX7_fitsOrder 41 = .ok (.bipush 119, 2) := by decide +kernel
theorem dX7_fitsOrder_43 : decode cX7_fitsOrder 43 = .ok (.if_icmp .eq 15, 3) := by decide +kernel
theorem dX7_fitsOrder_46 : decode cX7_fitsOrder 46 = .ok (.iload_n 0, 1) := by decide +kernel
theorem dX7_fitsOrder_47 : decode cX7_fitsOrder 47 = .ok (.bipush 114, 2) := by decide +kernel
theorem dX7_fitsOrder_49 : decode cX7_fitsOrder 49 = .ok (.if_icmp .eq 9, 3) := by decide +kernel
theorem dX7_fitsOrder_52 : decode cX7_fitsOrder 52 = .ok (.iload_n 0, 1) := by decide +kernel
theorem dX7_fitsOrder_53 : decode cX7_fitsOrder 53 = .ok (.bipush 111, 2) := by decide +kernel
theorem dX7_fitsOrder_55 : decode cX7_fitsOrder 55 = .ok (.if_icmp .ne 7, 3) := by decide +kernel
theorem dX7_fitsOrder_58 : decode cX7_fitsOrder 58 = .ok (.iconst 1, 1) := by decide +kernel
theorem dX7_fitsOrder_59 : decode cX7_fitsOrder 59 = .ok (.goto 4, 3) := by decide +kernel
theorem dX7_fitsOrder_62 : decode cX7_fitsOrder 62 = .ok (.iconst 0, 1) := by decide +kernel
theorem dX7_fitsOrder_63 : decode cX7_fitsOrder 63 = .ok (.ireturn, 1) := by decide +kernel
theorem dX7_fitsOrder_64 : decode cX7_fitsOrder 64 = .ok (.iload_n 0, 1) := by decide +kernel
theorem dX7_fitsOrder_65 : decode cX7_fitsOrder 65 = .ok (.bipush 49, 2) := by decide +kernel
theorem dX7_fitsOrder_67 : decode cX7_fitsOrder 67 = .ok (.bipush 57, 2) := by decide +kernel
theorem dX7_fitsOrder_69 : decode cX7_fitsOrder 69 = .ok (.invokestatic 393, 3) := by decide +kernel
theorem dX7_fitsOrder_72 : decode cX7_fitsOrder 72 = .ok (.ireturn, 1) := by decide +kernel
theorem dX7_fitsOrder_73 : decode cX7_fitsOrder 73 = .ok (.iload_n 0, 1) := by decide +kernel
theorem dX7_fitsOrder_74 : decode cX7_fitsOrder 74 = .ok (.bipush 48, 2) := by decide +kernel
theorem dX7_fitsOrder_76 : decode cX7_fitsOrder 76 = .ok (.bipush 51, 2) := by decide +kernel
theorem dX7_fitsOrder_78 : decode cX7_fitsOrder 78 = .ok (.invokestatic 393, 3) := by decide +kernel
theorem dX7_fitsOrder_81 : decode cX7_fitsOrder 81 = .ok (.ireturn, 1) := by decide +kernel
theorem dX7_fitsOrder_82 : decode cX7_fitsOrder 82 = .ok (.iload_n 0, 1) := by decide +kernel
theorem dX7_fitsOrder_83 : decode cX7_fitsOrder 83 = .ok (.bipush 59, 2) := by decide +kernel
theorem dX7_fitsOrder_85 : decode cX7_fitsOrder 85 = .ok (.if_icmp .ne 7, 3) := by decide +kernel
theorem dX7_fitsOrder_88 : decode cX7_fitsOrder 88 = .ok (.iconst 1, 1) := by decide +kernel
theorem dX7_fitsOrder_89 : decode cX7_fitsOrder 89 = .ok (.goto 4, 3) := by decide +kernel
theorem dX7_fitsOrder_92 : decode cX7_fitsOrder 92 = .ok (.iconst 0, 1) := by decide +kernel
theorem dX7_fitsOrder_93 : decode cX7_fitsOrder 93 = .ok (.ireturn, 1) := by decide +kernel
theorem dX7_fitsOrder_94 : decode cX7_fitsOrder 94 = .ok (.iload_n 0, 1) := by decide +kernel
theorem dX7_fitsOrder_95 : decode cX7_fitsOrder 95 = .ok (.bipush 48, 2) := by decide +kernel
theorem dX7_fitsOrder_97 : decode cX7_fitsOrder 97 = .ok (.bipush 57, 2) := by decide +kernel
theorem dX7_fitsOrder_99 : decode cX7_fitsOrder 99 = .ok (.invokestatic 393, 3) := by decide +kernel
theorem dX7_fitsOrder_102 : decode cX7_fitsOrder 102 = .ok (.ireturn, 1) := by decide +kernel
end
section
theorem dX8_init_0 : decode cX8_init 0 = .ok (.aload_n 0, 1) := by decide +kernel
theorem dX8_init_1 : decode cX8_init 1 = .ok (.invokespecial 1, 3) := by decide +kernel
theorem dX8_init_4 : decode cX8_init 4 = .ok (.aload_n 0, 1) := by decide +kernel
theorem dX8_init_5 : decode cX8_init 5 = .ok (.iconst 2, 1) := by decide +kernel
theorem dX8_init_6 : decode cX8_init 6 = .ok (.newarray .int, 2) := by decide +kernel
theorem dX8_init_8 : decode cX8_init 8 = .ok (.putfield 7, 3) := by decide +kernel
theorem dX8_init_11 : decode cX8_init 11 = .ok (.aload_n 0, 1) := by decide +kernel
theorem dX8_init_12 : decode cX8_init 12 = .ok (.bipush 94, 2) := by decide +kernel
theorem dX8_init_14 : decode cX8_init 14 = .ok (.newarray .int, 2) := by decide +kernel
theorem dX8_init_16 : decode cX8_init 16 = .ok (.putfield 13, 3) := by decide +kernel
theorem dX8_init_19 : decode cX8_init 19 = .ok (.aload_n 0, 1) := by decide +kernel
theorem dX8_init_20 : decode cX8_init 20 = .ok (.bipush 40, 2) := by decide +kernel
theorem dX8_init_22 : decode cX8_init 22 = .ok (.newarray .int, 2) := by decide +kernel
theorem dX8_init_24 : decode cX8_init 24 = .ok (.putfield 16, 3) := by decide +kernel
theorem dX8_init_27 : decode cX8_init 27 = .ok (.aload_n 0, 1) := by decide +kernel
theorem dX8_init_28 : decode cX8_init 28 = .ok (.bipush 9, 2) := by decide +kernel
theorem dX8_init_30 : decode cX8_init 30 = .ok (.newarray .int, 2) := by decide +kernel
theorem dX8_init_32 : decode cX8_init 32 = .ok (.putfield 19, 3) := by decide +kernel
theorem dX8_init_35 : decode cX8_init 35 = .ok (.aload_n 0, 1) := by decide +kernel
theorem dX8_init_36 : decode cX8_init 36 = .ok (.bipush 9, 2) := by decide +kernel
theorem dX8_init_38 : decode cX8_init 38 = .ok (.newarray .int, 2) := by decide +kernel
theorem dX8_init_40 : decode cX8_init 40 = .ok (.putfield 22, 3) := by decide +kernel
theorem dX8_init_43 : decode cX8_init 43 = .ok (.aload_n 0, 1) := by decide +kernel
theorem dX8_init_44 : decode cX8_init 44 = .ok (.bipush 9, 2) := by decide +kernel
theorem dX8_init_46 : decode cX8_init 46 = .ok (.newarray .int, 2) := by decide +kernel
theorem dX8_init_48 : decode cX8_init 48 = .ok (.putfield 25, 3) := by decide +kernel
theorem dX8_init_51 : decode cX8_init 51 = .ok (.aload_n 0, 1) := by decide +kernel
theorem dX8_init_52 : decode cX8_init 52 = .ok (.bipush 9, 2) := by decide +kernel
theorem dX8_init_54 : decode cX8_init 54 = .ok (.newarray .int, 2) := by decide +kernel
theorem dX8_init_56 : decode cX8_init 56 = .ok (.putfield 28, 3) := by decide +kernel
theorem dX8_init_59 : decode cX8_init 59 = .ok (.aload_n 0, 1) := by decide +kernel
theorem dX8_init_60 : decode cX8_init 60 = .ok (.iconst 5, 1) := by decide +kernel
theorem dX8_init_61 : decode cX8_init 61 = .ok (.newarray .int, 2) := by decide +kernel
theorem dX8_init_63 : decode cX8_init 63 = .ok (.putfield 31, 3) := by decide +kernel
theorem dX8_init_66 : decode cX8_init 66 = .ok (.aload_n 0, 1) := by decide +kernel
theorem dX8_init_67 : decode cX8_init 67 = .ok (.bipush 6, 2) := by decide +kernel
theorem dX8_init_69 : decode cX8_init 69 = .ok (.newarray .int, 2) := by decide +kernel
theorem dX8_init_71 : decode cX8_init 71 = .ok (.putfield 34, 3) := by decide +kernel
theorem dX8_init_74 : decode cX8_init 74 = .ok (.aload_n 0, 1) := by decide +kernel
theorem dX8_init_75 : decode cX8_init 75 = .ok (.bipush 7, 2) := by decide +kernel
theorem dX8_init_77 : decode cX8_init 77 = .ok (.newarray .int, 2) := by decide +kernel
theorem dX8_init_79 : decode cX8_init 79 = .ok (.putfield 37, 3) := by decide +kernel
theorem dX8_init_82 : decode cX8_init 82 = .ok (.aload_n 0, 1) := by decide +kernel
theorem dX8_init_83 : decode cX8_init 83 = .ok (.bipush 40, 2) := by decide +kernel
theorem dX8_init_85 : decode cX8_init 85 = .ok (.newarray .int, 2) := by decide +kernel
theorem dX8_init_87 : decode cX8_init 87 = .ok (.putfield 40, 3) := by decide +kernel
theorem dX8_init_90 : decode cX8_init 90 = .ok (.aload_n 0, 1) := by decide +kernel
theorem dX8_init_91 : decode cX8_init 91 = .ok (.bipush 8, 2) := by decide +kernel
theorem dX8_init_93 : decode cX8_init 93 = .ok (.newarray .int, 2) := by decide +kernel
theorem dX8_init_95 : decode cX8_init 95 = .ok (.putfield 43, 3) := by decide +kernel
theorem dX8_init_98 : decode cX8_init 98 = .ok (.aload_n 0, 1) := by decide +kernel
theorem dX8_init_99 : decode cX8_init 99 = .ok (.bipush 40, 2) := by decide +kernel
theorem dX8_init_101 : decode cX8_init 101 = .ok (.newarray .int, 2) := by decide +kernel
theorem dX8_init_103 : decode cX8_init 103 = .ok (.putfield 46, 3) := by decide +kernel
theorem dX8_init_106 : decode cX8_init 106 = .ok (.aload_n 0, 1) := by decide +kernel
theorem dX8_init_107 : decode cX8_init 107 = .ok (.bipush 40, 2) := by decide +kernel
theorem dX8_init_109 : decode cX8_init 109 = .ok (.newarray .int, 2) := by decide +kernel
theorem dX8_init_111 : decode cX8_init 111 = .ok (.putfield 49, 3) := by decide +kernel
theorem dX8_init_114 : decode cX8_init 114 = .ok (.aload_n 0, 1) := by decide +kernel
theorem dX8_init_115 : decode cX8_init 115 = .ok (.bipush 40, 2) := by decide +kernel
theorem dX8_init_117 : decode cX8_init 117 = .ok (.newarray .int, 2) := by decide +kernel
theorem dX8_init_119 : decode cX8_init 119 = .ok (.putfield 52, 3) := by decide +kernel
theorem dX8_init_122 : decode cX8_init 122 = .ok (.aload_n 0, 1) := by decide +kernel
theorem dX8_init_123 : decode cX8_init 123 = .ok (.bipush 40, 2) := by decide +kernel
theorem dX8_init_125 : decode cX8_init 125 = .ok (.newarray .int, 2) := by decide +kernel
theorem dX8_init_127 : decode cX8_init 127 = .ok (.putfield 55, 3) := by decide +kernel
theorem dX8_init_130 : decode cX8_init 130 = .ok (.aload_n 0, 1) := by decide +kernel
theorem dX8_init_131 : decode cX8_init 131 = .ok (.bipush 40, 2) := by decide +kernel
theorem dX8_init_133 : decode cX8_init 133 = .ok (.newarray .int, 2) := by decide +kernel
theorem dX8_init_135 : decode cX8_init 135 = .ok (.putfield 58, 3) := by decide +kernel
theorem dX8_init_138 : decode cX8_init 138 = .ok (.aload_n 0, 1) := by decide +kernel
theorem dX8_init_139 : decode cX8_init 139 = .ok (.bipush 8, 2) := by decide +kernel
theorem dX8_init_141 : decode cX8_init 141 = .ok (.newarray .int, 2) := by decide +kernel
theorem dX8_init_143 : decode cX8_init 143 = .ok (.putfield 61, 3) := by decide +kernel
theorem dX8_init_146 : decode cX8_init 146 = .ok (.aload_n 0, 1) := by decide +kernel
theorem dX8_init_147 : decode cX8_init 147 = .ok (.bipush 8, 2) := by decide +kernel
theorem dX8_init_149 : decode cX8_init 149 = .ok (.newarray .int, 2) := by decide +kernel
theorem dX8_init_151 : decode cX8_init 151 = .ok (.putfield 64, 3) := by decide +kernel
theorem dX8_init_154 : decode cX8_init 154 = .ok (.aload_n 0, 1) := by decide +kernel
theorem dX8_init_155 : decode cX8_init 155 = .ok (.bipush 8, 2) := by decide +kernel
theorem dX8_init_157 : decode cX8_init 157 = .ok (.newarray .int, 2) := by decide +kernel
theorem dX8_init_159 : decode cX8_init 159 = .ok (.putfield 67, 3) := by decide +kernel
theorem dX8_init_162 : decode cX8_init 162 = .ok (.aload_n 0, 1) := by decide +kernel
theorem dX8_init_163 : decode cX8_init 163 = .ok (.bipush 8, 2) := by decide +kernel
theorem dX8_init_165 : decode cX8_init 165 = .ok (.newarray .int, 2) := by decide +kernel
theorem dX8_init_167 : decode cX8_init 167 = .ok (.putfield 70, 3) := by decide +kernel
theorem dX8_init_170 : decode cX8_init 170 = .ok (.aload_n 0, 1) := by decide +kernel
theorem dX8_init_171 : decode cX8_init 171 = .ok (.sipush 840, 3) := by decide +kernel
theorem dX8_init_174 : decode cX8_init 174 = .ok (.newarray .int, 2) := by decide +kernel
theorem dX8_init_176 : decode cX8_init 176 = .ok (.putfield 73, 3) := by decide +kernel
theorem dX8_init_179 : decode cX8_init 179 = .ok (.aload_n 0, 1) := by decide +kernel
theorem dX8_init_180 : decode cX8_init 180 = .ok (.iconst 4, 1) := by decide +kernel
theorem dX8_init_181 : decode cX8_init 181 = .ok (.newarray .boolean, 2) := by decide +kernel
theorem dX8_init_183 : decode cX8_init 183 = .ok (.putfield 76, 3) := by decide +kernel
theorem dX8_init_186 : decode cX8_init 186 = .ok (.aload_n 0, 1) := by decide +kernel
theorem dX8_init_187 : decode cX8_init 187 = .ok (.iconst 4, 1) := by decide +kernel
theorem dX8_init_188 : decode cX8_init 188 = .ok (.newarray .int, 2) := by decide +kernel
theorem dX8_init_190 : decode cX8_init 190 = .ok (.putfield 80, 3) := by decide +kernel
theorem dX8_init_193 : decode cX8_init 193 = .ok (.aload_n 0, 1) := by decide +kernel
theorem dX8_init_194 : decode cX8_init 194 = .ok (.iconst 4, 1) := by decide +kernel
theorem dX8_init_195 : decode cX8_init 195 = .ok (.newarray .int, 2) := by decide +kernel
theorem dX8_init_197 : decode cX8_init 197 = .ok (.putfield 83, 3) := by decide +kernel
theorem dX8_init_200 : decode cX8_init 200 = .ok (.aload_n 0, 1) := by decide +kernel
theorem dX8_init_201 : decode cX8_init 201 = .ok (.sipush 240, 3) := by decide +kernel
theorem dX8_init_204 : decode cX8_init 204 = .ok (.newarray .int, 2) := by decide +kernel
theorem dX8_init_206 : decode cX8_init 206 = .ok (.putfield 86, 3) := by decide +kernel
theorem dX8_init_209 : decode cX8_init 209 = .ok (.aload_n 0, 1) := by decide +kernel
theorem dX8_init_210 : decode cX8_init 210 = .ok (.bipush 60, 2) := by decide +kernel
theorem dX8_init_212 : decode cX8_init 212 = .ok (.newarray .int, 2) := by decide +kernel
theorem dX8_init_214 : decode cX8_init 214 = .ok (.putfield 89, 3) := by decide +kernel
theorem dX8_init_217 : decode cX8_init 217 = .ok (.aload_n 0, 1) := by decide +kernel
theorem dX8_init_218 : decode cX8_init 218 = .ok (.getfield 31, 3) := by decide +kernel
theorem dX8_init_221 : decode cX8_init 221 = .ok (.iconst 0, 1) := by decide +kernel
theorem dX8_init_222 : decode cX8_init 222 = .ok (.bipush 10, 2) := by decide +kernel
theorem dX8_init_224 : decode cX8_init 224 = .ok (.iastore, 1) := by decide +kernel
theorem dX8_init_225 : decode cX8_init 225 = .ok (.aload_n 0, 1) := by decide +kernel
theorem dX8_init_226 : decode cX8_init 226 = .ok (.getfield 31, 3) := by decide +kernel
theorem dX8_init_229 : decode cX8_init 229 = .ok (.iconst 1, 1) := by decide +kernel
theorem dX8_init_230 : decode cX8_init 230 = .ok (.iconst 4, 1) := by decide +kernel
theorem dX8_init_231 : decode cX8_init 231 = .ok (.iastore, 1) := by decide +kernel
theorem dX8_init_232 : decode cX8_init 232 = .ok (.aload_n 0, 1) := by decide +kernel
theorem dX8_init_233 : decode cX8_init 233 = .ok (.getfield 31, 3) := by decide +kernel
theorem dX8_init_236 : decode cX8_init 236 = .ok (.iconst 2, 1) := by decide +kernel
theorem dX8_init_237 : decode cX8_init 237 = .ok (.iconst 0, 1) := by decide +kernel
theorem dX8_init_238 : decode cX8_init 238 = .ok (.iastore, 1) := by decide +kernel
theorem dX8_init_239 : decode cX8_init 239 = .ok (.aload_n 0, 1) := by decide +kernel
theorem dX8_init_240 : decode cX8_init 240 = .ok (.getfield 31, 3) := by decide +kernel
theorem dX8_init_243 : decode cX8_init 243 = .ok (.iconst 3, 1) := by decide +kernel
theorem dX8_init_244 : decode cX8_init 244 = .ok (.iconst 2, 1) := by decide +kernel
theorem dX8_init_245 : decode cX8_init 245 = .ok (.iastore, 1) := by decide +kernel
theorem dX8_init_246 : decode cX8_init 246 = .ok (.aload_n 0, 1) := by decide +kernel
theorem dX8_init_247 : decode cX8_init 247 = .ok (.getfield 31, 3) := by decide +kernel
theorem dX8_init_250 : decode cX8_init 250 = .ok (.iconst 4, 1) := by decide +kernel
theorem dX8_init_251 : decode cX8_init 251 = .ok (.iconst 5, 1) := by decide +kernel
theorem dX8_init_252 : decode cX8_init 252 = .ok (.iastore, 1) := by decide +kernel
theorem dX8_init_253 : decode cX8_init 253 = .ok (.return_, 1) := by decide +kernel
theorem dX8_in_0 : decode cX8_in 0 = .ok (.iload_n 0, 1) := by decide +kernel
theorem dX8_in_1 : decode cX8_in 1 = .ok (.iload_n 1, 1) := by decide +kernel
theorem dX8_in_2 : decode cX8_in 2 = .ok (.if_icmp .lt 12, 3) := by decide +kernel
theorem dX8_in_5 : decode cX8_in 5 = .ok (.iload_n 0, 1) := by decide +kernel
theorem dX8_in_6 : decode cX8_in 6 = .ok (.iload_n 2, 1) := by decide +kernel
theorem dX8_in_7 : decode cX8_in 7 = .ok (.if_icmp .gt 7, 3) := by decide +kernel
theorem dX8_in_10 : decode cX8_in 10 = .ok (.iconst 1, 1) := by decide +kernel
theorem dX8_in_11 : decode cX8_in 11 = .ok (.goto 4, 3) := by decide +kernel
theorem dX8_in_14 : decode cX8_in 14 = .ok (.iconst 0, 1) := by decide +kernel
theorem dX8_in_15 : decode cX8_in 15 = .ok (.ireturn, 1) := by decide +kernel
theorem dX8_isIn_0 : decode cX8_isIn 0 = .ok (.iload_n 0, 1) := by decide +kernel
theorem dX8_isIn_1 : decode cX8_isIn 1 = .ok (.iload_n 1, 1) := by decide +kernel
theorem dX8_isIn_2 : decode cX8_isIn 2 = .ok (.ishr, 1) := by decide +kernel
theorem dX8_isIn_3 : decode cX8_isIn 3 = .ok (.iconst 1, 1) := by decide +kernel
theorem dX8_isIn_4 : decode cX8_isIn 4 = .ok (.iand, 1) := by decide +kernel
theorem dX8_isIn_5 : decode cX8_isIn 5 = .ok (.iconst 1, 1) := by decide +kernel
theorem dX8_isIn_6 : decode cX8_isIn 6 = .ok (.if_icmp .ne 7, 3) := by decide +kernel
theorem dX8_isIn_9 : decode cX8_isIn 9 = .ok (.iconst 1, 1) := by decide +kernel
theorem dX8_isIn_10 : decode cX8_isIn 10 = .ok (.goto 4, 3) := by decide +kernel
theorem dX8_isIn_13 : decode cX8_isIn 13 = .ok (.iconst 0, 1) := by decide +kernel
theorem dX8_isIn_14 : decode cX8_isIn 14 = .ok (.ireturn, 1) := by decide +kernel
theorem dX8_no_0 : decode cX8_no 0 = .ok (.ldc2_w 92, 3) := by decide +kernel
theorem dX8_no_3 : decode cX8_no 3 = .ok (.iload_n 0, 1) := by decide +kernel
theorem dX8_no_4 : decode cX8_no 4 = .ok (.i2l, 1) := by decide +kernel
theorem dX8_no_5 : decode cX8_no 5 = .ok (.lsub, 1) := by decide +kernel
theorem dX8_no_6 : decode cX8_no 6 = .ok (.lreturn, 1) := by decide +kernel
theorem dX8_lowest_0 : decode cX8_lowest 0 = .ok (.lload_n 0, 1) := by decide +kernel
theorem dX8_lowest_1 : decode cX8_lowest 1 = .ok (.lstore 5, 2) := by decide +kernel
theorem dX8_lowest_3 : decode cX8_lowest 3 = .ok (.lload_n 2, 1) := by decide +kernel
theorem dX8_lowest_4 : decode cX8_lowest 4 = .ok (.lstore 7, 2) := by decide +kernel
theorem dX8_lowest_6 : decode cX8_lowest 6 = .ok (.lload 7, 2) := by decide +kernel
theorem dX8_lowest_8 : decode cX8_lowest 8 = .ok (.lconst 0, 1) := by decide +kernel
theorem dX8_lowest_9 : decode cX8_lowest 9 = .ok (.lcmp, 1) := by decide +kernel
theorem dX8_lowest_10 : decode cX8_lowest 10 = .ok (.ifCond .eq 21, 3) := by decide +kernel
theorem dX8_lowest_13 : decode cX8_lowest 13 = .ok (.lload 5, 2) := by decide +kernel
theorem dX8_lowest_15 : decode cX8_lowest 15 = .ok (.lload 7, 2) := by decide +kernel
theorem dX8_lowest_17 : decode cX8_lowest 17 = .ok (.lrem, 1) := by decide +kernel
theorem dX8_lowest_18 : decode cX8_lowest 18 = .ok (.lstore 9, 2) := by decide +kernel
theorem dX8_lowest_20 : decode cX8_lowest 20 = .ok (.lload 7, 2) := by decide +kernel
theorem dX8_lowest_22 : decode cX8_lowest 22 = .ok (.lstore 5, 2) := by decide +kernel
theorem dX8_lowest_24 : decode cX8_lowest 24 = .ok (.lload 9, 2) := by decide +kernel
theorem dX8_lowest_26 : decode cX8_lowest 26 = .ok (.lstore 7, 2) := by decide +kernel
theorem dX8_lowest_28 : decode cX8_lowest 28 = .ok (.goto (-22), 3) := by decide +kernel
theorem dX8_lowest_31 : decode cX8_lowest 31 = .ok (.iload 4, 2) := by decide +kernel
theorem dX8_lowest_33 : decode cX8_lowest 33 = .ok (.ifCond .ne 10, 3) := by decide +kernel
theorem dX8_lowest_36 : decode cX8_lowest 36 = .ok (.lload_n 0, 1) := by decide +kernel
theorem dX8_lowest_37 : decode cX8_lowest 37 = .ok (.lload 5, 2) := by decide +kernel
theorem dX8_lowest_39 : decode cX8_lowest 39 = .ok (.ldiv, 1) := by decide +kernel
theorem dX8_lowest_40 : decode cX8_lowest 40 = .ok (.goto 7, 3) := by decide +kernel
theorem dX8_lowest_43 : decode cX8_lowest 43 = .ok (.lload_n 2, 1) := by decide +kernel
theorem dX8_lowest_44 : decode cX8_lowest 44 = .ok (.lload 5, 2) := by decide +kernel
theorem dX8_lowest_46 : decode cX8_lowest 46 = .ok (.ldiv, 1) := by decide +kernel
theorem dX8_lowest_47 : decode cX8_lowest 47 = .ok (.lreturn, 1) := by decide +kernel
theorem dX8_isText_0 : decode cX8_isText 0 = .ok (.iload_n 0, 1) := by decide +kernel
theorem dX8_isText_1 : decode cX8_isText 1 = .ok (.iconst 0, 1) := by decide +kernel
theorem dX8_isText_2 : decode cX8_isText 2 = .ok (.iconst 1, 1) := by decide +kernel
theorem dX8_isText_3 : decode cX8_isText 3 = .ok (.invokestatic 94, 3) := by decide +kernel
theorem dX8_isText_6 : decode cX8_isText 6 = .ok (.ireturn, 1) := by decide +kernel
theorem dX8_isHour_0 : decode cX8_isHour 0 = .ok (.iload_n 0, 1) := by decide +kernel
theorem dX8_isHour_1 : decode cX8_isHour 1 = .ok (.iconst 0, 1) := by decide +kernel
theorem dX8_isHour_2 : decode cX8_isHour 2 = .ok (.bipush 39, 2) := by decide +kernel
theorem dX8_isHour_4 : decode cX8_isHour 4 = .ok (.invokestatic 94, 3) := by decide +kernel
theorem dX8_isHour_7 : decode cX8_isHour 7 = .ok (.ireturn, 1) := by decide +kernel
theorem dX8_type_0 : decode cX8_type 0 = .ok (.iload_n 1, 1) := by decide +kernel
theorem dX8_type_1 : decode cX8_type 1 = .ok (.invokestatic 98, 3) := by decide +kernel
theorem dX8_type_4 : decode cX8_type 4 = .ok (.ifCond .eq 14, 3) := by decide +kernel
theorem dX8_type_7 : decode cX8_type 7 = .ok (.iload_n 2, 1) := by decide +kernel
theorem dX8_type_8 : decode cX8_type 8 = .ok (.iconst 0, 1) := by decide +kernel
theorem dX8_type_9 : decode cX8_type 9 = .ok (.sipush 255, 3) := by decide +kernel
theorem dX8_type_12 : decode cX8_type 12 = .ok (.invokestatic 94, 3) := by decide +kernel
theorem dX8_type_15 : decode cX8_type 15 = .ok (.ifCond .ne 6, 3) := by decide +kernel
theorem dX8_type_18 : decode cX8_type 18 = .ok (.bipush (-2), 2) := by decide +kernel
theorem dX8_type_20 : decode cX8_type 20 = .ok (.ireturn, 1) := by decide +kernel
theorem dX8_type_21 : decode cX8_type 21 = .ok (.aload_n 0, 1) := by decide +kernel
theorem dX8_type_22 : decode cX8_type 22 = .ok (.getfield 7, 3) := by decide +kernel
theorem dX8_type_25 : decode cX8_type 25 = .ok (.iload_n 1, 1) := by decide +kernel
theorem dX8_type_26 : decode cX8_type 26 = .ok (.iaload, 1) := by decide +kernel
theorem dX8_type_27 : decode cX8_type 27 = .ok (.iload_n 1, 1) := by decide +kernel
theorem dX8_type_28 : decode cX8_type 28 = .ok (.ifCond .ne 8, 3) := by decide +kernel
theorem dX8_type_31 : decode cX8_type 31 = .ok (.bipush 40, 2) := by decide +kernel
theorem dX8_type_33 : decode cX8_type 33 = .ok (.goto 5, 3) := by decide +kernel
theorem dX8_type_36 : decode cX8_type 36 = .ok (.bipush 47, 2) := by decide +kernel
theorem dX8_type_38 : decode cX8_type 38 = .ok (.if_icmp .ne 6, 3) := by decide +kernel
theorem dX8_type_41 : decode cX8_type 41 = .ok (.bipush (-4), 2) := by decide +kernel
theorem dX8_type_43 : decode cX8_type 43 = .ok (.ireturn, 1) := by decide +kernel
theorem dX8_type_44 : decode cX8_type 44 = .ok (.aload_n 0, 1) := by decide +kernel
theorem dX8_type_45 : decode cX8_type 45 = .ok (.getfield 13, 3) := by decide +kernel
theorem dX8_type_48 : decode cX8_type 48 = .ok (.bipush 47, 2) := by decide +kernel
theorem dX8_type_50 : decode cX8_type 50 = .ok (.iload_n 1, 1) := by decide +kernel
theorem dX8_type_51 : decode cX8_type 51 = .ok (.imul, 1) := by decide +kernel
theorem dX8_type_52 : decode cX8_type 52 = .ok (.aload_n 0, 1) := by decide +kernel
theorem dX8_type_53 : decode cX8_type 53 = .ok (.getfield 7, 3) := by decide +kernel
theorem dX8_type_56 : decode cX8_type 56 = .ok (.iload_n 1, 1) := by decide +kernel
theorem dX8_type_57 : decode cX8_type 57 = .ok (.iaload, 1) := by decide +kernel
theorem dX8_type_58 : decode cX8_type 58 = .ok (.iadd, 1) := by decide +kernel
theorem dX8_type_59 : decode cX8_type 59 = .ok (.iload_n 2, 1) := by decide +kernel
theorem dX8_type_60 : decode cX8_type 60 = .ok (.iastore, 1) := by decide +kernel
theorem dX8_type_61 : decode cX8_type 61 = .ok (.aload_n 0, 1) := by decide +kernel
theorem dX8_type_62 : decode cX8_type 62 = .ok (.getfield 7, 3) := by decide +kernel
theorem dX8_type_65 : decode cX8_type 65 = .ok (.iload_n 1, 1) := by decide +kernel
theorem dX8_type_66 : decode cX8_type 66 = .ok (.dup2, 1) := by decide +kernel
theorem dX8_type_67 : decode cX8_type 67 = .ok (.iaload, 1) := by decide +kernel
theorem dX8_type_68 : decode cX8_type 68 = .ok (.iconst 1, 1) := by decide +kernel
theorem dX8_type_69 : decode cX8_type 69 = .ok (.iadd, 1) := by decide +kernel
theorem dX8_type_70 : decode cX8_type 70 = .ok (.iastore, 1) := by decide +kernel
theorem dX8_type_71 : decode cX8_type 71 = .ok (.aload_n 0, 1) := by decide +kernel
theorem dX8_type_72 : decode cX8_type 72 = .ok (.getfield 7, 3) := by decide +kernel
theorem dX8_type_75 : decode cX8_type 75 = .ok (.iload_n 1, 1) := by decide +kernel
theorem dX8_type_76 : decode cX8_type 76 = .ok (.iaload, 1) := by decide +kernel
theorem dX8_type_77 : decode cX8_type 77 = .ok (.ireturn, 1) := by decide +kernel
theorem dX8_wipe_0 : decode cX8_wipe 0 = .ok (.iload_n 1, 1) := by decide +kernel
theorem dX8_wipe_1 : decode cX8_wipe 1 = .ok (.invokestatic 98, 3) := by decide +kernel
theorem dX8_wipe_4 : decode cX8_wipe 4 = .ok (.ifCond .ne 6, 3) := by decide +kernel
theorem dX8_wipe_7 : decode cX8_wipe 7 = .ok (.bipush (-2), 2) := by decide +kernel
theorem dX8_wipe_9 : decode cX8_wipe 9 = .ok (.ireturn, 1) := by decide +kernel
theorem dX8_wipe_10 : decode cX8_wipe 10 = .ok (.aload_n 0, 1) := by decide +kernel
theorem dX8_wipe_11 : decode cX8_wipe 11 = .ok (.getfield 7, 3) := by decide +kernel
theorem dX8_wipe_14 : decode cX8_wipe 14 = .ok (.iload_n 1, 1) := by decide +kernel
theorem dX8_wipe_15 : decode cX8_wipe 15 = .ok (.iaload, 1) := by decide +kernel
theorem dX8_wipe_16 : decode cX8_wipe 16 = .ok (.istore_n 2, 1) := by decide +kernel
theorem dX8_wipe_17 : decode cX8_wipe 17 = .ok (.aload_n 0, 1) := by decide +kernel
theorem dX8_wipe_18 : decode cX8_wipe 18 = .ok (.getfield 7, 3) := by decide +kernel
theorem dX8_wipe_21 : decode cX8_wipe 21 = .ok (.iload_n 1, 1) := by decide +kernel
theorem dX8_wipe_22 : decode cX8_wipe 22 = .ok (.iconst 0, 1) := by decide +kernel
theorem dX8_wipe_23 : decode cX8_wipe 23 = .ok (.iastore, 1) := by decide +kernel
theorem dX8_wipe_24 : decode cX8_wipe 24 = .ok (.iload_n 2, 1) := by decide +kernel
theorem dX8_wipe_25 : decode cX8_wipe 25 = .ok (.ireturn, 1) := by decide +kernel
theorem dX8_undo_0 : decode cX8_undo 0 = .ok (.iload_n 1, 1) := by decide +kernel
theorem dX8_undo_1 : decode cX8_undo 1 = .ok (.invokestatic 98, 3) := by decide +kernel
theorem dX8_undo_4 : decode cX8_undo 4 = .ok (.ifCond .ne 6, 3) := by decide +kernel
theorem dX8_undo_7 : decode cX8_undo 7 = .ok (.bipush (-2), 2) := by decide +kernel
theorem dX8_undo_9 : decode cX8_undo 9 = .ok (.ireturn, 1) := by decide +kernel
theorem dX8_undo_10 : decode cX8_undo 10 = .ok (.aload_n 0, 1) := by decide +kernel
theorem dX8_undo_11 : decode cX8_undo 11 = .ok (.getfield 7, 3) := by decide +kernel
theorem dX8_undo_14 : decode cX8_undo 14 = .ok (.iload_n 1, 1) := by decide +kernel
theorem dX8_undo_15 : decode cX8_undo 15 = .ok (.iaload, 1) := by decide +kernel
theorem dX8_undo_16 : decode cX8_undo 16 = .ok (.ifCond .ne 6, 3) := by decide +kernel
theorem dX8_undo_19 : decode cX8_undo 19 = .ok (.bipush (-3), 2) := by decide +kernel
theorem dX8_undo_21 : decode cX8_undo 21 = .ok (.ireturn, 1) := by decide +kernel
theorem dX8_undo_22 : decode cX8_undo 22 = .ok (.aload_n 0, 1) := by decide +kernel
theorem dX8_undo_23 : decode cX8_undo 23 = .ok (.getfield 7, 3) := by decide +kernel
theorem dX8_undo_26 : decode cX8_undo 26 = .ok (.iload_n 1, 1) := by decide +kernel
theorem dX8_undo_27 : decode cX8_undo 27 = .ok (.dup2, 1) := by decide +kernel
theorem dX8_undo_28 : decode cX8_undo 28 = .ok (.iaload, 1) := by decide +kernel
theorem dX8_undo_29 : decode cX8_undo 29 = .ok (.iconst 1, 1) := by decide +kernel
theorem dX8_undo_30 : decode cX8_undo 30 = .ok (.isub, 1) := by decide +kernel
theorem dX8_undo_31 : decode cX8_undo 31 = .ok (.iastore, 1) := by decide +kernel
theorem dX8_undo_32 : decode cX8_undo 32 = .ok (.aload_n 0, 1) := by decide +kernel
theorem dX8_undo_33 : decode cX8_undo 33 = .ok (.getfield 7, 3) := by decide +kernel
theorem dX8_undo_36 : decode cX8_undo 36 = .ok (.iload_n 1, 1) := by decide +kernel
theorem dX8_undo_37 : decode cX8_undo 37 = .ok (.iaload, 1) := by decide +kernel
theorem dX8_undo_38 : decode cX8_undo 38 = .ok (.ireturn, 1) := by decide +kernel
theorem dX8_readsTides_0 : decode cX8_readsTides 0 = .ok (.aload_n 0, 1) := by decide +kernel
theorem dX8_readsTides_1 : decode cX8_readsTides 1 = .ok (.iconst 0, 1) := by decide +kernel
theorem dX8_readsTides_2 : decode cX8_readsTides 2 = .ok (.putfield 102, 3) := by decide +kernel
theorem dX8_readsTides_5 : decode cX8_readsTides 5 = .ok (.iconst 0, 1) := by decide +kernel
theorem dX8_readsTides_6 : decode cX8_readsTides 6 = .ok (.istore_n 1, 1) := by decide +kernel
theorem dX8_readsTides_7 : decode cX8_readsTides 7 = .ok (.iload_n 1, 1) := by decide +kernel
theorem dX8_readsTides_8 : decode cX8_readsTides 8 = .ok (.bipush 40, 2) := by decide +kernel
theorem dX8_readsTides_10 : decode cX8_readsTides 10 = .ok (.if_icmp .ge 16, 3) := by decide +kernel
theorem dX8_readsTides_13 : decode cX8_readsTides 13 = .ok (.aload_n 0, 1) := by decide +kernel
theorem dX8_readsTides_14 : decode cX8_readsTides 14 = .ok (.getfield 16, 3) := by decide +kernel
theorem dX8_readsTides_17 : decode cX8_readsTides 17 = .ok (.iload_n 1, 1) := by decide +kernel
theorem dX8_readsTides_18 : decode cX8_readsTides 18 = .ok (.iconst 0, 1) := by decide +kernel
theorem dX8_readsTides_19 : decode cX8_readsTides 19 = .ok (.iastore, 1) := by decide +kernel
theorem dX8_readsTides_20 : decode cX8_readsTides 20 = .ok (.iinc 1 1, 3) := by decide +kernel
theorem dX8_readsTides_23 : decode cX8_readsTides 23 = .ok (.goto (-16), 3) := by decide +kernel
theorem dX8_readsTides_26 : decode cX8_readsTides 26 = .ok (.iconst 0, 1) := by decide +kernel
theorem dX8_readsTides_27 : decode cX8_readsTides 27 = .ok (.istore_n 1, 1) := by decide +kernel
theorem dX8_readsTides_28 : decode cX8_readsTides 28 = .ok (.iload_n 1, 1) := by decide +kernel
theorem dX8_readsTides_29 : decode cX8_readsTides 29 = .ok (.aload_n 0, 1) := by decide +kernel
theorem dX8_readsTides_30 : decode cX8_readsTides 30 = .ok (.getfield 7, 3) := by decide +kernel
theorem dX8_readsTides_33 : decode cX8_readsTides 33 = .ok (.iconst 0, 1) := by decide +kernel
theorem dX8_readsTides_34 : decode cX8_readsTides 34 = .ok (.iaload, 1) := by decide +kernel
theorem dX8_readsTides_35 : decode cX8_readsTides 35 = .ok (.if_icmp .ge 27, 3) := by decide +kernel
theorem dX8_readsTides_38 : decode cX8_readsTides 38 = .ok (.aload_n 0, 1) := by decide +kernel
theorem dX8_readsTides_39 : decode cX8_readsTides 39 = .ok (.getfield 13, 3) := by decide +kernel
theorem dX8_readsTides_42 : decode cX8_readsTides 42 = .ok (.iload_n 1, 1) := by decide +kernel
theorem dX8_readsTides_43 : decode cX8_readsTides 43 = .ok (.iaload, 1) := by decide +kernel
theorem dX8_readsTides_44 : decode cX8_readsTides 44 = .ok (.bipush 48, 2) := by decide +kernel
theorem dX8_readsTides_46 : decode cX8_readsTides 46 = .ok (.bipush 57, 2) := by decide +kernel
theorem dX8_readsTides_48 : decode cX8_readsTides 48 = .ok (.invokestatic 94, 3) := by decide +kernel
theorem dX8_readsTides_51 : decode cX8_readsTides 51 = .ok (.ifCond .ne 5, 3) := by decide +kernel
theorem dX8_readsTides_54 : decode cX8_readsTides 54 = .ok (.iload_n 1, 1) := by decide +kernel
theorem dX8_readsTides_55 : decode cX8_readsTides 55 = .ok (.ireturn, 1) := by decide +kernel
theorem dX8_readsTides_56 : decode cX8_readsTides 56 = .ok (.iinc 1 1, 3) := by decide +kernel
theorem dX8_readsTides_59 : decode cX8_readsTides 59 = .ok (.goto (-31), 3) := by decide +kernel
theorem dX8_readsTides_62 : decode cX8_readsTides 62 = .ok (.iconst 0, 1) := by decide +kernel
theorem dX8_readsTides_63 : decode cX8_readsTides 63 = .ok (.istore_n 1, 1) := by decide +kernel
theorem dX8_readsTides_64 : decode cX8_readsTides 64 = .ok (.iload_n 1, 1) := by decide +kernel
theorem dX8_readsTides_65 : decode cX8_readsTides 65 = .ok (.aload_n 0, 1) := by decide +kernel
theorem dX8_readsTides_66 : decode cX8_readsTides 66 = .ok (.getfield 7, 3) := by decide +kernel
theorem dX8_readsTides_69 : decode cX8_readsTides 69 = .ok (.iconst 0, 1) := by decide +kernel
theorem dX8_readsTides_70 : decode cX8_readsTides 70 = .ok (.iaload, 1) := by decide +kernel
theorem dX8_readsTides_71 : decode cX8_readsTides 71 = .ok (.if_icmp .ge 26, 3) := by decide +kernel
theorem dX8_readsTides_74 : decode cX8_readsTides 74 = .ok (.aload_n 0, 1) := by decide +kernel
theorem dX8_readsTides_75 : decode cX8_readsTides 75 = .ok (.getfield 16, 3) := by decide +kernel
theorem dX8_readsTides_78 : decode cX8_readsTides 78 = .ok (.iload_n 1, 1) := by decide +kernel
theorem dX8_readsTides_79 : decode cX8_readsTides 79 = .ok (.iconst 2, 1) := by decide +kernel
theorem dX8_readsTides_80 : decode cX8_readsTides 80 = .ok (.aload_n 0, 1) := by decide +kernel
theorem dX8_readsTides_81 : decode cX8_readsTides 81 = .ok (.getfield 13, 3) := by decide +kernel
theorem dX8_readsTides_84 : decode cX8_readsTides 84 = .ok (.iload_n 1, 1) := by decide +kernel
theorem dX8_readsTides_85 : decode cX8_readsTides 85 = .ok (.iaload, 1) := by decide +kernel
theorem dX8_readsTides_86 : decode cX8_readsTides 86 = .ok (.bipush 48, 2) := by decide +kernel
theorem dX8_readsTides_88 : decode cX8_readsTides 88 = .ok (.isub, 1) := by decide +kernel
theorem dX8_readsTides_89 : decode cX8_readsTides 89 = .ok (.imul, 1) := by decide +kernel
theorem dX8_readsTides_90 : decode cX8_readsTides 90 = .ok (.iastore, 1) := by decide +kernel
theorem dX8_readsTides_91 : decode cX8_readsTides 91 = .ok (.iinc 1 1, 3) := by decide +kernel
theorem dX8_readsTides_94 : decode cX8_readsTides 94 = .ok (.goto (-30), 3) := by decide +kernel
theorem dX8_readsTides_97 : decode cX8_readsTides 97 = .ok (.aload_n 0, 1) := by decide +kernel
theorem dX8_readsTides_98 : decode cX8_readsTides 98 = .ok (.aload_n 0, 1) := by decide +kernel
theorem dX8_readsTides_99 : decode cX8_readsTides 99 = .ok (.getfield 7, 3) := by decide +kernel
theorem dX8_readsTides_102 : decode cX8_readsTides 102 = .ok (.iconst 0, 1) := by decide +kernel
theorem dX8_readsTides_103 : decode cX8_readsTides 103 = .ok (.iaload, 1) := by decide +kernel
theorem dX8_readsTides_104 : decode cX8_readsTides 104 = .ok (.putfield 102, 3) := by decide +kernel
theorem dX8_readsTides_107 : decode cX8_readsTides 107 = .ok (.iconst (-1), 1) := by decide +kernel
theorem dX8_readsTides_108 : decode cX8_readsTides 108 = .ok (.ireturn, 1) := by decide +kernel
theorem dX8_byteAt_0 : decode cX8_byteAt 0 = .ok (.iload_n 1, 1) := by decide +kernel
theorem dX8_byteAt_1 : decode cX8_byteAt 1 = .ok (.aload_n 0, 1) := by decide +kernel
theorem dX8_byteAt_2 : decode cX8_byteAt 2 = .ok (.getfield 7, 3) := by decide +kernel
theorem dX8_byteAt_5 : decode cX8_byteAt 5 = .ok (.iconst 1, 1) := by decide +kernel
theorem dX8_byteAt_6 : decode cX8_byteAt 6 = .ok (.iaload, 1) := by decide +kernel
theorem dX8_byteAt_7 : decode cX8_byteAt 7 = .ok (.if_icmp .ge 15, 3) := by decide +kernel
theorem dX8_byteAt_10 : decode cX8_byteAt 10 = .ok (.aload_n 0, 1) := by decide +kernel
theorem dX8_byteAt_11 : decode cX8_byteAt 11 = .ok (.getfield 13, 3) := by decide +kernel
theorem dX8_byteAt_14 : decode cX8_byteAt 14 = .ok (.bipush 47, 2) := by decide +kernel
theorem dX8_byteAt_16 : decode cX8_byteAt 16 = .ok (.iload_n 1, 1) := by decide +kernel
theorem dX8_byteAt_17 : decode cX8_byteAt 17 = .ok (.iadd, 1) := by decide +kernel
theorem dX8_byteAt_18 : decode cX8_byteAt 18 = .ok (.iaload, 1) := by decide +kernel
theorem dX8_byteAt_19 : decode cX8_byteAt 19 = .ok (.goto 4, 3) := by decide +kernel
theorem dX8_byteAt_22 : decode cX8_byteAt 22 = .ok (.iconst (-1), 1) := by decide +kernel
theorem dX8_byteAt_23 : decode cX8_byteAt 23 = .ok (.ireturn, 1) := by decide +kernel
theorem dX8_isWell_0 : decode cX8_isWell 0 = .ok (.aload_n 0, 1) := by decide +kernel
theorem dX8_isWell_1 : decode cX8_isWell 1 = .ok (.iload_n 1, 1) := by decide +kernel
theorem dX8_isWell_2 : decode cX8_isWell 2 = .ok (.iload_n 2, 1) := by decide +kernel
theorem dX8_isWell_3 : decode cX8_isWell 3 = .ok (.iadd, 1) := by decide +kernel
theorem dX8_isWell_4 : decode cX8_isWell 4 = .ok (.invokevirtual 106, 3) := by decide +kernel
theorem dX8_isWell_7 : decode cX8_isWell 7 = .ok (.istore_n 3, 1) := by decide +kernel
theorem dX8_isWell_8 : decode cX8_isWell 8 = .ok (.iload_n 2, 1) := by decide +kernel
theorem dX8_isWell_9 : decode cX8_isWell 9 = .ok (.ifCond .ne 29, 3) := by decide +kernel
theorem dX8_isWell_12 : decode cX8_isWell 12 = .ok (.iload_n 3, 1) := by decide +kernel
theorem dX8_isWell_13 : decode cX8_isWell 13 = .ok (.bipush 119, 2) := by decide +kernel
theorem dX8_isWell_15 : decode cX8_isWell 15 = .ok (.if_icmp .eq 15, 3) := by decide +kernel
theorem dX8_isWell_18 : decode cX8_isWell 18 = .ok (.iload_n 3, 1) := by decide +kernel
theorem dX8_isWell_19 : decode cX8_isWell 19 = .ok (.bipush 114, 2) := by decide +kernel
theorem dX8_isWell_21 : decode cX8_isWell 21 = .ok (.if_icmp .eq 9, 3) := by decide +kernel
theorem dX8_isWell_24 : decode cX8_isWell 24 = .ok (.iload_n 3, 1) := by decide +kernel
theorem dX8_isWell_25 : decode cX8_isWell 25 = .ok (.bipush 111, 2) := by decide +kernel
theorem dX8_isWell_27 : decode cX8_isWell 27 = .ok (.if_icmp .ne 7, 3) := by decide +kernel
theorem dX8_isWell_30 : decode cX8_isWell 30 = .ok (.iconst 1, 1) := by decide +kernel
theorem dX8_isWell_31 : decode cX8_isWell 31 = .ok (.goto 35, 3) := by decide +kernel
theorem dX8_isWell_34 : decode cX8_isWell 34 = .ok (.iconst 0, 1) := by decide +kernel
theorem dX8_isWell_35 : decode cX8_isWell 35 = .ok (.goto 31, 3) := by decide +kernel
theorem dX8_isWell_38 : decode cX8_isWell 38 = .ok (.iload_n 3, 1) := by decide +kernel
theorem dX8_isWell_39 : decode cX8_isWell 39 = .ok (.iload_n 2, 1) := by decide +kernel
theorem dX8_isWell_40 : decode cX8_isWell 40 = .ok (.iconst 1, 1) := by decide +kernel
theorem dX8_isWell_41 : decode cX8_isWell 41 = .ok (.if_icmp .ne 8, 3) := by decide +kernel
theorem dX8_isWell_44 : decode cX8_isWell 44 = .ok (.bipush 49, 2) := by decide +kernel
theorem dX8_isWell_46 : decode cX8_isWell 46 = .ok (.goto 5, 3) := by decide +kernel
theorem dX8_isWell_49 : decode cX8_isWell 49 = .ok (.bipush 48, 2) := by decide +kernel
theorem dX8_isWell_51 : decode cX8_isWell 51 = .ok (.iload_n 2, 1) := by decide +kernel
theorem dX8_isWell_52 : decode cX8_isWell 52 = .ok (.iconst 2, 1) := by decide +kernel
theorem dX8_isWell_53 : decode cX8_isWell 53 = .ok (.if_icmp .ne 8, 3) := by decide +kernel
theorem dX8_isWell_56 : decode cX8_isWell 56 = .ok (.bipush 51, 2) := by decide +kernel
theorem dX8_isWell_58 : decode cX8_isWell 58 = .ok (.goto 5, 3) := by decide +kernel
theorem dX8_isWell_61 : decode cX8_isWell 61 = .ok (.bipush 57, 2) := by decide +kernel
theorem dX8_isWell_63 : decode cX8_isWell 63 = .ok (.invokestatic 94, 3) := by decide +kernel
theorem dX8_isWell_66 : decode cX8_isWell 66 = .ok (.ireturn, 1) := by decide +kernel
theorem dX8_readsOrder_0 : decode cX8_readsOrder 0 = .ok (.iconst 0, 1) := by decide +kernel
theorem dX8_readsOrder_1 : decode cX8_readsOrder 1 = .ok (.istore_n 3, 1) := by decide +kernel
theorem dX8_readsOrder_2 : decode cX8_readsOrder 2 = .ok (.iload_n 1, 1) := by decide +kernel
theorem dX8_readsOrder_3 : decode cX8_readsOrder 3 = .ok (.bipush 8, 2) := by decide +kernel
theorem dX8_readsOrder_5 : decode cX8_readsOrder 5 = .ok (.if_icmp .ge 23, 3) := by decide +kernel
theorem dX8_readsOrder_8 : decode cX8_readsOrder 8 = .ok (.iload_n 3, 1) := by decide +kernel
theorem dX8_readsOrder_9 : decode cX8_readsOrder 9 = .ok (.iconst 5, 1) := by decide +kernel
theorem dX8_readsOrder_10 : decode cX8_readsOrder 10 = .ok (.if_icmp .ge 18, 3) := by decide +kernel
theorem dX8_readsOrder_13 : decode cX8_readsOrder 13 = .ok (.aload_n 0, 1) := by decide +kernel
theorem dX8_readsOrder_14 : decode cX8_readsOrder 14 = .ok (.iload_n 2, 1) := by decide +kernel
theorem dX8_readsOrder_15 : decode cX8_readsOrder 15 = .ok (.iload_n 3, 1) := by decide +kernel
theorem dX8_readsOrder_16 : decode cX8_readsOrder 16 = .ok (.invokevirtual 110, 3) := by decide +kernel
theorem dX8_readsOrder_19 : decode cX8_readsOrder 19 = .ok (.ifCond .eq 9, 3) := by decide +kernel
theorem dX8_readsOrder_22 : decode cX8_readsOrder 22 = .ok (.iinc 3 1, 3) := by decide +kernel
theorem dX8_readsOrder_25 : decode cX8_readsOrder 25 = .ok (.goto (-23), 3) := by decide +kernel
theorem dX8_readsOrder_28 : decode cX8_readsOrder 28 = .ok (.iload_n 3, 1) := by decide +kernel
theorem dX8_readsOrder_29 : decode cX8_readsOrder 29 = .ok (.iconst 5, 1) := by decide +kernel
theorem dX8_readsOrder_30 : decode cX8_readsOrder 30 = .ok (.if_icmp .ne 101, 3) := by decide +kernel
theorem dX8_readsOrder_33 : decode cX8_readsOrder 33 = .ok (.aload_n 0, 1) := by decide +kernel
theorem dX8_readsOrder_34 : decode cX8_readsOrder 34 = .ok (.iload_n 2, 1) := by decide +kernel
theorem dX8_readsOrder_35 : decode cX8_readsOrder 35 = .ok (.invokevirtual 106, 3) := by decide +kernel
theorem dX8_readsOrder_38 : decode cX8_readsOrder 38 = .ok (.istore 4, 2) := by decide +kernel
theorem dX8_readsOrder_40 : decode cX8_readsOrder 40 = .ok (.aload_n 0, 1) := by decide +kernel
theorem dX8_readsOrder_41 : decode cX8_readsOrder 41 = .ok (.getfield 19, 3) := by decide +kernel
theorem dX8_readsOrder_44 : decode cX8_readsOrder 44 = .ok (.iload_n 1, 1) := by decide +kernel
theorem dX8_readsOrder_45 : decode cX8_readsOrder 45 = .ok (.iload 4, 2) := by decide +kernel
theorem dX8_readsOrder_47 : decode cX8_readsOrder 47 = .ok (.bipush 119, 2) := by decide +kernel
theorem dX8_readsOrder_49 : decode cX8_readsOrder 49 = .ok (.if_icmp .ne 7, 3) := by decide +kernel
theorem dX8_readsOrder_52 : decode cX8_readsOrder 52 = .ok (.iconst 0, 1) := by decide +kernel
theorem dX8_readsOrder_53 : decode cX8_readsOrder 53 = .ok (.goto 15, 3) := by decide +kernel
theorem dX8_readsOrder_56 : decode cX8_readsOrder 56 = .ok (.iload 4, 2) := by decide +kernel
theorem dX8_readsOrder_58 : decode cX8_readsOrder 58 = .ok (.bipush 114, 2) := by decide +kernel
theorem dX8_readsOrder_60 : decode cX8_readsOrder 60 = .ok (.if_icmp .ne 7, 3) := by decide +kernel
theorem dX8_readsOrder_63 : decode cX8_readsOrder 63 = .ok (.iconst 1, 1) := by decide +kernel
theorem dX8_readsOrder_64 : decode cX8_readsOrder 64 = .ok (.goto 4, 3) := by decide +kernel
theorem dX8_readsOrder_67 : decode cX8_readsOrder 67 = .ok (.iconst 2, 1) := by decide +kernel
theorem dX8_readsOrder_68 : decode cX8_readsOrder 68 = .ok (.iastore, 1) := by decide +kernel
theorem dX8_readsOrder_69 : decode cX8_readsOrder 69 = .ok (.aload_n 0, 1) := by decide +kernel
theorem dX8_readsOrder_70 : decode cX8_readsOrder 70 = .ok (.getfield 22, 3) := by decide +kernel
theorem dX8_readsOrder_73 : decode cX8_readsOrder 73 = .ok (.iload_n 1, 1) := by decide +kernel
theorem dX8_readsOrder_74 : decode cX8_readsOrder 74 = .ok (.aload_n 0, 1) := by decide +kernel
theorem dX8_readsOrder_75 : decode cX8_readsOrder 75 = .ok (.iload_n 2, 1) := by decide +kernel
theorem dX8_readsOrder_76 : decode cX8_readsOrder 76 = .ok (.iconst 1, 1) := by decide +kernel
theorem dX8_readsOrder_77 : decode cX8_readsOrder 77 = .ok (.iadd, 1) := by decide +kernel
theorem dX8_readsOrder_78 : decode cX8_readsOrder 78 = .ok (.invokevirtual 106, 3) := by decide +kernel
theorem dX8_readsOrder_81 : decode cX8_readsOrder 81 = .ok (.bipush 48, 2) := by decide +kernel
theorem dX8_readsOrder_83 : decode cX8_readsOrder 83 = .ok (.isub, 1) := by decide +kernel
theorem dX8_readsOrder_84 : decode cX8_readsOrder 84 = .ok (.iastore, 1) := by decide +kernel
theorem dX8_readsOrder_85 : decode cX8_readsOrder 85 = .ok (.aload_n 0, 1) := by decide +kernel
theorem dX8_readsOrder_86 : decode cX8_readsOrder 86 = .ok (.getfield 25, 3) := by decide +kernel
theorem dX8_readsOrder_89 : decode cX8_readsOrder 89 = .ok (.iload_n 1, 1) := by decide +kernel
theorem dX8_readsOrder_90 : decode cX8_readsOrder 90 = .ok (.bipush 10, 2) := by decide +kernel
theorem dX8_readsOrder_92 : decode cX8_readsOrder 92 = .ok (.aload_n 0, 1) := by decide +kernel
theorem dX8_readsOrder_93 : decode cX8_readsOrder 93 = .ok (.iload_n 2, 1) := by decide +kernel
theorem dX8_readsOrder_94 : decode cX8_readsOrder 94 = .ok (.iconst 2, 1) := by decide +kernel
theorem dX8_readsOrder_95 : decode cX8_readsOrder 95 = .ok (.iadd, 1) := by decide +kernel
theorem dX8_readsOrder_96 : decode cX8_readsOrder 96 = .ok (.invokevirtual 106, 3) := by decide +kernel
theorem dX8_readsOrder_99 : decode cX8_readsOrder 99 = .ok (.bipush 48, 2) := by decide +kernel
theorem dX8_readsOrder_101 : decode cX8_readsOrder 101 = .ok (.isub, 1) := by decide +kernel
theorem dX8_readsOrder_102 : decode cX8_readsOrder 102 = .ok (.imul, 1) := by decide +kernel
theorem dX8_readsOrder_103 : decode cX8_readsOrder 103 = .ok (.aload_n 0, 1) := by decide +kernel
theorem dX8_readsOrder_104 : decode cX8_readsOrder 104 = .ok (.iload_n 2, 1) := by decide +kernel
theorem dX8_readsOrder_105 : decode cX8_readsOrder 105 = .ok (.iconst 3, 1) := by decide +kernel
theorem dX8_readsOrder_106 : decode cX8_readsOrder 106 = .ok (.iadd, 1) := by decide +kernel
theorem dX8_readsOrder_107 : decode cX8_readsOrder 107 = .ok (.invokevirtual 106, 3) := by decide +kernel
theorem dX8_readsOrder_110 : decode cX8_readsOrder 110 = .ok (.iadd, 1) := by decide +kernel
theorem dX8_readsOrder_111 : decode cX8_readsOrder 111 = .ok (.bipush 48, 2) := by decide +kernel
theorem dX8_readsOrder_113 : decode cX8_readsOrder 113 = .ok (.isub, 1) := by decide +kernel
theorem dX8_readsOrder_114 : decode cX8_readsOrder 114 = .ok (.iastore, 1) := by decide +kernel
theorem dX8_readsOrder_115 : decode cX8_readsOrder 115 = .ok (.aload_n 0, 1) := by decide +kernel
theorem dX8_readsOrder_116 : decode cX8_readsOrder 116 = .ok (.getfield 28, 3) := by decide +kernel
theorem dX8_readsOrder_119 : decode cX8_readsOrder 119 = .ok (.iload_n 1, 1) := by decide +kernel
theorem dX8_readsOrder_120 : decode cX8_readsOrder 120 = .ok (.aload_n 0, 1) := by decide +kernel
theorem dX8_readsOrder_121 : decode cX8_readsOrder 121 = .ok (.iload_n 2, 1) := by decide +kernel
theorem dX8_readsOrder_122 : decode cX8_readsOrder 122 = .ok (.iconst 4, 1) := by decide +kernel
theorem dX8_readsOrder_123 : decode cX8_readsOrder 123 = .ok (.iadd, 1) := by decide +kernel
theorem dX8_readsOrder_124 : decode cX8_readsOrder 124 = .ok (.invokevirtual 106, 3) := by decide +kernel
theorem dX8_readsOrder_127 : decode cX8_readsOrder 127 = .ok (.bipush 48, 2) := by decide +kernel
theorem dX8_readsOrder_129 : decode cX8_readsOrder 129 = .ok (.isub, 1) := by decide +kernel
theorem dX8_readsOrder_130 : decode cX8_readsOrder 130 = .ok (.iastore, 1) := by decide +kernel
theorem dX8_readsOrder_131 : decode cX8_readsOrder 131 = .ok (.iload_n 3, 1) := by decide +kernel
theorem dX8_readsOrder_132 : decode cX8_readsOrder 132 = .ok (.ireturn, 1) := by decide +kernel
theorem dX8_readsOrders_0 : decode cX8_readsOrders 0 = .ok (.iconst 0, 1) := by decide +kernel
theorem dX8_readsOrders_1 : decode cX8_readsOrders 1 = .ok (.istore_n 1, 1) := by decide +kernel
theorem dX8_readsOrders_2 : decode cX8_readsOrders 2 = .ok (.iconst 0, 1) := by decide +kernel
theorem dX8_readsOrders_3 : decode cX8_readsOrders 3 = .ok (.istore_n 2, 1) := by decide +kernel
theorem dX8_readsOrders_4 : decode cX8_readsOrders 4 = .ok (.aload_n 0, 1) := by decide +kernel
theorem dX8_readsOrders_5 : decode cX8_readsOrders 5 = .ok (.iconst 0, 1) := by decide +kernel
theorem dX8_readsOrders_6 : decode cX8_readsOrders 6 = .ok (.putfield 114, 3) := by decide +kernel
theorem dX8_readsOrders_9 : decode cX8_readsOrders 9 = .ok (.iload_n 2, 1) := by decide +kernel
theorem dX8_readsOrders_10 : decode cX8_readsOrders 10 = .ok (.aload_n 0, 1) := by decide +kernel
theorem dX8_readsOrders_11 : decode cX8_readsOrders 11 = .ok (.getfield 7, 3) := by decide +kernel
theorem dX8_readsOrders_14 : decode cX8_readsOrders 14 = .ok (.iconst 1, 1) := by decide +kernel
theorem dX8_readsOrders_15 : decode cX8_readsOrders 15 = .ok (.iaload, 1) := by decide +kernel
theorem dX8_readsOrders_16 : decode cX8_readsOrders 16 = .ok (.if_icmp .lt 7, 3) := by decide +kernel
theorem dX8_readsOrders_19 : decode cX8_readsOrders 19 = .ok (.iload_n 2, 1) := by decide +kernel
theorem dX8_readsOrders_20 : decode cX8_readsOrders 20 = .ok (.ifCond .le 60, 3) := by decide +kernel
theorem dX8_readsOrders_23 : decode cX8_readsOrders 23 = .ok (.aload_n 0, 1) := by decide +kernel
theorem dX8_readsOrders_24 : decode cX8_readsOrders 24 = .ok (.iload_n 1, 1) := by decide +kernel
theorem dX8_readsOrders_25 : decode cX8_readsOrders 25 = .ok (.iload_n 2, 1) := by decide +kernel
theorem dX8_readsOrders_26 : decode cX8_readsOrders 26 = .ok (.invokevirtual 117, 3) := by decide +kernel
theorem dX8_readsOrders_29 : decode cX8_readsOrders 29 = .ok (.istore_n 3, 1) := by decide +kernel
theorem dX8_readsOrders_30 : decode cX8_readsOrders 30 = .ok (.iload_n 3, 1) := by decide +kernel
theorem dX8_readsOrders_31 : decode cX8_readsOrders 31 = .ok (.iconst 5, 1) := by decide +kernel
theorem dX8_readsOrders_32 : decode cX8_readsOrders 32 = .ok (.if_icmp .ge 7, 3) := by decide +kernel
theorem dX8_readsOrders_35 : decode cX8_readsOrders 35 = .ok (.iload_n 2, 1) := by decide +kernel
theorem dX8_readsOrders_36 : decode cX8_readsOrders 36 = .ok (.iload_n 3, 1) := by decide +kernel
theorem dX8_readsOrders_37 : decode cX8_readsOrders 37 = .ok (.iadd, 1) := by decide +kernel
theorem dX8_readsOrders_38 : decode cX8_readsOrders 38 = .ok (.ireturn, 1) := by decide +kernel
theorem dX8_readsOrders_39 : decode cX8_readsOrders 39 = .ok (.iinc 1 1, 3) := by decide +kernel
theorem dX8_readsOrders_42 : decode cX8_readsOrders 42 = .ok (.iinc 2 5, 3) := by decide +kernel
theorem dX8_readsOrders_45 : decode cX8_readsOrders 45 = .ok (.iload_n 2, 1) := by decide +kernel
theorem dX8_readsOrders_46 : decode cX8_readsOrders 46 = .ok (.aload_n 0, 1) := by decide +kernel
theorem dX8_readsOrders_47 : decode cX8_readsOrders 47 = .ok (.getfield 7, 3) := by decide +kernel
theorem dX8_readsOrders_50 : decode cX8_readsOrders 50 = .ok (.iconst 1, 1) := by decide +kernel
theorem dX8_readsOrders_51 : decode cX8_readsOrders 51 = .ok (.iaload, 1) := by decide +kernel
theorem dX8_readsOrders_52 : decode cX8_readsOrders 52 = .ok (.if_icmp .ne 10, 3) := by decide +kernel
theorem dX8_readsOrders_55 : decode cX8_readsOrders 55 = .ok (.aload_n 0, 1) := by decide +kernel
theorem dX8_readsOrders_56 : decode cX8_readsOrders 56 = .ok (.iload_n 1, 1) := by decide +kernel
theorem dX8_readsOrders_57 : decode cX8_readsOrders 57 = .ok (.putfield 114, 3) := by decide +kernel
theorem dX8_readsOrders_60 : decode cX8_readsOrders 60 = .ok (.iconst (-1), 1) := by decide +kernel
theorem dX8_readsOrders_61 : decode cX8_readsOrders 61 = .ok (.ireturn, 1) := by decide +kernel
theorem dX8_readsOrders_62 : decode cX8_readsOrders 62 = .ok (.aload_n 0, 1) := by decide +kernel
theorem dX8_readsOrders_63 : decode cX8_readsOrders 63 = .ok (.iload_n 2, 1) := by decide +kernel
theorem dX8_readsOrders_64 : decode cX8_readsOrders 64 = .ok (.invokevirtual 106, 3) := by decide +kernel
theorem dX8_readsOrders_67 : decode cX8_readsOrders 67 = .ok (.bipush 59, 2) := by decide +kernel
theorem dX8_readsOrders_69 : decode cX8_readsOrders 69 = .ok (.if_icmp .eq 5, 3) := by decide +kernel
theorem dX8_readsOrders_72 : decode cX8_readsOrders 72 = .ok (.iload_n 2, 1) := by decide +kernel
theorem dX8_readsOrders_73 : decode cX8_readsOrders 73 = .ok (.ireturn, 1) := by decide +kernel
theorem dX8_readsOrders_74 : decode cX8_readsOrders 74 = .ok (.iinc 2 1, 3) := by decide +kernel
theorem dX8_readsOrders_77 : decode cX8_readsOrders 77 = .ok (.goto (-68), 3) := by decide +kernel
theorem dX8_readsOrders_80 : decode cX8_readsOrders 80 = .ok (.iconst (-1), 1) := by decide +kernel
theorem dX8_readsOrders_81 : decode cX8_readsOrders 81 = .ok (.ireturn, 1) := by decide +kernel
theorem dX8_faultOf_0 : decode cX8_faultOf 0 = .ok (.aload_n 0, 1) := by decide +kernel
theorem dX8_faultOf_1 : decode cX8_faultOf 1 = .ok (.invokevirtual 121, 3) := by decide +kernel
theorem dX8_faultOf_4 : decode cX8_faultOf 4 = .ok (.istore_n 2, 1) := by decide +kernel
theorem dX8_faultOf_5 : decode cX8_faultOf 5 = .ok (.aload_n 0, 1) := by decide +kernel
theorem dX8_faultOf_6 : decode cX8_faultOf 6 = .ok (.invokevirtual 125, 3) := by decide +kernel
theorem dX8_faultOf_9 : decode cX8_faultOf 9 = .ok (.istore_n 3, 1) := by decide +kernel
theorem dX8_faultOf_10 : decode cX8_faultOf 10 = .ok (.iload_n 1, 1) := by decide +kernel
theorem dX8_faultOf_11 : decode cX8_faultOf 11 = .ok (.ifCond .ne 7, 3) := by decide +kernel
theorem dX8_faultOf_14 : decode cX8_faultOf 14 = .ok (.iload_n 2, 1) := by decide +kernel
theorem dX8_faultOf_15 : decode cX8_faultOf 15 = .ok (.goto 4, 3) := by decide +kernel
theorem dX8_faultOf_18 : decode cX8_faultOf 18 = .ok (.iload_n 3, 1) := by decide +kernel
theorem dX8_faultOf_19 : decode cX8_faultOf 19 = .ok (.ireturn, 1) := by decide +kernel
theorem dX8_reads_0 : decode cX8_reads 0 = .ok (.aload_n 0, 1) := by decide +kernel
theorem dX8_reads_1 : decode cX8_reads 1 = .ok (.iconst 0, 1) := by decide +kernel
theorem dX8_reads_2 : decode cX8_reads 2 = .ok (.invokevirtual 128, 3) := by decide +kernel
theorem dX8_reads_5 : decode cX8_reads 5 = .ok (.istore_n 1, 1) := by decide +kernel
theorem dX8_reads_6 : decode cX8_reads 6 = .ok (.return_, 1) := by decide +kernel
theorem dX8_fault_0 : decode cX8_fault 0 = .ok (.iload_n 1, 1) := by decide +kernel
theorem dX8_fault_1 : decode cX8_fault 1 = .ok (.invokestatic 98, 3) := by decide +kernel
theorem dX8_fault_4 : decode cX8_fault 4 = .ok (.ifCond .eq 11, 3) := by decide +kernel
theorem dX8_fault_7 : decode cX8_fault 7 = .ok (.aload_n 0, 1) := by decide +kernel
theorem dX8_fault_8 : decode cX8_fault 8 = .ok (.iload_n 1, 1) := by decide +kernel
theorem dX8_fault_9 : decode cX8_fault 9 = .ok (.invokevirtual 128, 3) := by decide +kernel
theorem dX8_fault_12 : decode cX8_fault 12 = .ok (.goto 5, 3) := by decide +kernel
theorem dX8_fault_15 : decode cX8_fault 15 = .ok (.bipush (-2), 2) := by decide +kernel
theorem dX8_fault_17 : decode cX8_fault 17 = .ok (.ireturn, 1) := by decide +kernel
theorem dX8_isOrder_0 : decode cX8_isOrder 0 = .ok (.aload_n 0, 1) := by decide +kernel
theorem dX8_isOrder_1 : decode cX8_isOrder 1 = .ok (.invokevirtual 131, 3) := by decide +kernel
theorem dX8_isOrder_4 : decode cX8_isOrder 4 = .ok (.iload_n 1, 1) := by decide +kernel
theorem dX8_isOrder_5 : decode cX8_isOrder 5 = .ok (.iconst 0, 1) := by decide +kernel
theorem dX8_isOrder_6 : decode cX8_isOrder 6 = .ok (.aload_n 0, 1) := by decide +kernel
theorem dX8_isOrder_7 : decode cX8_isOrder 7 = .ok (.getfield 114, 3) := by decide +kernel
theorem dX8_isOrder_10 : decode cX8_isOrder 10 = .ok (.iconst 1, 1) := by decide +kernel
theorem dX8_isOrder_11 : decode cX8_isOrder 11 = .ok (.isub, 1) := by decide +kernel
theorem dX8_isOrder_12 : decode cX8_isOrder 12 = .ok (.invokestatic 94, 3) := by decide +kernel
theorem dX8_isOrder_15 : decode cX8_isOrder 15 = .ok (.ireturn, 1) := by decide +kernel
theorem dX8_seaOf_0 : decode cX8_seaOf 0 = .ok (.aload_n 0, 1) := by decide +kernel
theorem dX8_seaOf_1 : decode cX8_seaOf 1 = .ok (.invokevirtual 131, 3) := by decide +kernel
theorem dX8_seaOf_4 : decode cX8_seaOf 4 = .ok (.aload_n 0, 1) := by decide +kernel
theorem dX8_seaOf_5 : decode cX8_seaOf 5 = .ok (.getfield 16, 3) := by decide +kernel
theorem dX8_seaOf_8 : decode cX8_seaOf 8 = .ok (.iload_n 1, 1) := by decide +kernel
theorem dX8_seaOf_9 : decode cX8_seaOf 9 = .ok (.iaload, 1) := by decide +kernel
theorem dX8_seaOf_10 : decode cX8_seaOf 10 = .ok (.ireturn, 1) := by decide +kernel
theorem dX8_sea_0 : decode cX8_sea 0 = .ok (.iload_n 1, 1) := by decide +kernel
theorem dX8_sea_1 : decode cX8_sea 1 = .ok (.invokestatic 134, 3) := by decide +kernel
theorem dX8_sea_4 : decode cX8_sea 4 = .ok (.ifCond .eq 11, 3) := by decide +kernel
theorem dX8_sea_7 : decode cX8_sea 7 = .ok (.aload_n 0, 1) := by decide +kernel
theorem dX8_sea_8 : decode cX8_sea 8 = .ok (.iload_n 1, 1) := by decide +kernel
theorem dX8_sea_9 : decode cX8_sea 9 = .ok (.invokevirtual 137, 3) := by decide +kernel
theorem dX8_sea_12 : decode cX8_sea 12 = .ok (.goto 5, 3) := by decide +kernel
theorem dX8_sea_15 : decode cX8_sea 15 = .ok (.bipush (-2), 2) := by decide +kernel
theorem dX8_sea_17 : decode cX8_sea 17 = .ok (.ireturn, 1) := by decide +kernel
theorem dX8_orderOf_0 : decode cX8_orderOf 0 = .ok (.iload_n 2, 1) := by decide +kernel
theorem dX8_orderOf_1 : decode cX8_orderOf 1 = .ok (.ifCond .ne 12, 3) := by decide +kernel
theorem dX8_orderOf_4 : decode cX8_orderOf 4 = .ok (.aload_n 0, 1) := by decide +kernel
theorem dX8_orderOf_5 : decode cX8_orderOf 5 = .ok (.getfield 19, 3) := by decide +kernel
theorem dX8_orderOf_8 : decode cX8_orderOf 8 = .ok (.iload_n 1, 1) := by decide +kernel
theorem dX8_orderOf_9 : decode cX8_orderOf 9 = .ok (.iaload, 1) := by decide +kernel
theorem dX8_orderOf_10 : decode cX8_orderOf 10 = .ok (.goto 37, 3) := by decide +kernel
theorem dX8_orderOf_13 : decode cX8_orderOf 13 = .ok (.iload_n 2, 1) := by decide +kernel
theorem dX8_orderOf_14 : decode cX8_orderOf 14 = .ok (.iconst 1, 1) := by decide +kernel
theorem dX8_orderOf_15 : decode cX8_orderOf 15 = .ok (.if_icmp .ne 12, 3) := by decide +kernel
theorem dX8_orderOf_18 : decode cX8_orderOf 18 = .ok (.aload_n 0, 1) := by decide +kernel
theorem dX8_orderOf_19 : decode cX8_orderOf 19 = .ok (.getfield 22, 3) := by decide +kernel
theorem dX8_orderOf_22 : decode cX8_orderOf 22 = .ok (.iload_n 1, 1) := by decide +kernel
theorem dX8_orderOf_23 : decode cX8_orderOf 23 = .ok (.iaload, 1) := by decide +kernel
theorem dX8_orderOf_24 : decode cX8_orderOf 24 = .ok (.goto 23, 3) := by decide +kernel
theorem dX8_orderOf_27 : decode cX8_orderOf 27 = .ok (.iload_n 2, 1) := by decide +kernel
theorem dX8_orderOf_28 : decode cX8_orderOf 28 = .ok (.iconst 2, 1) := by decide +kernel
theorem dX8_orderOf_29 : decode cX8_orderOf 29 = .ok (.if_icmp .ne 12, 3) := by decide +kernel
theorem dX8_orderOf_32 : decode cX8_orderOf 32 = .ok (.aload_n 0, 1) := by decide +kernel
theorem dX8_orderOf_33 : decode cX8_orderOf 33 = .ok (.getfield 25, 3) := by decide +kernel
theorem dX8_orderOf_36 : decode cX8_orderOf 36 = .ok (.iload_n 1, 1) := by decide +kernel
theorem dX8_orderOf_37 : decode cX8_orderOf 37 = .ok (.iaload, 1) := by decide +kernel
theorem dX8_orderOf_38 : decode cX8_orderOf 38 = .ok (.goto 9, 3) := by decide +kernel
theorem dX8_orderOf_41 : decode cX8_orderOf 41 = .ok (.aload_n 0, 1) := by decide +kernel
theorem dX8_orderOf_42 : decode cX8_orderOf 42 = .ok (.getfield 28, 3) := by decide +kernel
theorem dX8_orderOf_45 : decode cX8_orderOf 45 = .ok (.iload_n 1, 1) := by decide +kernel
theorem dX8_orderOf_46 : decode cX8_orderOf 46 = .ok (.iaload, 1) := by decide +kernel
theorem dX8_orderOf_47 : decode cX8_orderOf 47 = .ok (.ireturn, 1) := by decide +kernel
theorem dX8_order_0 : decode cX8_order 0 = .ok (.aload_n 0, 1) := by decide +kernel
theorem dX8_order_1 : decode cX8_order 1 = .ok (.iload_n 1, 1) := by decide +kernel
theorem dX8_order_2 : decode cX8_order 2 = .ok (.invokevirtual 140, 3) := by decide +kernel
theorem dX8_order_5 : decode cX8_order 5 = .ok (.ifCond .eq 21, 3) := by decide +kernel
theorem dX8_order_8 : decode cX8_order 8 = .ok (.iload_n 2, 1) := by decide +kernel
theorem dX8_order_9 : decode cX8_order 9 = .ok (.iconst 0, 1) := by decide +kernel
theorem dX8_order_10 : decode cX8_order 10 = .ok (.iconst 3, 1) := by decide +kernel
theorem dX8_order_11 : decode cX8_order 11 = .ok (.invokestatic 94, 3) := by decide +kernel
theorem dX8_order_14 : decode cX8_order 14 = .ok (.ifCond .eq 12, 3) := by decide +kernel
theorem dX8_order_17 : decode cX8_order 17 = .ok (.aload_n 0, 1) := by decide +kernel
theorem dX8_order_18 : decode cX8_order 18 = .ok (.iload_n 1, 1) := by decide +kernel
theorem dX8_order_19 : decode cX8_order 19 = .ok (.iload_n 2, 1) := by decide +kernel
theorem dX8_order_20 : decode cX8_order 20 = .ok (.invokevirtual 143, 3) := by decide +kernel
theorem dX8_order_23 : decode cX8_order 23 = .ok (.goto 5, 3) := by decide +kernel
theorem dX8_order_26 : decode cX8_order 26 = .ok (.bipush (-2), 2) := by decide +kernel
theorem dX8_order_28 : decode cX8_order 28 = .ok (.ireturn, 1) := by decide +kernel
theorem dX8_set_0 : decode cX8_set 0 = .ok (.iload_n 1, 1) := by decide +kernel
theorem dX8_set_1 : decode cX8_set 1 = .ok (.iconst 0, 1) := by decide +kernel
theorem dX8_set_2 : decode cX8_set 2 = .ok (.iconst 4, 1) := by decide +kernel
theorem dX8_set_3 : decode cX8_set 3 = .ok (.invokestatic 94, 3) := by decide +kernel
theorem dX8_set_6 : decode cX8_set 6 = .ok (.ifCond .eq 36, 3) := by decide +kernel
theorem dX8_set_9 : decode cX8_set 9 = .ok (.iload_n 2, 1) := by decide +kernel
theorem dX8_set_10 : decode cX8_set 10 = .ok (.iload_n 1, 1) := by decide +kernel
theorem dX8_set_11 : decode cX8_set 11 = .ok (.iconst 1, 1) := by decide +kernel
theorem dX8_set_12 : decode cX8_set 12 = .ok (.if_icmp .eq 8, 3) := by decide +kernel
theorem dX8_set_15 : decode cX8_set 15 = .ok (.iload_n 1, 1) := by decide +kernel
theorem dX8_set_16 : decode cX8_set 16 = .ok (.iconst 4, 1) := by decide +kernel
theorem dX8_set_17 : decode cX8_set 17 = .ok (.if_icmp .ne 7, 3) := by decide +kernel
theorem dX8_set_20 : decode cX8_set 20 = .ok (.iconst 1, 1) := by decide +kernel
theorem dX8_set_21 : decode cX8_set 21 = .ok (.goto 4, 3) := by decide +kernel
theorem dX8_set_24 : decode cX8_set 24 = .ok (.iconst 0, 1) := by decide +kernel
theorem dX8_set_25 : decode cX8_set 25 = .ok (.iload_n 1, 1) := by decide +kernel
theorem dX8_set_26 : decode cX8_set 26 = .ok (.ifCond .ne 8, 3) := by decide +kernel
theorem dX8_set_29 : decode cX8_set 29 = .ok (.bipush 20, 2) := by decide +kernel
theorem dX8_set_31 : decode cX8_set 31 = .ok (.goto 5, 3) := by decide +kernel
theorem dX8_set_34 : decode cX8_set 34 = .ok (.bipush 9, 2) := by decide +kernel
theorem dX8_set_36 : decode cX8_set 36 = .ok (.invokestatic 94, 3) := by decide +kernel
theorem dX8_set_39 : decode cX8_set 39 = .ok (.ifCond .ne 6, 3) := by decide +kernel
theorem dX8_set_42 : decode cX8_set 42 = .ok (.bipush (-2), 2) := by decide +kernel
theorem dX8_set_44 : decode cX8_set 44 = .ok (.ireturn, 1) := by decide +kernel
theorem dX8_set_45 : decode cX8_set 45 = .ok (.aload_n 0, 1) := by decide +kernel
theorem dX8_set_46 : decode cX8_set 46 = .ok (.getfield 31, 3) := by decide +kernel
theorem dX8_set_49 : decode cX8_set 49 = .ok (.iload_n 1, 1) := by decide +kernel
theorem dX8_set_50 : decode cX8_set 50 = .ok (.iaload, 1) := by decide +kernel
theorem dX8_set_51 : decode cX8_set 51 = .ok (.istore_n 3, 1) := by decide +kernel
theorem dX8_set_52 : decode cX8_set 52 = .ok (.aload_n 0, 1) := by decide +kernel
theorem dX8_set_53 : decode cX8_set 53 = .ok (.getfield 31, 3) := by decide +kernel
theorem dX8_set_56 : decode cX8_set 56 = .ok (.iload_n 1, 1) := by decide +kernel
theorem dX8_set_57 : decode cX8_set 57 = .ok (.iload_n 2, 1) := by decide +kernel
theorem dX8_set_58 : decode cX8_set 58 = .ok (.iastore, 1) := by decide +kernel
theorem dX8_set_59 : decode cX8_set 59 = .ok (.iload_n 3, 1) := by decide +kernel
theorem dX8_set_60 : decode cX8_set 60 = .ok (.ireturn, 1) := by decide +kernel
theorem dX8_rain_0 : decode cX8_rain 0 = .ok (.iload_n 1, 1) := by decide +kernel
theorem dX8_rain_1 : decode cX8_rain 1 = .ok (.invokestatic 134, 3) := by decide +kernel
theorem dX8_rain_4 : decode cX8_rain 4 = .ok (.ifCond .ne 6, 3) := by decide +kernel
theorem dX8_rain_7 : decode cX8_rain 7 = .ok (.bipush (-2), 2) := by decide +kernel
theorem dX8_rain_9 : decode cX8_rain 9 = .ok (.ireturn, 1) := by decide +kernel
theorem dX8_rain_10 : decode cX8_rain 10 = .ok (.aload_n 0, 1) := by decide +kernel
theorem dX8_rain_11 : decode cX8_rain 11 = .ok (.getfield 146, 3) := by decide +kernel
theorem dX8_rain_14 : decode cX8_rain 14 = .ok (.bipush 6, 2) := by decide +kernel
theorem dX8_rain_16 : decode cX8_rain 16 = .ok (.if_icmp .ne 6, 3) := by decide +kernel
theorem dX8_rain_19 : decode cX8_rain 19 = .ok (.bipush (-4), 2) := by decide +kernel
theorem dX8_rain_21 : decode cX8_rain 21 = .ok (.ireturn, 1) := by decide +kernel
theorem dX8_rain_22 : decode cX8_rain 22 = .ok (.aload_n 0, 1) := by decide +kernel
theorem dX8_rain_23 : decode cX8_rain 23 = .ok (.getfield 34, 3) := by decide +kernel
theorem dX8_rain_26 : decode cX8_rain 26 = .ok (.aload_n 0, 1) := by decide +kernel
theorem dX8_rain_27 : decode cX8_rain 27 = .ok (.getfield 146, 3) := by decide +kernel
theorem dX8_rain_30 : decode cX8_rain 30 = .ok (.iload_n 1, 1) := by decide +kernel
theorem dX8_rain_31 : decode cX8_rain 31 = .ok (.iastore, 1) := by decide +kernel
theorem dX8_rain_32 : decode cX8_rain 32 = .ok (.aload_n 0, 1) := by decide +kernel
theorem dX8_rain_33 : decode cX8_rain 33 = .ok (.dup, 1) := by decide +kernel
theorem dX8_rain_34 : decode cX8_rain 34 = .ok (.getfield 146, 3) := by decide +kernel
theorem dX8_rain_37 : decode cX8_rain 37 = .ok (.iconst 1, 1) := by decide +kernel
theorem dX8_rain_38 : decode cX8_rain 38 = .ok (.iadd, 1) := by decide +kernel
theorem dX8_rain_39 : decode cX8_rain 39 = .ok (.putfield 146, 3) := by decide +kernel
theorem dX8_rain_42 : decode cX8_rain 42 = .ok (.aload_n 0, 1) := by decide +kernel
theorem dX8_rain_43 : decode cX8_rain 43 = .ok (.getfield 146, 3) := by decide +kernel
theorem dX8_rain_46 : decode cX8_rain 46 = .ok (.ireturn, 1) := by decide +kernel
theorem dX8_dressing_0 : decode cX8_dressing 0 = .ok (.iload_n 1, 1) := by decide +kernel
theorem dX8_dressing_1 : decode cX8_dressing 1 = .ok (.invokestatic 134, 3) := by decide +kernel
theorem dX8_dressing_4 : decode cX8_dressing 4 = .ok (.ifCond .ne 6, 3) := by decide +kernel
theorem dX8_dressing_7 : decode cX8_dressing 7 = .ok (.bipush (-2), 2) := by decide +kernel
theorem dX8_dressing_9 : decode cX8_dressing 9 = .ok (.ireturn, 1) := by decide +kernel
theorem dX8_dressing_10 : decode cX8_dressing 10 = .ok (.aload_n 0, 1) := by decide +kernel
theorem dX8_dressing_11 : decode cX8_dressing 11 = .ok (.getfield 149, 3) := by decide +kernel
theorem dX8_dressing_14 : decode cX8_dressing 14 = .ok (.bipush 6, 2) := by decide +kernel
theorem dX8_dressing_16 : decode cX8_dressing 16 = .ok (.if_icmp .ne 6, 3) := by decide +kernel
theorem dX8_dressing_19 : decode cX8_dressing 19 = .ok (.bipush (-4), 2) := by decide +kernel
theorem dX8_dressing_21 : decode cX8_dressing 21 = .ok (.ireturn, 1) := by decide +kernel
theorem dX8_dressing_22 : decode cX8_dressing 22 = .ok (.aload_n 0, 1) := by decide +kernel
theorem dX8_dressing_23 : decode cX8_dressing 23 = .ok (.getfield 37, 3) := by decide +kernel
theorem dX8_dressing_26 : decode cX8_dressing 26 = .ok (.aload_n 0, 1) := by decide +kernel
theorem dX8_dressing_27 : decode cX8_dressing 27 = .ok (.getfield 149, 3) := by decide +kernel
theorem dX8_dressing_30 : decode cX8_dressing 30 = .ok (.iload_n 1, 1) := by decide +kernel
theorem dX8_dressing_31 : decode cX8_dressing 31 = .ok (.iastore, 1) := by decide +kernel
theorem dX8_dressing_32 : decode cX8_dressing 32 = .ok (.aload_n 0, 1) := by decide +kernel
theorem dX8_dressing_33 : decode cX8_dressing 33 = .ok (.dup, 1) := by decide +kernel
theorem dX8_dressing_34 : decode cX8_dressing 34 = .ok (.getfield 149, 3) := by decide +kernel
theorem dX8_dressing_37 : decode cX8_dressing 37 = .ok (.iconst 1, 1) := by decide +kernel
theorem dX8_dressing_38 : decode cX8_dressing 38 = .ok (.iadd, 1) := by decide +kernel
theorem dX8_dressing_39 : decode cX8_dressing 39 = .ok (.putfield 149, 3) := by decide +kernel
theorem dX8_dressing_42 : decode cX8_dressing 42 = .ok (.aload_n 0, 1) := by decide +kernel
theorem dX8_dressing_43 : decode cX8_dressing 43 = .ok (.getfield 149, 3) := by decide +kernel
theorem dX8_dressing_46 : decode cX8_dressing 46 = .ok (.ireturn, 1) := by decide +kernel
theorem dX8_back_0 : decode cX8_back 0 = .ok (.iload_n 1, 1) := by decide +kernel
theorem dX8_back_1 : decode cX8_back 1 = .ok (.iconst 0, 1) := by decide +kernel
theorem dX8_back_2 : decode cX8_back 2 = .ok (.iconst 1, 1) := by decide +kernel
theorem dX8_back_3 : decode cX8_back 3 = .ok (.invokestatic 94, 3) := by decide +kernel
theorem dX8_back_6 : decode cX8_back 6 = .ok (.ifCond .ne 6, 3) := by decide +kernel
theorem dX8_back_9 : decode cX8_back 9 = .ok (.bipush (-2), 2) := by decide +kernel
theorem dX8_back_11 : decode cX8_back 11 = .ok (.ireturn, 1) := by decide +kernel
theorem dX8_back_12 : decode cX8_back 12 = .ok (.iload_n 1, 1) := by decide +kernel
theorem dX8_back_13 : decode cX8_back 13 = .ok (.ifCond .ne 10, 3) := by decide +kernel
theorem dX8_back_16 : decode cX8_back 16 = .ok (.aload_n 0, 1) := by decide +kernel
theorem dX8_back_17 : decode cX8_back 17 = .ok (.getfield 146, 3) := by decide +kernel
theorem dX8_back_20 : decode cX8_back 20 = .ok (.goto 7, 3) := by decide +kernel
theorem dX8_back_23 : decode cX8_back 23 = .ok (.aload_n 0, 1) := by decide +kernel
theorem dX8_back_24 : decode cX8_back 24 = .ok (.getfield 149, 3) := by decide +kernel
theorem dX8_back_27 : decode cX8_back 27 = .ok (.istore_n 2, 1) := by decide +kernel
theorem dX8_back_28 : decode cX8_back 28 = .ok (.iload_n 2, 1) := by decide +kernel
theorem dX8_back_29 : decode cX8_back 29 = .ok (.ifCond .ne 6, 3) := by decide +kernel
theorem dX8_back_32 : decode cX8_back 32 = .ok (.bipush (-3), 2) := by decide +kernel
theorem dX8_back_34 : decode cX8_back 34 = .ok (.ireturn, 1) := by decide +kernel
theorem dX8_back_35 : decode cX8_back 35 = .ok (.aload_n 0, 1) := by decide +kernel
theorem dX8_back_36 : decode cX8_back 36 = .ok (.dup, 1) := by decide +kernel
theorem dX8_back_37 : decode cX8_back 37 = .ok (.getfield 146, 3) := by decide +kernel
theorem dX8_back_40 : decode cX8_back 40 = .ok (.iload_n 1, 1) := by decide +kernel
theorem dX8_back_41 : decode cX8_back 41 = .ok (.ifCond .ne 7, 3) := by decide +kernel
theorem dX8_back_44 : decode cX8_back 44 = .ok (.iconst 1, 1) := by decide +kernel
theorem dX8_back_45 : decode cX8_back 45 = .ok (.goto 4, 3) := by decide +kernel
theorem dX8_back_48 : decode cX8_back 48 = .ok (.iconst 0, 1) := by decide +kernel
theorem dX8_back_49 : decode cX8_back 49 = .ok (.isub, 1) := by decide +kernel
theorem dX8_back_50 : decode cX8_back 50 = .ok (.putfield 146, 3) := by decide +kernel
theorem dX8_back_53 : decode cX8_back 53 = .ok (.aload_n 0, 1) := by decide +kernel
theorem dX8_back_54 : decode cX8_back 54 = .ok (.dup, 1) := by decide +kernel
theorem dX8_back_55 : decode cX8_back 55 = .ok (.getfield 149, 3) := by decide +kernel
theorem dX8_back_58 : decode cX8_back 58 = .ok (.iload_n 1, 1) := by decide +kernel
theorem dX8_back_59 : decode cX8_back 59 = .ok (.iconst 1, 1) := by decide +kernel
theorem dX8_back_60 : decode cX8_back 60 = .ok (.if_icmp .ne 7, 3) := by decide +kernel
theorem dX8_back_63 : decode cX8_back 63 = .ok (.iconst 1, 1) := by decide +kernel
theorem dX8_back_64 : decode cX8_back 64 = .ok (.goto 4, 3) := by decide +kernel
theorem dX8_back_67 : decode cX8_back 67 = .ok (.iconst 0, 1) := by decide +kernel
theorem dX8_back_68 : decode cX8_back 68 = .ok (.isub, 1) := by decide +kernel
theorem dX8_back_69 : decode cX8_back 69 = .ok (.putfield 149, 3) := by decide +kernel
theorem dX8_back_72 : decode cX8_back 72 = .ok (.iload_n 2, 1) := by decide +kernel
theorem dX8_back_73 : decode cX8_back 73 = .ok (.iconst 1, 1) := by decide +kernel
theorem dX8_back_74 : decode cX8_back 74 = .ok (.isub, 1) := by decide +kernel
theorem dX8_back_75 : decode cX8_back 75 = .ok (.ireturn, 1) := by decide +kernel
theorem dX8_read_0 : decode cX8_read 0 = .ok (.iload_n 1, 1) := by decide +kernel
theorem dX8_read_1 : decode cX8_read 1 = .ok (.invokestatic 152, 3) := by decide +kernel
theorem dX8_read_4 : decode cX8_read 4 = .ok (.ifCond .ne 6, 3) := by decide +kernel
theorem dX8_read_7 : decode cX8_read 7 = .ok (.bipush (-2), 2) := by decide +kernel
theorem dX8_read_9 : decode cX8_read 9 = .ok (.ireturn, 1) := by decide +kernel
theorem dX8_read_10 : decode cX8_read 10 = .ok (.aload_n 0, 1) := by decide +kernel
theorem dX8_read_11 : decode cX8_read 11 = .ok (.getfield 76, 3) := by decide +kernel
theorem dX8_read_14 : decode cX8_read 14 = .ok (.iload_n 1, 1) := by decide +kernel
theorem dX8_read_15 : decode cX8_read 15 = .ok (.baload, 1) := by decide +kernel
theorem dX8_read_16 : decode cX8_read 16 = .ok (.ifCond .ne 9, 3) := by decide +kernel
theorem dX8_read_19 : decode cX8_read 19 = .ok (.aload_n 0, 1) := by decide +kernel
theorem dX8_read_20 : decode cX8_read 20 = .ok (.iconst 1, 1) := by decide +kernel
theorem dX8_read_21 : decode cX8_read 21 = .ok (.invokevirtual 155, 3) := by decide +kernel
theorem dX8_read_24 : decode cX8_read 24 = .ok (.ireturn, 1) := by decide +kernel
theorem dX8_read_25 : decode cX8_read 25 = .ok (.iconst 0, 1) := by decide +kernel
theorem dX8_read_26 : decode cX8_read 26 = .ok (.istore_n 2, 1) := by decide +kernel
theorem dX8_read_27 : decode cX8_read 27 = .ok (.iload_n 2, 1) := by decide +kernel
theorem dX8_read_28 : decode cX8_read 28 = .ok (.aload_n 0, 1) := by decide +kernel
theorem dX8_read_29 : decode cX8_read 29 = .ok (.getfield 83, 3) := by decide +kernel
theorem dX8_read_32 : decode cX8_read 32 = .ok (.iload_n 1, 1) := by decide +kernel
theorem dX8_read_33 : decode cX8_read 33 = .ok (.iaload, 1) := by decide +kernel
theorem dX8_read_34 : decode cX8_read 34 = .ok (.if_icmp .ge 27, 3) := by decide +kernel
theorem dX8_read_37 : decode cX8_read 37 = .ok (.aload_n 0, 1) := by decide +kernel
theorem dX8_read_38 : decode cX8_read 38 = .ok (.aload_n 0, 1) := by decide +kernel
theorem dX8_read_39 : decode cX8_read 39 = .ok (.getfield 86, 3) := by decide +kernel
theorem dX8_read_42 : decode cX8_read 42 = .ok (.bipush 60, 2) := by decide +kernel
theorem dX8_read_44 : decode cX8_read 44 = .ok (.iload_n 1, 1) := by decide +kernel
theorem dX8_read_45 : decode cX8_read 45 = .ok (.imul, 1) := by decide +kernel
theorem dX8_read_46 : decode cX8_read 46 = .ok (.iload_n 2, 1) := by decide +kernel
theorem dX8_read_47 : decode cX8_read 47 = .ok (.iadd, 1) := by decide +kernel
theorem dX8_read_48 : decode cX8_read 48 = .ok (.iaload, 1) := by decide +kernel
theorem dX8_read_49 : decode cX8_read 49 = .ok (.invokevirtual 158, 3) := by decide +kernel
theorem dX8_read_52 : decode cX8_read 52 = .ok (.ifCond .le 9, 3) := by decide +kernel
theorem dX8_read_55 : decode cX8_read 55 = .ok (.iinc 2 1, 3) := by decide +kernel
theorem dX8_read_58 : decode cX8_read 58 = .ok (.goto (-31), 3) := by decide +kernel
theorem dX8_read_61 : decode cX8_read 61 = .ok (.iload_n 2, 1) := by decide +kernel
theorem dX8_read_62 : decode cX8_read 62 = .ok (.ireturn, 1) := by decide +kernel
theorem dX8_asTold_0 : decode cX8_asTold 0 = .ok (.aload_n 0, 1) := by decide +kernel
theorem dX8_asTold_1 : decode cX8_asTold 1 = .ok (.invokevirtual 131, 3) := by decide +kernel
theorem dX8_asTold_4 : decode cX8_asTold 4 = .ok (.iconst 0, 1) := by decide +kernel
theorem dX8_asTold_5 : decode cX8_asTold 5 = .ok (.istore_n 1, 1) := by decide +kernel
theorem dX8_asTold_6 : decode cX8_asTold 6 = .ok (.iload_n 1, 1) := by decide +kernel
theorem dX8_asTold_7 : decode cX8_asTold 7 = .ok (.bipush 40, 2) := by decide +kernel
theorem dX8_asTold_9 : decode cX8_asTold 9 = .ok (.if_icmp .ge 21, 3) := by decide +kernel
theorem dX8_asTold_12 : decode cX8_asTold 12 = .ok (.aload_n 0, 1) := by decide +kernel
theorem dX8_asTold_13 : decode cX8_asTold 13 = .ok (.getfield 40, 3) := by decide +kernel
theorem dX8_asTold_16 : decode cX8_asTold 16 = .ok (.iload_n 1, 1) := by decide +kernel
theorem dX8_asTold_17 : decode cX8_asTold 17 = .ok (.aload_n 0, 1) := by decide +kernel
theorem dX8_asTold_18 : decode cX8_asTold 18 = .ok (.getfield 16, 3) := by decide +kernel
theorem dX8_asTold_21 : decode cX8_asTold 21 = .ok (.iload_n 1, 1) := by decide +kernel
theorem dX8_asTold_22 : decode cX8_asTold 22 = .ok (.iaload, 1) := by decide +kernel
theorem dX8_asTold_23 : decode cX8_asTold 23 = .ok (.iastore, 1) := by decide +kernel
theorem dX8_asTold_24 : decode cX8_asTold 24 = .ok (.iinc 1 1, 3) := by decide +kernel
theorem dX8_asTold_27 : decode cX8_asTold 27 = .ok (.goto (-21), 3) := by decide +kernel
theorem dX8_asTold_30 : decode cX8_asTold 30 = .ok (.aload_n 0, 1) := by decide +kernel
theorem dX8_asTold_31 : decode cX8_asTold 31 = .ok (.iconst 0, 1) := by decide +kernel
theorem dX8_asTold_32 : decode cX8_asTold 32 = .ok (.putfield 161, 3) := by decide +kernel
theorem dX8_asTold_35 : decode cX8_asTold 35 = .ok (.aload_n 0, 1) := by decide +kernel
theorem dX8_asTold_36 : decode cX8_asTold 36 = .ok (.aload_n 0, 1) := by decide +kernel
theorem dX8_asTold_37 : decode cX8_asTold 37 = .ok (.getfield 149, 3) := by decide +kernel
theorem dX8_asTold_40 : decode cX8_asTold 40 = .ok (.putfield 164, 3) := by decide +kernel
theorem dX8_asTold_43 : decode cX8_asTold 43 = .ok (.aload_n 0, 1) := by decide +kernel
theorem dX8_asTold_44 : decode cX8_asTold 44 = .ok (.aload_n 0, 1) := by decide +kernel
theorem dX8_asTold_45 : decode cX8_asTold 45 = .ok (.getfield 114, 3) := by decide +kernel
theorem dX8_asTold_48 : decode cX8_asTold 48 = .ok (.putfield 167, 3) := by decide +kernel
theorem dX8_asTold_51 : decode cX8_asTold 51 = .ok (.iconst 0, 1) := by decide +kernel
theorem dX8_asTold_52 : decode cX8_asTold 52 = .ok (.istore_n 1, 1) := by decide +kernel
theorem dX8_asTold_53 : decode cX8_asTold 53 = .ok (.iload_n 1, 1) := by decide +kernel
theorem dX8_asTold_54 : decode cX8_asTold 54 = .ok (.aload_n 0, 1) := by decide +kernel
theorem dX8_asTold_55 : decode cX8_asTold 55 = .ok (.getfield 114, 3) := by decide +kernel
theorem dX8_asTold_58 : decode cX8_asTold 58 = .ok (.if_icmp .ge 16, 3) := by decide +kernel
theorem dX8_asTold_61 : decode cX8_asTold 61 = .ok (.aload_n 0, 1) := by decide +kernel
theorem dX8_asTold_62 : decode cX8_asTold 62 = .ok (.getfield 43, 3) := by decide +kernel
theorem dX8_asTold_65 : decode cX8_asTold 65 = .ok (.iload_n 1, 1) := by decide +kernel
theorem dX8_asTold_66 : decode cX8_asTold 66 = .ok (.iload_n 1, 1) := by decide +kernel
theorem dX8_asTold_67 : decode cX8_asTold 67 = .ok (.iastore, 1) := by decide +kernel
theorem dX8_asTold_68 : decode cX8_asTold 68 = .ok (.iinc 1 1, 3) := by decide +kernel
theorem dX8_asTold_71 : decode cX8_asTold 71 = .ok (.goto (-18), 3) := by decide +kernel
theorem dX8_asTold_74 : decode cX8_asTold 74 = .ok (.aload_n 0, 1) := by decide +kernel
theorem dX8_asTold_75 : decode cX8_asTold 75 = .ok (.aload_n 0, 1) := by decide +kernel
theorem dX8_asTold_76 : decode cX8_asTold 76 = .ok (.getfield 31, 3) := by decide +kernel
theorem dX8_asTold_79 : decode cX8_asTold 79 = .ok (.iconst 0, 1) := by decide +kernel
theorem dX8_asTold_80 : decode cX8_asTold 80 = .ok (.iaload, 1) := by decide +kernel
theorem dX8_asTold_81 : decode cX8_asTold 81 = .ok (.putfield 170, 3) := by decide +kernel
theorem dX8_asTold_84 : decode cX8_asTold 84 = .ok (.aload_n 0, 1) := by decide +kernel
theorem dX8_asTold_85 : decode cX8_asTold 85 = .ok (.aload_n 0, 1) := by decide +kernel
theorem dX8_asTold_86 : decode cX8_asTold 86 = .ok (.getfield 31, 3) := by decide +kernel
theorem dX8_asTold_89 : decode cX8_asTold 89 = .ok (.iconst 1, 1) := by decide +kernel
theorem dX8_asTold_90 : decode cX8_asTold 90 = .ok (.iaload, 1) := by decide +kernel
theorem dX8_asTold_91 : decode cX8_asTold 91 = .ok (.putfield 173, 3) := by decide +kernel
theorem dX8_asTold_94 : decode cX8_asTold 94 = .ok (.return_, 1) := by decide +kernel
theorem dX8_fills_0 : decode cX8_fills 0 = .ok (.aload_n 0, 1) := by decide +kernel
theorem dX8_fills_1 : decode cX8_fills 1 = .ok (.getfield 40, 3) := by decide +kernel
theorem dX8_fills_4 : decode cX8_fills 4 = .ok (.iload_n 1, 1) := by decide +kernel
theorem dX8_fills_5 : decode cX8_fills 5 = .ok (.iaload, 1) := by decide +kernel
theorem dX8_fills_6 : decode cX8_fills 6 = .ok (.aload_n 0, 1) := by decide +kernel
theorem dX8_fills_7 : decode cX8_fills 7 = .ok (.getfield 176, 3) := by decide +kernel
theorem dX8_fills_10 : decode cX8_fills 10 = .ok (.isub, 1) := by decide +kernel
theorem dX8_fills_11 : decode cX8_fills 11 = .ok (.istore_n 2, 1) := by decide +kernel
theorem dX8_fills_12 : decode cX8_fills 12 = .ok (.aload_n 0, 1) := by decide +kernel
theorem dX8_fills_13 : decode cX8_fills 13 = .ok (.dup, 1) := by decide +kernel
theorem dX8_fills_14 : decode cX8_fills 14 = .ok (.getfield 176, 3) := by decide +kernel
theorem dX8_fills_17 : decode cX8_fills 17 = .ok (.iload_n 2, 1) := by decide +kernel
theorem dX8_fills_18 : decode cX8_fills 18 = .ok (.ifCond .gt 7, 3) := by decide +kernel
theorem dX8_fills_21 : decode cX8_fills 21 = .ok (.iconst 0, 1) := by decide +kernel
theorem dX8_fills_22 : decode cX8_fills 22 = .ok (.goto 19, 3) := by decide +kernel
theorem dX8_fills_25 : decode cX8_fills 25 = .ok (.iload_n 2, 1) := by decide +kernel
theorem dX8_fills_26 : decode cX8_fills 26 = .ok (.aload_n 0, 1) := by decide +kernel
theorem dX8_fills_27 : decode cX8_fills 27 = .ok (.getfield 173, 3) := by decide +kernel
theorem dX8_fills_30 : decode cX8_fills 30 = .ok (.if_icmp .ge 7, 3) := by decide +kernel
theorem dX8_fills_33 : decode cX8_fills 33 = .ok (.iload_n 2, 1) := by decide +kernel
theorem dX8_fills_34 : decode cX8_fills 34 = .ok (.goto 7, 3) := by decide +kernel
theorem dX8_fills_37 : decode cX8_fills 37 = .ok (.aload_n 0, 1) := by decide +kernel
theorem dX8_fills_38 : decode cX8_fills 38 = .ok (.getfield 173, 3) := by decide +kernel
theorem dX8_fills_41 : decode cX8_fills 41 = .ok (.iadd, 1) := by decide +kernel
theorem dX8_fills_42 : decode cX8_fills 42 = .ok (.putfield 176, 3) := by decide +kernel
theorem dX8_fills_45 : decode cX8_fills 45 = .ok (.iconst 0, 1) := by decide +kernel
theorem dX8_fills_46 : decode cX8_fills 46 = .ok (.istore_n 3, 1) := by decide +kernel
theorem dX8_fills_47 : decode cX8_fills 47 = .ok (.iload_n 3, 1) := by decide +kernel
theorem dX8_fills_48 : decode cX8_fills 48 = .ok (.aload_n 0, 1) := by decide +kernel
theorem dX8_fills_49 : decode cX8_fills 49 = .ok (.getfield 146, 3) := by decide +kernel
theorem dX8_fills_52 : decode cX8_fills 52 = .ok (.if_icmp .ge 44, 3) := by decide +kernel
theorem dX8_fills_55 : decode cX8_fills 55 = .ok (.aload_n 0, 1) := by decide +kernel
theorem dX8_fills_56 : decode cX8_fills 56 = .ok (.dup, 1) := by decide +kernel
theorem dX8_fills_57 : decode cX8_fills 57 = .ok (.getfield 176, 3) := by decide +kernel
theorem dX8_fills_60 : decode cX8_fills 60 = .ok (.aload_n 0, 1) := by decide +kernel
theorem dX8_fills_61 : decode cX8_fills 61 = .ok (.getfield 34, 3) := by decide +kernel
theorem dX8_fills_64 : decode cX8_fills 64 = .ok (.iload_n 3, 1) := by decide +kernel
theorem dX8_fills_65 : decode cX8_fills 65 = .ok (.iaload, 1) := by decide +kernel
theorem dX8_fills_66 : decode cX8_fills 66 = .ok (.iload_n 1, 1) := by decide +kernel
theorem dX8_fills_67 : decode cX8_fills 67 = .ok (.if_icmp .ne 18, 3) := by decide +kernel
theorem dX8_fills_70 : decode cX8_fills 70 = .ok (.aload_n 0, 1) := by decide +kernel
theorem dX8_fills_71 : decode cX8_fills 71 = .ok (.getfield 161, 3) := by decide +kernel
theorem dX8_fills_74 : decode cX8_fills 74 = .ok (.iload_n 3, 1) := by decide +kernel
theorem dX8_fills_75 : decode cX8_fills 75 = .ok (.invokestatic 179, 3) := by decide +kernel
theorem dX8_fills_78 : decode cX8_fills 78 = .ok (.ifCond .ne 7, 3) := by decide +kernel
theorem dX8_fills_81 : decode cX8_fills 81 = .ok (.iconst 3, 1) := by decide +kernel
theorem dX8_fills_82 : decode cX8_fills 82 = .ok (.goto 4, 3) := by decide +kernel
theorem dX8_fills_85 : decode cX8_fills 85 = .ok (.iconst 0, 1) := by decide +kernel
theorem dX8_fills_86 : decode cX8_fills 86 = .ok (.iadd, 1) := by decide +kernel
theorem dX8_fills_87 : decode cX8_fills 87 = .ok (.putfield 176, 3) := by decide +kernel
theorem dX8_fills_90 : decode cX8_fills 90 = .ok (.iinc 3 1, 3) := by decide +kernel
theorem dX8_fills_93 : decode cX8_fills 93 = .ok (.goto (-46), 3) := by decide +kernel
theorem dX8_fills_96 : decode cX8_fills 96 = .ok (.aload_n 0, 1) := by decide +kernel
theorem dX8_fills_97 : decode cX8_fills 97 = .ok (.dup, 1) := by decide +kernel
theorem dX8_fills_98 : decode cX8_fills 98 = .ok (.getfield 182, 3) := by decide +kernel
theorem dX8_fills_101 : decode cX8_fills 101 = .ok (.aload_n 0, 1) := by decide +kernel
theorem dX8_fills_102 : decode cX8_fills 102 = .ok (.getfield 176, 3) := by decide +kernel
theorem dX8_fills_105 : decode cX8_fills 105 = .ok (.bipush 20, 2) := by decide +kernel
theorem dX8_fills_107 : decode cX8_fills 107 = .ok (.if_icmp .le 13, 3) := by decide +kernel
theorem dX8_fills_110 : decode cX8_fills 110 = .ok (.aload_n 0, 1) := by decide +kernel
theorem dX8_fills_111 : decode cX8_fills 111 = .ok (.getfield 176, 3) := by decide +kernel
theorem dX8_fills_114 : decode cX8_fills 114 = .ok (.bipush 20, 2) := by decide +kernel
theorem dX8_fills_116 : decode cX8_fills 116 = .ok (.isub, 1) := by decide +kernel
theorem dX8_fills_117 : decode cX8_fills 117 = .ok (.goto 4, 3) := by decide +kernel
theorem dX8_fills_120 : decode cX8_fills 120 = .ok (.iconst 0, 1) := by decide +kernel
theorem dX8_fills_121 : decode cX8_fills 121 = .ok (.iadd, 1) := by decide +kernel
theorem dX8_fills_122 : decode cX8_fills 122 = .ok (.putfield 182, 3) := by decide +kernel
theorem dX8_fills_125 : decode cX8_fills 125 = .ok (.aload_n 0, 1) := by decide +kernel
theorem dX8_fills_126 : decode cX8_fills 126 = .ok (.aload_n 0, 1) := by decide +kernel
theorem dX8_fills_127 : decode cX8_fills 127 = .ok (.getfield 176, 3) := by decide +kernel
theorem dX8_fills_130 : decode cX8_fills 130 = .ok (.bipush 20, 2) := by decide +kernel
theorem dX8_fills_132 : decode cX8_fills 132 = .ok (.if_icmp .le 8, 3) := by decide +kernel
theorem dX8_fills_135 : decode cX8_fills 135 = .ok (.bipush 20, 2) := by decide +kernel
theorem dX8_fills_137 : decode cX8_fills 137 = .ok (.goto 7, 3) := by decide +kernel
theorem dX8_fills_140 : decode cX8_fills 140 = .ok (.aload_n 0, 1) := by decide +kernel
theorem dX8_fills_141 : decode cX8_fills 141 = .ok (.getfield 176, 3) := by decide +kernel
theorem dX8_fills_144 : decode cX8_fills 144 = .ok (.putfield 176, 3) := by decide +kernel
theorem dX8_fills_147 : decode cX8_fills 147 = .ok (.aload_n 0, 1) := by decide +kernel
theorem dX8_fills_148 : decode cX8_fills 148 = .ok (.aload_n 0, 1) := by decide +kernel
theorem dX8_fills_149 : decode cX8_fills 149 = .ok (.getfield 176, 3) := by decide +kernel
theorem dX8_fills_152 : decode cX8_fills 152 = .ok (.aload_n 0, 1) := by decide +kernel
theorem dX8_fills_153 : decode cX8_fills 153 = .ok (.getfield 31, 3) := by decide +kernel
theorem dX8_fills_156 : decode cX8_fills 156 = .ok (.iconst 2, 1) := by decide +kernel
theorem dX8_fills_157 : decode cX8_fills 157 = .ok (.iaload, 1) := by decide +kernel
theorem dX8_fills_158 : decode cX8_fills 158 = .ok (.if_icmp .le 17, 3) := by decide +kernel
theorem dX8_fills_161 : decode cX8_fills 161 = .ok (.aload_n 0, 1) := by decide +kernel
theorem dX8_fills_162 : decode cX8_fills 162 = .ok (.getfield 176, 3) := by decide +kernel
theorem dX8_fills_165 : decode cX8_fills 165 = .ok (.aload_n 0, 1) := by decide +kernel
theorem dX8_fills_166 : decode cX8_fills 166 = .ok (.getfield 31, 3) := by decide +kernel
theorem dX8_fills_169 : decode cX8_fills 169 = .ok (.iconst 2, 1) := by decide +kernel
theorem dX8_fills_170 : decode cX8_fills 170 = .ok (.iaload, 1) := by decide +kernel
theorem dX8_fills_171 : decode cX8_fills 171 = .ok (.isub, 1) := by decide +kernel
theorem dX8_fills_172 : decode cX8_fills 172 = .ok (.goto 4, 3) := by decide +kernel
theorem dX8_fills_175 : decode cX8_fills 175 = .ok (.iconst 0, 1) := by decide +kernel
theorem dX8_fills_176 : decode cX8_fills 176 = .ok (.putfield 176, 3) := by decide +kernel
theorem dX8_fills_179 : decode cX8_fills 179 = .ok (.return_, 1) := by decide +kernel
theorem dX8_isDressed_0 : decode cX8_isDressed 0 = .ok (.iconst 0, 1) := by decide +kernel
theorem dX8_isDressed_1 : decode cX8_isDressed 1 = .ok (.istore_n 2, 1) := by decide +kernel
theorem dX8_isDressed_2 : decode cX8_isDressed 2 = .ok (.iconst 0, 1) := by decide +kernel
theorem dX8_isDressed_3 : decode cX8_isDressed 3 = .ok (.istore_n 3, 1) := by decide +kernel
theorem dX8_isDressed_4 : decode cX8_isDressed 4 = .ok (.iload_n 3, 1) := by decide +kernel
theorem dX8_isDressed_5 : decode cX8_isDressed 5 = .ok (.aload_n 0, 1) := by decide +kernel
theorem dX8_isDressed_6 : decode cX8_isDressed 6 = .ok (.getfield 164, 3) := by decide +kernel
theorem dX8_isDressed_9 : decode cX8_isDressed 9 = .ok (.if_icmp .ge 29, 3) := by decide +kernel
theorem dX8_isDressed_12 : decode cX8_isDressed 12 = .ok (.iload_n 2, 1) := by decide +kernel
theorem dX8_isDressed_13 : decode cX8_isDressed 13 = .ok (.ifCond .ne 13, 3) := by decide +kernel
theorem dX8_isDressed_16 : decode cX8_isDressed 16 = .ok (.aload_n 0, 1) := by decide +kernel
theorem dX8_isDressed_17 : decode cX8_isDressed 17 = .ok (.getfield 37, 3) := by decide +kernel
theorem dX8_isDressed_20 : decode cX8_isDressed 20 = .ok (.iload_n 3, 1) := by decide +kernel
theorem dX8_isDressed_21 : decode cX8_isDressed 21 = .ok (.iaload, 1) := by decide +kernel
theorem dX8_isDressed_22 : decode cX8_isDressed 22 = .ok (.iload_n 1, 1) := by decide +kernel
theorem dX8_isDressed_23 : decode cX8_isDressed 23 = .ok (.if_icmp .ne 7, 3) := by decide +kernel
theorem dX8_isDressed_26 : decode cX8_isDressed 26 = .ok (.iconst 1, 1) := by decide +kernel
theorem dX8_isDressed_27 : decode cX8_isDressed 27 = .ok (.goto 4, 3) := by decide +kernel
theorem dX8_isDressed_30 : decode cX8_isDressed 30 = .ok (.iconst 0, 1) := by decide +kernel
theorem dX8_isDressed_31 : decode cX8_isDressed 31 = .ok (.istore_n 2, 1) := by decide +kernel
theorem dX8_isDressed_32 : decode cX8_isDressed 32 = .ok (.iinc 3 1, 3) := by decide +kernel
theorem dX8_isDressed_35 : decode cX8_isDressed 35 = .ok (.goto (-31), 3) := by decide +kernel
theorem dX8_isDressed_38 : decode cX8_isDressed 38 = .ok (.iload_n 2, 1) := by decide +kernel
theorem dX8_isDressed_39 : decode cX8_isDressed 39 = .ok (.ireturn, 1) := by decide +kernel
theorem dX8_grinds_0 : decode cX8_grinds 0 = .ok (.aload_n 0, 1) := by decide +kernel
theorem dX8_grinds_1 : decode cX8_grinds 1 = .ok (.getfield 43, 3) := by decide +kernel
theorem dX8_grinds_4 : decode cX8_grinds 4 = .ok (.aload_n 0, 1) := by decide +kernel
theorem dX8_grinds_5 : decode cX8_grinds 5 = .ok (.getfield 185, 3) := by decide +kernel
theorem dX8_grinds_8 : decode cX8_grinds 8 = .ok (.iaload, 1) := by decide +kernel
theorem dX8_grinds_9 : decode cX8_grinds 9 = .ok (.istore_n 2, 1) := by decide +kernel
theorem dX8_grinds_10 : decode cX8_grinds 10 = .ok (.aload_n 0, 1) := by decide +kernel
theorem dX8_grinds_11 : decode cX8_grinds 11 = .ok (.getfield 31, 3) := by decide +kernel
theorem dX8_grinds_14 : decode cX8_grinds 14 = .ok (.iconst 3, 1) := by decide +kernel
theorem dX8_grinds_15 : decode cX8_grinds 15 = .ok (.iaload, 1) := by decide +kernel
theorem dX8_grinds_16 : decode cX8_grinds 16 = .ok (.iconst 2, 1) := by decide +kernel
theorem dX8_grinds_17 : decode cX8_grinds 17 = .ok (.aload_n 0, 1) := by decide +kernel
theorem dX8_grinds_18 : decode cX8_grinds 18 = .ok (.getfield 19, 3) := by decide +kernel
theorem dX8_grinds_21 : decode cX8_grinds 21 = .ok (.iload_n 2, 1) := by decide +kernel
theorem dX8_grinds_22 : decode cX8_grinds 22 = .ok (.iaload, 1) := by decide +kernel
theorem dX8_grinds_23 : decode cX8_grinds 23 = .ok (.isub, 1) := by decide +kernel
theorem dX8_grinds_24 : decode cX8_grinds 24 = .ok (.iadd, 1) := by decide +kernel
theorem dX8_grinds_25 : decode cX8_grinds 25 = .ok (.aload_n 0, 1) := by decide +kernel
theorem dX8_grinds_26 : decode cX8_grinds 26 = .ok (.getfield 188, 3) := by decide +kernel
theorem dX8_grinds_29 : decode cX8_grinds 29 = .ok (.aload_n 0, 1) := by decide +kernel
theorem dX8_grinds_30 : decode cX8_grinds 30 = .ok (.getfield 31, 3) := by decide +kernel
theorem dX8_grinds_33 : decode cX8_grinds 33 = .ok (.iconst 4, 1) := by decide +kernel
theorem dX8_grinds_34 : decode cX8_grinds 34 = .ok (.iaload, 1) := by decide +kernel
theorem dX8_grinds_35 : decode cX8_grinds 35 = .ok (.idiv, 1) := by decide +kernel
end
section
theorem dX8_grinds_36 : decode cX8_grinds 36 = .ok (.iadd, 1) := by decide +kernel
theorem dX8_grinds_37 : decode cX8_grinds 37 = .ok (.istore_n 3, 1) := by decide +kernel
theorem dX8_grinds_38 : decode cX8_grinds 38 = .ok (.aload_n 0, 1) := by decide +kernel
theorem dX8_grinds_39 : decode cX8_grinds 39 = .ok (.getfield 52, 3) := by decide +kernel
theorem dX8_grinds_42 : decode cX8_grinds 42 = .ok (.iload_n 1, 1) := by decide +kernel
theorem dX8_grinds_43 : decode cX8_grinds 43 = .ok (.iload_n 2, 1) := by decide +kernel
theorem dX8_grinds_44 : decode cX8_grinds 44 = .ok (.iastore, 1) := by decide +kernel
theorem dX8_grinds_45 : decode cX8_grinds 45 = .ok (.aload_n 0, 1) := by decide +kernel
theorem dX8_grinds_46 : decode cX8_grinds 46 = .ok (.getfield 176, 3) := by decide +kernel
theorem dX8_grinds_49 : decode cX8_grinds 49 = .ok (.aload_n 0, 1) := by decide +kernel
theorem dX8_grinds_50 : decode cX8_grinds 50 = .ok (.getfield 40, 3) := by decide +kernel
theorem dX8_grinds_53 : decode cX8_grinds 53 = .ok (.iload_n 1, 1) := by decide +kernel
theorem dX8_grinds_54 : decode cX8_grinds 54 = .ok (.iaload, 1) := by decide +kernel
theorem dX8_grinds_55 : decode cX8_grinds 55 = .ok (.isub, 1) := by decide +kernel
theorem dX8_grinds_56 : decode cX8_grinds 56 = .ok (.iload_n 3, 1) := by decide +kernel
theorem dX8_grinds_57 : decode cX8_grinds 57 = .ok (.if_icmp .ge 21, 3) := by decide +kernel
theorem dX8_grinds_60 : decode cX8_grinds 60 = .ok (.aload_n 0, 1) := by decide +kernel
theorem dX8_grinds_61 : decode cX8_grinds 61 = .ok (.getfield 55, 3) := by decide +kernel
theorem dX8_grinds_64 : decode cX8_grinds 64 = .ok (.iload_n 1, 1) := by decide +kernel
theorem dX8_grinds_65 : decode cX8_grinds 65 = .ok (.iconst 1, 1) := by decide +kernel
theorem dX8_grinds_66 : decode cX8_grinds 66 = .ok (.iastore, 1) := by decide +kernel
theorem dX8_grinds_67 : decode cX8_grinds 67 = .ok (.aload_n 0, 1) := by decide +kernel
theorem dX8_grinds_68 : decode cX8_grinds 68 = .ok (.dup, 1) := by decide +kernel
theorem dX8_grinds_69 : decode cX8_grinds 69 = .ok (.getfield 191, 3) := by decide +kernel
theorem dX8_grinds_72 : decode cX8_grinds 72 = .ok (.iconst 1, 1) := by decide +kernel
theorem dX8_grinds_73 : decode cX8_grinds 73 = .ok (.iadd, 1) := by decide +kernel
theorem dX8_grinds_74 : decode cX8_grinds 74 = .ok (.putfield 191, 3) := by decide +kernel
theorem dX8_grinds_77 : decode cX8_grinds 77 = .ok (.return_, 1) := by decide +kernel
theorem dX8_grinds_78 : decode cX8_grinds 78 = .ok (.iconst 3, 1) := by decide +kernel
theorem dX8_grinds_79 : decode cX8_grinds 79 = .ok (.aload_n 0, 1) := by decide +kernel
theorem dX8_grinds_80 : decode cX8_grinds 80 = .ok (.getfield 19, 3) := by decide +kernel
theorem dX8_grinds_83 : decode cX8_grinds 83 = .ok (.iload_n 2, 1) := by decide +kernel
theorem dX8_grinds_84 : decode cX8_grinds 84 = .ok (.iaload, 1) := by decide +kernel
theorem dX8_grinds_85 : decode cX8_grinds 85 = .ok (.isub, 1) := by decide +kernel
theorem dX8_grinds_86 : decode cX8_grinds 86 = .ok (.istore 4, 2) := by decide +kernel
theorem dX8_grinds_88 : decode cX8_grinds 88 = .ok (.aload_n 0, 1) := by decide +kernel
theorem dX8_grinds_89 : decode cX8_grinds 89 = .ok (.aload_n 0, 1) := by decide +kernel
theorem dX8_grinds_90 : decode cX8_grinds 90 = .ok (.getfield 176, 3) := by decide +kernel
theorem dX8_grinds_93 : decode cX8_grinds 93 = .ok (.iload 4, 2) := by decide +kernel
theorem dX8_grinds_95 : decode cX8_grinds 95 = .ok (.if_icmp .le 13, 3) := by decide +kernel
theorem dX8_grinds_98 : decode cX8_grinds 98 = .ok (.aload_n 0, 1) := by decide +kernel
theorem dX8_grinds_99 : decode cX8_grinds 99 = .ok (.getfield 176, 3) := by decide +kernel
theorem dX8_grinds_102 : decode cX8_grinds 102 = .ok (.iload 4, 2) := by decide +kernel
theorem dX8_grinds_104 : decode cX8_grinds 104 = .ok (.isub, 1) := by decide +kernel
theorem dX8_grinds_105 : decode cX8_grinds 105 = .ok (.goto 4, 3) := by decide +kernel
theorem dX8_grinds_108 : decode cX8_grinds 108 = .ok (.iconst 0, 1) := by decide +kernel
theorem dX8_grinds_109 : decode cX8_grinds 109 = .ok (.putfield 176, 3) := by decide +kernel
theorem dX8_grinds_112 : decode cX8_grinds 112 = .ok (.aload_n 0, 1) := by decide +kernel
theorem dX8_grinds_113 : decode cX8_grinds 113 = .ok (.dup, 1) := by decide +kernel
theorem dX8_grinds_114 : decode cX8_grinds 114 = .ok (.getfield 188, 3) := by decide +kernel
theorem dX8_grinds_117 : decode cX8_grinds 117 = .ok (.iconst 1, 1) := by decide +kernel
theorem dX8_grinds_118 : decode cX8_grinds 118 = .ok (.iadd, 1) := by decide +kernel
theorem dX8_grinds_119 : decode cX8_grinds 119 = .ok (.putfield 188, 3) := by decide +kernel
theorem dX8_grinds_122 : decode cX8_grinds 122 = .ok (.aload_n 0, 1) := by decide +kernel
theorem dX8_grinds_123 : decode cX8_grinds 123 = .ok (.dup, 1) := by decide +kernel
theorem dX8_grinds_124 : decode cX8_grinds 124 = .ok (.getfield 194, 3) := by decide +kernel
theorem dX8_grinds_127 : decode cX8_grinds 127 = .ok (.iconst 1, 1) := by decide +kernel
theorem dX8_grinds_128 : decode cX8_grinds 128 = .ok (.iadd, 1) := by decide +kernel
theorem dX8_grinds_129 : decode cX8_grinds 129 = .ok (.putfield 194, 3) := by decide +kernel
theorem dX8_grinds_132 : decode cX8_grinds 132 = .ok (.aload_n 0, 1) := by decide +kernel
theorem dX8_grinds_133 : decode cX8_grinds 133 = .ok (.dup, 1) := by decide +kernel
theorem dX8_grinds_134 : decode cX8_grinds 134 = .ok (.getfield 197, 3) := by decide +kernel
theorem dX8_grinds_137 : decode cX8_grinds 137 = .ok (.iconst 1, 1) := by decide +kernel
theorem dX8_grinds_138 : decode cX8_grinds 138 = .ok (.isub, 1) := by decide +kernel
theorem dX8_grinds_139 : decode cX8_grinds 139 = .ok (.putfield 197, 3) := by decide +kernel
theorem dX8_grinds_142 : decode cX8_grinds 142 = .ok (.aload_n 0, 1) := by decide +kernel
theorem dX8_grinds_143 : decode cX8_grinds 143 = .ok (.getfield 197, 3) := by decide +kernel
theorem dX8_grinds_146 : decode cX8_grinds 146 = .ok (.ifCond .ne 53, 3) := by decide +kernel
theorem dX8_grinds_149 : decode cX8_grinds 149 = .ok (.aload_n 0, 1) := by decide +kernel
theorem dX8_grinds_150 : decode cX8_grinds 150 = .ok (.getfield 61, 3) := by decide +kernel
theorem dX8_grinds_153 : decode cX8_grinds 153 = .ok (.iload_n 2, 1) := by decide +kernel
theorem dX8_grinds_154 : decode cX8_grinds 154 = .ok (.iload_n 1, 1) := by decide +kernel
theorem dX8_grinds_155 : decode cX8_grinds 155 = .ok (.iastore, 1) := by decide +kernel
theorem dX8_grinds_156 : decode cX8_grinds 156 = .ok (.aload_n 0, 1) := by decide +kernel
theorem dX8_grinds_157 : decode cX8_grinds 157 = .ok (.dup, 1) := by decide +kernel
theorem dX8_grinds_158 : decode cX8_grinds 158 = .ok (.getfield 185, 3) := by decide +kernel
theorem dX8_grinds_161 : decode cX8_grinds 161 = .ok (.iconst 1, 1) := by decide +kernel
theorem dX8_grinds_162 : decode cX8_grinds 162 = .ok (.iadd, 1) := by decide +kernel
theorem dX8_grinds_163 : decode cX8_grinds 163 = .ok (.putfield 185, 3) := by decide +kernel
theorem dX8_grinds_166 : decode cX8_grinds 166 = .ok (.aload_n 0, 1) := by decide +kernel
theorem dX8_grinds_167 : decode cX8_grinds 167 = .ok (.aload_n 0, 1) := by decide +kernel
theorem dX8_grinds_168 : decode cX8_grinds 168 = .ok (.getfield 185, 3) := by decide +kernel
theorem dX8_grinds_171 : decode cX8_grinds 171 = .ok (.aload_n 0, 1) := by decide +kernel
theorem dX8_grinds_172 : decode cX8_grinds 172 = .ok (.getfield 167, 3) := by decide +kernel
theorem dX8_grinds_175 : decode cX8_grinds 175 = .ok (.if_icmp .ge 20, 3) := by decide +kernel
theorem dX8_grinds_178 : decode cX8_grinds 178 = .ok (.aload_n 0, 1) := by decide +kernel
theorem dX8_grinds_179 : decode cX8_grinds 179 = .ok (.getfield 22, 3) := by decide +kernel
theorem dX8_grinds_182 : decode cX8_grinds 182 = .ok (.aload_n 0, 1) := by decide +kernel
theorem dX8_grinds_183 : decode cX8_grinds 183 = .ok (.getfield 43, 3) := by decide +kernel
theorem dX8_grinds_186 : decode cX8_grinds 186 = .ok (.aload_n 0, 1) := by decide +kernel
theorem dX8_grinds_187 : decode cX8_grinds 187 = .ok (.getfield 185, 3) := by decide +kernel
theorem dX8_grinds_190 : decode cX8_grinds 190 = .ok (.iaload, 1) := by decide +kernel
theorem dX8_grinds_191 : decode cX8_grinds 191 = .ok (.iaload, 1) := by decide +kernel
theorem dX8_grinds_192 : decode cX8_grinds 192 = .ok (.goto 4, 3) := by decide +kernel
theorem dX8_grinds_195 : decode cX8_grinds 195 = .ok (.iconst 0, 1) := by decide +kernel
theorem dX8_grinds_196 : decode cX8_grinds 196 = .ok (.putfield 197, 3) := by decide +kernel
theorem dX8_grinds_199 : decode cX8_grinds 199 = .ok (.return_, 1) := by decide +kernel
theorem dX8_goesBy_0 : decode cX8_goesBy 0 = .ok (.aload_n 0, 1) := by decide +kernel
theorem dX8_goesBy_1 : decode cX8_goesBy 1 = .ok (.iload_n 1, 1) := by decide +kernel
theorem dX8_goesBy_2 : decode cX8_goesBy 2 = .ok (.invokevirtual 200, 3) := by decide +kernel
theorem dX8_goesBy_5 : decode cX8_goesBy 5 = .ok (.aload_n 0, 1) := by decide +kernel
theorem dX8_goesBy_6 : decode cX8_goesBy 6 = .ok (.getfield 52, 3) := by decide +kernel
theorem dX8_goesBy_9 : decode cX8_goesBy 9 = .ok (.iload_n 1, 1) := by decide +kernel
theorem dX8_goesBy_10 : decode cX8_goesBy 10 = .ok (.iconst (-1), 1) := by decide +kernel
theorem dX8_goesBy_11 : decode cX8_goesBy 11 = .ok (.iastore, 1) := by decide +kernel
theorem dX8_goesBy_12 : decode cX8_goesBy 12 = .ok (.aload_n 0, 1) := by decide +kernel
theorem dX8_goesBy_13 : decode cX8_goesBy 13 = .ok (.getfield 55, 3) := by decide +kernel
theorem dX8_goesBy_16 : decode cX8_goesBy 16 = .ok (.iload_n 1, 1) := by decide +kernel
theorem dX8_goesBy_17 : decode cX8_goesBy 17 = .ok (.iconst 0, 1) := by decide +kernel
theorem dX8_goesBy_18 : decode cX8_goesBy 18 = .ok (.iastore, 1) := by decide +kernel
theorem dX8_goesBy_19 : decode cX8_goesBy 19 = .ok (.aload_n 0, 1) := by decide +kernel
theorem dX8_goesBy_20 : decode cX8_goesBy 20 = .ok (.iload_n 1, 1) := by decide +kernel
theorem dX8_goesBy_21 : decode cX8_goesBy 21 = .ok (.invokevirtual 204, 3) := by decide +kernel
theorem dX8_goesBy_24 : decode cX8_goesBy 24 = .ok (.ifCond .eq 11, 3) := by decide +kernel
theorem dX8_goesBy_27 : decode cX8_goesBy 27 = .ok (.aload_n 0, 1) := by decide +kernel
theorem dX8_goesBy_28 : decode cX8_goesBy 28 = .ok (.iconst 0, 1) := by decide +kernel
theorem dX8_goesBy_29 : decode cX8_goesBy 29 = .ok (.putfield 188, 3) := by decide +kernel
theorem dX8_goesBy_32 : decode cX8_goesBy 32 = .ok (.goto 19, 3) := by decide +kernel
theorem dX8_goesBy_35 : decode cX8_goesBy 35 = .ok (.aload_n 0, 1) := by decide +kernel
theorem dX8_goesBy_36 : decode cX8_goesBy 36 = .ok (.getfield 185, 3) := by decide +kernel
theorem dX8_goesBy_39 : decode cX8_goesBy 39 = .ok (.aload_n 0, 1) := by decide +kernel
theorem dX8_goesBy_40 : decode cX8_goesBy 40 = .ok (.getfield 167, 3) := by decide +kernel
theorem dX8_goesBy_43 : decode cX8_goesBy 43 = .ok (.if_icmp .ge 8, 3) := by decide +kernel
theorem dX8_goesBy_46 : decode cX8_goesBy 46 = .ok (.aload_n 0, 1) := by decide +kernel
theorem dX8_goesBy_47 : decode cX8_goesBy 47 = .ok (.iload_n 1, 1) := by decide +kernel
theorem dX8_goesBy_48 : decode cX8_goesBy 48 = .ok (.invokevirtual 207, 3) := by decide +kernel
theorem dX8_goesBy_51 : decode cX8_goesBy 51 = .ok (.aload_n 0, 1) := by decide +kernel
theorem dX8_goesBy_52 : decode cX8_goesBy 52 = .ok (.getfield 46, 3) := by decide +kernel
theorem dX8_goesBy_55 : decode cX8_goesBy 55 = .ok (.iload_n 1, 1) := by decide +kernel
theorem dX8_goesBy_56 : decode cX8_goesBy 56 = .ok (.aload_n 0, 1) := by decide +kernel
theorem dX8_goesBy_57 : decode cX8_goesBy 57 = .ok (.getfield 176, 3) := by decide +kernel
theorem dX8_goesBy_60 : decode cX8_goesBy 60 = .ok (.iastore, 1) := by decide +kernel
theorem dX8_goesBy_61 : decode cX8_goesBy 61 = .ok (.aload_n 0, 1) := by decide +kernel
theorem dX8_goesBy_62 : decode cX8_goesBy 62 = .ok (.getfield 49, 3) := by decide +kernel
theorem dX8_goesBy_65 : decode cX8_goesBy 65 = .ok (.iload_n 1, 1) := by decide +kernel
theorem dX8_goesBy_66 : decode cX8_goesBy 66 = .ok (.aload_n 0, 1) := by decide +kernel
theorem dX8_goesBy_67 : decode cX8_goesBy 67 = .ok (.getfield 194, 3) := by decide +kernel
theorem dX8_goesBy_70 : decode cX8_goesBy 70 = .ok (.iastore, 1) := by decide +kernel
theorem dX8_goesBy_71 : decode cX8_goesBy 71 = .ok (.aload_n 0, 1) := by decide +kernel
theorem dX8_goesBy_72 : decode cX8_goesBy 72 = .ok (.getfield 58, 3) := by decide +kernel
theorem dX8_goesBy_75 : decode cX8_goesBy 75 = .ok (.iload_n 1, 1) := by decide +kernel
theorem dX8_goesBy_76 : decode cX8_goesBy 76 = .ok (.aload_n 0, 1) := by decide +kernel
theorem dX8_goesBy_77 : decode cX8_goesBy 77 = .ok (.getfield 188, 3) := by decide +kernel
theorem dX8_goesBy_80 : decode cX8_goesBy 80 = .ok (.aload_n 0, 1) := by decide +kernel
theorem dX8_goesBy_81 : decode cX8_goesBy 81 = .ok (.getfield 31, 3) := by decide +kernel
theorem dX8_goesBy_84 : decode cX8_goesBy 84 = .ok (.iconst 4, 1) := by decide +kernel
theorem dX8_goesBy_85 : decode cX8_goesBy 85 = .ok (.iaload, 1) := by decide +kernel
theorem dX8_goesBy_86 : decode cX8_goesBy 86 = .ok (.idiv, 1) := by decide +kernel
theorem dX8_goesBy_87 : decode cX8_goesBy 87 = .ok (.iastore, 1) := by decide +kernel
theorem dX8_goesBy_88 : decode cX8_goesBy 88 = .ok (.return_, 1) := by decide +kernel
theorem dX8_runs_0 : decode cX8_runs 0 = .ok (.aload_n 0, 1) := by decide +kernel
theorem dX8_runs_1 : decode cX8_runs 1 = .ok (.aload_n 0, 1) := by decide +kernel
theorem dX8_runs_2 : decode cX8_runs 2 = .ok (.getfield 170, 3) := by decide +kernel
theorem dX8_runs_5 : decode cX8_runs 5 = .ok (.putfield 176, 3) := by decide +kernel
theorem dX8_runs_8 : decode cX8_runs 8 = .ok (.aload_n 0, 1) := by decide +kernel
theorem dX8_runs_9 : decode cX8_runs 9 = .ok (.iconst 0, 1) := by decide +kernel
theorem dX8_runs_10 : decode cX8_runs 10 = .ok (.putfield 188, 3) := by decide +kernel
theorem dX8_runs_13 : decode cX8_runs 13 = .ok (.aload_n 0, 1) := by decide +kernel
theorem dX8_runs_14 : decode cX8_runs 14 = .ok (.iconst 0, 1) := by decide +kernel
theorem dX8_runs_15 : decode cX8_runs 15 = .ok (.putfield 194, 3) := by decide +kernel
theorem dX8_runs_18 : decode cX8_runs 18 = .ok (.aload_n 0, 1) := by decide +kernel
theorem dX8_runs_19 : decode cX8_runs 19 = .ok (.iconst 0, 1) := by decide +kernel
theorem dX8_runs_20 : decode cX8_runs 20 = .ok (.putfield 182, 3) := by decide +kernel
theorem dX8_runs_23 : decode cX8_runs 23 = .ok (.aload_n 0, 1) := by decide +kernel
theorem dX8_runs_24 : decode cX8_runs 24 = .ok (.iconst 0, 1) := by decide +kernel
theorem dX8_runs_25 : decode cX8_runs 25 = .ok (.putfield 191, 3) := by decide +kernel
theorem dX8_runs_28 : decode cX8_runs 28 = .ok (.aload_n 0, 1) := by decide +kernel
theorem dX8_runs_29 : decode cX8_runs 29 = .ok (.iconst 0, 1) := by decide +kernel
theorem dX8_runs_30 : decode cX8_runs 30 = .ok (.putfield 185, 3) := by decide +kernel
theorem dX8_runs_33 : decode cX8_runs 33 = .ok (.aload_n 0, 1) := by decide +kernel
theorem dX8_runs_34 : decode cX8_runs 34 = .ok (.aload_n 0, 1) := by decide +kernel
theorem dX8_runs_35 : decode cX8_runs 35 = .ok (.getfield 167, 3) := by decide +kernel
theorem dX8_runs_38 : decode cX8_runs 38 = .ok (.ifCond .le 17, 3) := by decide +kernel
theorem dX8_runs_41 : decode cX8_runs 41 = .ok (.aload_n 0, 1) := by decide +kernel
theorem dX8_runs_42 : decode cX8_runs 42 = .ok (.getfield 22, 3) := by decide +kernel
theorem dX8_runs_45 : decode cX8_runs 45 = .ok (.aload_n 0, 1) := by decide +kernel
theorem dX8_runs_46 : decode cX8_runs 46 = .ok (.getfield 43, 3) := by decide +kernel
theorem dX8_runs_49 : decode cX8_runs 49 = .ok (.iconst 0, 1) := by decide +kernel
theorem dX8_runs_50 : decode cX8_runs 50 = .ok (.iaload, 1) := by decide +kernel
theorem dX8_runs_51 : decode cX8_runs 51 = .ok (.iaload, 1) := by decide +kernel
theorem dX8_runs_52 : decode cX8_runs 52 = .ok (.goto 4, 3) := by decide +kernel
theorem dX8_runs_55 : decode cX8_runs 55 = .ok (.iconst 0, 1) := by decide +kernel
theorem dX8_runs_56 : decode cX8_runs 56 = .ok (.putfield 197, 3) := by decide +kernel
theorem dX8_runs_59 : decode cX8_runs 59 = .ok (.iconst 0, 1) := by decide +kernel
theorem dX8_runs_60 : decode cX8_runs 60 = .ok (.istore_n 1, 1) := by decide +kernel
theorem dX8_runs_61 : decode cX8_runs 61 = .ok (.iload_n 1, 1) := by decide +kernel
theorem dX8_runs_62 : decode cX8_runs 62 = .ok (.bipush 8, 2) := by decide +kernel
theorem dX8_runs_64 : decode cX8_runs 64 = .ok (.if_icmp .ge 16, 3) := by decide +kernel
theorem dX8_runs_67 : decode cX8_runs 67 = .ok (.aload_n 0, 1) := by decide +kernel
theorem dX8_runs_68 : decode cX8_runs 68 = .ok (.getfield 61, 3) := by decide +kernel
theorem dX8_runs_71 : decode cX8_runs 71 = .ok (.iload_n 1, 1) := by decide +kernel
theorem dX8_runs_72 : decode cX8_runs 72 = .ok (.iconst (-1), 1) := by decide +kernel
theorem dX8_runs_73 : decode cX8_runs 73 = .ok (.iastore, 1) := by decide +kernel
theorem dX8_runs_74 : decode cX8_runs 74 = .ok (.iinc 1 1, 3) := by decide +kernel
theorem dX8_runs_77 : decode cX8_runs 77 = .ok (.goto (-16), 3) := by decide +kernel
theorem dX8_runs_80 : decode cX8_runs 80 = .ok (.iconst 0, 1) := by decide +kernel
theorem dX8_runs_81 : decode cX8_runs 81 = .ok (.istore_n 1, 1) := by decide +kernel
theorem dX8_runs_82 : decode cX8_runs 82 = .ok (.iload_n 1, 1) := by decide +kernel
theorem dX8_runs_83 : decode cX8_runs 83 = .ok (.bipush 40, 2) := by decide +kernel
theorem dX8_runs_85 : decode cX8_runs 85 = .ok (.if_icmp .ge 14, 3) := by decide +kernel
theorem dX8_runs_88 : decode cX8_runs 88 = .ok (.aload_n 0, 1) := by decide +kernel
theorem dX8_runs_89 : decode cX8_runs 89 = .ok (.iload_n 1, 1) := by decide +kernel
theorem dX8_runs_90 : decode cX8_runs 90 = .ok (.invokevirtual 210, 3) := by decide +kernel
theorem dX8_runs_93 : decode cX8_runs 93 = .ok (.iinc 1 1, 3) := by decide +kernel
theorem dX8_runs_96 : decode cX8_runs 96 = .ok (.goto (-14), 3) := by decide +kernel
theorem dX8_runs_99 : decode cX8_runs 99 = .ok (.return_, 1) := by decide +kernel
theorem dX8_runsTold_0 : decode cX8_runsTold 0 = .ok (.aload_n 0, 1) := by decide +kernel
theorem dX8_runsTold_1 : decode cX8_runsTold 1 = .ok (.invokevirtual 213, 3) := by decide +kernel
theorem dX8_runsTold_4 : decode cX8_runsTold 4 = .ok (.aload_n 0, 1) := by decide +kernel
theorem dX8_runsTold_5 : decode cX8_runsTold 5 = .ok (.invokevirtual 216, 3) := by decide +kernel
theorem dX8_runsTold_8 : decode cX8_runsTold 8 = .ok (.return_, 1) := by decide +kernel
theorem dX8_atOf_0 : decode cX8_atOf 0 = .ok (.aload_n 0, 1) := by decide +kernel
theorem dX8_atOf_1 : decode cX8_atOf 1 = .ok (.invokevirtual 219, 3) := by decide +kernel
theorem dX8_atOf_4 : decode cX8_atOf 4 = .ok (.iload_n 2, 1) := by decide +kernel
theorem dX8_atOf_5 : decode cX8_atOf 5 = .ok (.tableswitch 59 0 3 #[31, 38, 45, 52], 31) := by decide +kernel
theorem dX8_atOf_36 : decode cX8_atOf 36 = .ok (.aload_n 0, 1) := by decide +kernel
theorem dX8_atOf_37 : decode cX8_atOf 37 = .ok (.getfield 46, 3) := by decide +kernel
theorem dX8_atOf_40 : decode cX8_atOf 40 = .ok (.iload_n 1, 1) := by decide +kernel
theorem dX8_atOf_41 : decode cX8_atOf 41 = .ok (.iaload, 1) := by decide +kernel
theorem dX8_atOf_42 : decode cX8_atOf 42 = .ok (.ireturn, 1) := by decide +kernel
theorem dX8_atOf_43 : decode cX8_atOf 43 = .ok (.aload_n 0, 1) := by decide +kernel
theorem dX8_atOf_44 : decode cX8_atOf 44 = .ok (.getfield 49, 3) := by decide +kernel
theorem dX8_atOf_47 : decode cX8_atOf 47 = .ok (.iload_n 1, 1) := by decide +kernel
theorem dX8_atOf_48 : decode cX8_atOf 48 = .ok (.iaload, 1) := by decide +kernel
theorem dX8_atOf_49 : decode cX8_atOf 49 = .ok (.ireturn, 1) := by decide +kernel
theorem dX8_atOf_50 : decode cX8_atOf 50 = .ok (.aload_n 0, 1) := by decide +kernel
theorem dX8_atOf_51 : decode cX8_atOf 51 = .ok (.getfield 52, 3) := by decide +kernel
theorem dX8_atOf_54 : decode cX8_atOf 54 = .ok (.iload_n 1, 1) := by decide +kernel
theorem dX8_atOf_55 : decode cX8_atOf 55 = .ok (.iaload, 1) := by decide +kernel
theorem dX8_atOf_56 : decode cX8_atOf 56 = .ok (.ireturn, 1) := by decide +kernel
theorem dX8_atOf_57 : decode cX8_atOf 57 = .ok (.aload_n 0, 1) := by decide +kernel
theorem dX8_atOf_58 : decode cX8_atOf 58 = .ok (.getfield 55, 3) := by decide +kernel
theorem dX8_atOf_61 : decode cX8_atOf 61 = .ok (.iload_n 1, 1) := by decide +kernel
theorem dX8_atOf_62 : decode cX8_atOf 62 = .ok (.iaload, 1) := by decide +kernel
theorem dX8_atOf_63 : decode cX8_atOf 63 = .ok (.ireturn, 1) := by decide +kernel
theorem dX8_atOf_64 : decode cX8_atOf 64 = .ok (.aload_n 0, 1) := by decide +kernel
theorem dX8_atOf_65 : decode cX8_atOf 65 = .ok (.getfield 58, 3) := by decide +kernel
theorem dX8_atOf_68 : decode cX8_atOf 68 = .ok (.iload_n 1, 1) := by decide +kernel
theorem dX8_atOf_69 : decode cX8_atOf 69 = .ok (.iaload, 1) := by decide +kernel
theorem dX8_atOf_70 : decode cX8_atOf 70 = .ok (.ireturn, 1) := by decide +kernel
theorem dX8_at_0 : decode cX8_at 0 = .ok (.iload_n 1, 1) := by decide +kernel
theorem dX8_at_1 : decode cX8_at 1 = .ok (.invokestatic 134, 3) := by decide +kernel
theorem dX8_at_4 : decode cX8_at 4 = .ok (.ifCond .eq 21, 3) := by decide +kernel
theorem dX8_at_7 : decode cX8_at 7 = .ok (.iload_n 2, 1) := by decide +kernel
theorem dX8_at_8 : decode cX8_at 8 = .ok (.iconst 0, 1) := by decide +kernel
theorem dX8_at_9 : decode cX8_at 9 = .ok (.iconst 4, 1) := by decide +kernel
theorem dX8_at_10 : decode cX8_at 10 = .ok (.invokestatic 94, 3) := by decide +kernel
theorem dX8_at_13 : decode cX8_at 13 = .ok (.ifCond .eq 12, 3) := by decide +kernel
theorem dX8_at_16 : decode cX8_at 16 = .ok (.aload_n 0, 1) := by decide +kernel
theorem dX8_at_17 : decode cX8_at 17 = .ok (.iload_n 1, 1) := by decide +kernel
theorem dX8_at_18 : decode cX8_at 18 = .ok (.iload_n 2, 1) := by decide +kernel
theorem dX8_at_19 : decode cX8_at 19 = .ok (.invokevirtual 222, 3) := by decide +kernel
theorem dX8_at_22 : decode cX8_at 22 = .ok (.goto 5, 3) := by decide +kernel
theorem dX8_at_25 : decode cX8_at 25 = .ok (.bipush (-2), 2) := by decide +kernel
theorem dX8_at_27 : decode cX8_at 27 = .ok (.ireturn, 1) := by decide +kernel
theorem dX8_endsOf_0 : decode cX8_endsOf 0 = .ok (.aload_n 0, 1) := by decide +kernel
theorem dX8_endsOf_1 : decode cX8_endsOf 1 = .ok (.invokevirtual 219, 3) := by decide +kernel
theorem dX8_endsOf_4 : decode cX8_endsOf 4 = .ok (.aload_n 0, 1) := by decide +kernel
theorem dX8_endsOf_5 : decode cX8_endsOf 5 = .ok (.getfield 61, 3) := by decide +kernel
theorem dX8_endsOf_8 : decode cX8_endsOf 8 = .ok (.iload_n 1, 1) := by decide +kernel
theorem dX8_endsOf_9 : decode cX8_endsOf 9 = .ok (.iaload, 1) := by decide +kernel
theorem dX8_endsOf_10 : decode cX8_endsOf 10 = .ok (.ireturn, 1) := by decide +kernel
theorem dX8_ends_0 : decode cX8_ends 0 = .ok (.aload_n 0, 1) := by decide +kernel
theorem dX8_ends_1 : decode cX8_ends 1 = .ok (.iload_n 1, 1) := by decide +kernel
theorem dX8_ends_2 : decode cX8_ends 2 = .ok (.invokevirtual 140, 3) := by decide +kernel
theorem dX8_ends_5 : decode cX8_ends 5 = .ok (.ifCond .eq 11, 3) := by decide +kernel
theorem dX8_ends_8 : decode cX8_ends 8 = .ok (.aload_n 0, 1) := by decide +kernel
theorem dX8_ends_9 : decode cX8_ends 9 = .ok (.iload_n 1, 1) := by decide +kernel
theorem dX8_ends_10 : decode cX8_ends 10 = .ok (.invokevirtual 225, 3) := by decide +kernel
theorem dX8_ends_13 : decode cX8_ends 13 = .ok (.goto 5, 3) := by decide +kernel
theorem dX8_ends_16 : decode cX8_ends 16 = .ok (.bipush (-2), 2) := by decide +kernel
theorem dX8_ends_18 : decode cX8_ends 18 = .ok (.ireturn, 1) := by decide +kernel
theorem dX8_isPaid_0 : decode cX8_isPaid 0 = .ok (.aload_n 0, 1) := by decide +kernel
theorem dX8_isPaid_1 : decode cX8_isPaid 1 = .ok (.getfield 61, 3) := by decide +kernel
theorem dX8_isPaid_4 : decode cX8_isPaid 4 = .ok (.iload_n 1, 1) := by decide +kernel
theorem dX8_isPaid_5 : decode cX8_isPaid 5 = .ok (.iaload, 1) := by decide +kernel
theorem dX8_isPaid_6 : decode cX8_isPaid 6 = .ok (.iconst (-1), 1) := by decide +kernel
theorem dX8_isPaid_7 : decode cX8_isPaid 7 = .ok (.if_icmp .eq 22, 3) := by decide +kernel
theorem dX8_isPaid_10 : decode cX8_isPaid 10 = .ok (.aload_n 0, 1) := by decide +kernel
theorem dX8_isPaid_11 : decode cX8_isPaid 11 = .ok (.getfield 61, 3) := by decide +kernel
theorem dX8_isPaid_14 : decode cX8_isPaid 14 = .ok (.iload_n 1, 1) := by decide +kernel
theorem dX8_isPaid_15 : decode cX8_isPaid 15 = .ok (.iaload, 1) := by decide +kernel
theorem dX8_isPaid_16 : decode cX8_isPaid 16 = .ok (.aload_n 0, 1) := by decide +kernel
theorem dX8_isPaid_17 : decode cX8_isPaid 17 = .ok (.getfield 25, 3) := by decide +kernel
theorem dX8_isPaid_20 : decode cX8_isPaid 20 = .ok (.iload_n 1, 1) := by decide +kernel
theorem dX8_isPaid_21 : decode cX8_isPaid 21 = .ok (.iaload, 1) := by decide +kernel
theorem dX8_isPaid_22 : decode cX8_isPaid 22 = .ok (.if_icmp .gt 7, 3) := by decide +kernel
theorem dX8_isPaid_25 : decode cX8_isPaid 25 = .ok (.iconst 1, 1) := by decide +kernel
theorem dX8_isPaid_26 : decode cX8_isPaid 26 = .ok (.goto 4, 3) := by decide +kernel
theorem dX8_isPaid_29 : decode cX8_isPaid 29 = .ok (.iconst 0, 1) := by decide +kernel
theorem dX8_isPaid_30 : decode cX8_isPaid 30 = .ok (.ireturn, 1) := by decide +kernel
theorem dX8_paidNow_0 : decode cX8_paidNow 0 = .ok (.iconst 0, 1) := by decide +kernel
theorem dX8_paidNow_1 : decode cX8_paidNow 1 = .ok (.istore_n 1, 1) := by decide +kernel
theorem dX8_paidNow_2 : decode cX8_paidNow 2 = .ok (.iconst 0, 1) := by decide +kernel
theorem dX8_paidNow_3 : decode cX8_paidNow 3 = .ok (.istore_n 2, 1) := by decide +kernel
theorem dX8_paidNow_4 : decode cX8_paidNow 4 = .ok (.iload_n 2, 1) := by decide +kernel
theorem dX8_paidNow_5 : decode cX8_paidNow 5 = .ok (.aload_n 0, 1) := by decide +kernel
theorem dX8_paidNow_6 : decode cX8_paidNow 6 = .ok (.getfield 114, 3) := by decide +kernel
theorem dX8_paidNow_9 : decode cX8_paidNow 9 = .ok (.if_icmp .ge 30, 3) := by decide +kernel
theorem dX8_paidNow_12 : decode cX8_paidNow 12 = .ok (.iload_n 1, 1) := by decide +kernel
theorem dX8_paidNow_13 : decode cX8_paidNow 13 = .ok (.aload_n 0, 1) := by decide +kernel
theorem dX8_paidNow_14 : decode cX8_paidNow 14 = .ok (.iload_n 2, 1) := by decide +kernel
theorem dX8_paidNow_15 : decode cX8_paidNow 15 = .ok (.invokevirtual 228, 3) := by decide +kernel
theorem dX8_paidNow_18 : decode cX8_paidNow 18 = .ok (.ifCond .eq 12, 3) := by decide +kernel
theorem dX8_paidNow_21 : decode cX8_paidNow 21 = .ok (.aload_n 0, 1) := by decide +kernel
theorem dX8_paidNow_22 : decode cX8_paidNow 22 = .ok (.getfield 28, 3) := by decide +kernel
theorem dX8_paidNow_25 : decode cX8_paidNow 25 = .ok (.iload_n 2, 1) := by decide +kernel
theorem dX8_paidNow_26 : decode cX8_paidNow 26 = .ok (.iaload, 1) := by decide +kernel
theorem dX8_paidNow_27 : decode cX8_paidNow 27 = .ok (.goto 4, 3) := by decide +kernel
theorem dX8_paidNow_30 : decode cX8_paidNow 30 = .ok (.iconst 0, 1) := by decide +kernel
theorem dX8_paidNow_31 : decode cX8_paidNow 31 = .ok (.iadd, 1) := by decide +kernel
theorem dX8_paidNow_32 : decode cX8_paidNow 32 = .ok (.istore_n 1, 1) := by decide +kernel
theorem dX8_paidNow_33 : decode cX8_paidNow 33 = .ok (.iinc 2 1, 3) := by decide +kernel
theorem dX8_paidNow_36 : decode cX8_paidNow 36 = .ok (.goto (-32), 3) := by decide +kernel
theorem dX8_paidNow_39 : decode cX8_paidNow 39 = .ok (.iload_n 1, 1) := by decide +kernel
theorem dX8_paidNow_40 : decode cX8_paidNow 40 = .ok (.ireturn, 1) := by decide +kernel
theorem dX8_paidOf_0 : decode cX8_paidOf 0 = .ok (.aload_n 0, 1) := by decide +kernel
theorem dX8_paidOf_1 : decode cX8_paidOf 1 = .ok (.invokevirtual 219, 3) := by decide +kernel
theorem dX8_paidOf_4 : decode cX8_paidOf 4 = .ok (.aload_n 0, 1) := by decide +kernel
theorem dX8_paidOf_5 : decode cX8_paidOf 5 = .ok (.invokevirtual 231, 3) := by decide +kernel
theorem dX8_paidOf_8 : decode cX8_paidOf 8 = .ok (.ireturn, 1) := by decide +kernel
theorem dX8_paid_0 : decode cX8_paid 0 = .ok (.aload_n 0, 1) := by decide +kernel
theorem dX8_paid_1 : decode cX8_paid 1 = .ok (.invokevirtual 234, 3) := by decide +kernel
theorem dX8_paid_4 : decode cX8_paid 4 = .ok (.ireturn, 1) := by decide +kernel
theorem dX8_spiltOf_0 : decode cX8_spiltOf 0 = .ok (.aload_n 0, 1) := by decide +kernel
theorem dX8_spiltOf_1 : decode cX8_spiltOf 1 = .ok (.invokevirtual 219, 3) := by decide +kernel
theorem dX8_spiltOf_4 : decode cX8_spiltOf 4 = .ok (.aload_n 0, 1) := by decide +kernel
theorem dX8_spiltOf_5 : decode cX8_spiltOf 5 = .ok (.getfield 182, 3) := by decide +kernel
theorem dX8_spiltOf_8 : decode cX8_spiltOf 8 = .ok (.ireturn, 1) := by decide +kernel
theorem dX8_spilt_0 : decode cX8_spilt 0 = .ok (.aload_n 0, 1) := by decide +kernel
theorem dX8_spilt_1 : decode cX8_spilt 1 = .ok (.invokevirtual 237, 3) := by decide +kernel
theorem dX8_spilt_4 : decode cX8_spilt 4 = .ok (.ireturn, 1) := by decide +kernel
theorem dX8_idleOf_0 : decode cX8_idleOf 0 = .ok (.aload_n 0, 1) := by decide +kernel
theorem dX8_idleOf_1 : decode cX8_idleOf 1 = .ok (.invokevirtual 219, 3) := by decide +kernel
theorem dX8_idleOf_4 : decode cX8_idleOf 4 = .ok (.aload_n 0, 1) := by decide +kernel
theorem dX8_idleOf_5 : decode cX8_idleOf 5 = .ok (.getfield 191, 3) := by decide +kernel
theorem dX8_idleOf_8 : decode cX8_idleOf 8 = .ok (.ireturn, 1) := by decide +kernel
theorem dX8_idle_0 : decode cX8_idle 0 = .ok (.aload_n 0, 1) := by decide +kernel
theorem dX8_idle_1 : decode cX8_idle 1 = .ok (.invokevirtual 240, 3) := by decide +kernel
theorem dX8_idle_4 : decode cX8_idle 4 = .ok (.ireturn, 1) := by decide +kernel
theorem dX8_lateOf_0 : decode cX8_lateOf 0 = .ok (.aload_n 0, 1) := by decide +kernel
theorem dX8_lateOf_1 : decode cX8_lateOf 1 = .ok (.invokevirtual 219, 3) := by decide +kernel
theorem dX8_lateOf_4 : decode cX8_lateOf 4 = .ok (.iconst 0, 1) := by decide +kernel
theorem dX8_lateOf_5 : decode cX8_lateOf 5 = .ok (.istore_n 1, 1) := by decide +kernel
theorem dX8_lateOf_6 : decode cX8_lateOf 6 = .ok (.iconst 0, 1) := by decide +kernel
theorem dX8_lateOf_7 : decode cX8_lateOf 7 = .ok (.istore_n 2, 1) := by decide +kernel
theorem dX8_lateOf_8 : decode cX8_lateOf 8 = .ok (.iload_n 2, 1) := by decide +kernel
theorem dX8_lateOf_9 : decode cX8_lateOf 9 = .ok (.aload_n 0, 1) := by decide +kernel
theorem dX8_lateOf_10 : decode cX8_lateOf 10 = .ok (.getfield 114, 3) := by decide +kernel
theorem dX8_lateOf_13 : decode cX8_lateOf 13 = .ok (.if_icmp .ge 27, 3) := by decide +kernel
theorem dX8_lateOf_16 : decode cX8_lateOf 16 = .ok (.iload_n 1, 1) := by decide +kernel
theorem dX8_lateOf_17 : decode cX8_lateOf 17 = .ok (.aload_n 0, 1) := by decide +kernel
theorem dX8_lateOf_18 : decode cX8_lateOf 18 = .ok (.iload_n 2, 1) := by decide +kernel
theorem dX8_lateOf_19 : decode cX8_lateOf 19 = .ok (.invokevirtual 228, 3) := by decide +kernel
theorem dX8_lateOf_22 : decode cX8_lateOf 22 = .ok (.ifCond .eq 7, 3) := by decide +kernel
theorem dX8_lateOf_25 : decode cX8_lateOf 25 = .ok (.iconst 0, 1) := by decide +kernel
theorem dX8_lateOf_26 : decode cX8_lateOf 26 = .ok (.goto 6, 3) := by decide +kernel
theorem dX8_lateOf_29 : decode cX8_lateOf 29 = .ok (.iconst 1, 1) := by decide +kernel
theorem dX8_lateOf_30 : decode cX8_lateOf 30 = .ok (.iload_n 2, 1) := by decide +kernel
theorem dX8_lateOf_31 : decode cX8_lateOf 31 = .ok (.ishl, 1) := by decide +kernel
theorem dX8_lateOf_32 : decode cX8_lateOf 32 = .ok (.ior, 1) := by decide +kernel
theorem dX8_lateOf_33 : decode cX8_lateOf 33 = .ok (.istore_n 1, 1) := by decide +kernel
theorem dX8_lateOf_34 : decode cX8_lateOf 34 = .ok (.iinc 2 1, 3) := by decide +kernel
theorem dX8_lateOf_37 : decode cX8_lateOf 37 = .ok (.goto (-29), 3) := by decide +kernel
theorem dX8_lateOf_40 : decode cX8_lateOf 40 = .ok (.iload_n 1, 1) := by decide +kernel
theorem dX8_lateOf_41 : decode cX8_lateOf 41 = .ok (.ireturn, 1) := by decide +kernel
theorem dX8_late_0 : decode cX8_late 0 = .ok (.aload_n 0, 1) := by decide +kernel
theorem dX8_late_1 : decode cX8_late 1 = .ok (.invokevirtual 243, 3) := by decide +kernel
theorem dX8_late_4 : decode cX8_late 4 = .ok (.ireturn, 1) := by decide +kernel
theorem dX8_nextRow_0 : decode cX8_nextRow 0 = .ok (.aload_n 0, 1) := by decide +kernel
theorem dX8_nextRow_1 : decode cX8_nextRow 1 = .ok (.getfield 167, 3) := by decide +kernel
theorem dX8_nextRow_4 : decode cX8_nextRow 4 = .ok (.iconst 2, 1) := by decide +kernel
theorem dX8_nextRow_5 : decode cX8_nextRow 5 = .ok (.isub, 1) := by decide +kernel
theorem dX8_nextRow_6 : decode cX8_nextRow 6 = .ok (.istore_n 1, 1) := by decide +kernel
theorem dX8_nextRow_7 : decode cX8_nextRow 7 = .ok (.iload_n 1, 1) := by decide +kernel
theorem dX8_nextRow_8 : decode cX8_nextRow 8 = .ok (.ifCond .lt 26, 3) := by decide +kernel
theorem dX8_nextRow_11 : decode cX8_nextRow 11 = .ok (.aload_n 0, 1) := by decide +kernel
theorem dX8_nextRow_12 : decode cX8_nextRow 12 = .ok (.getfield 43, 3) := by decide +kernel
theorem dX8_nextRow_15 : decode cX8_nextRow 15 = .ok (.iload_n 1, 1) := by decide +kernel
theorem dX8_nextRow_16 : decode cX8_nextRow 16 = .ok (.iaload, 1) := by decide +kernel
theorem dX8_nextRow_17 : decode cX8_nextRow 17 = .ok (.aload_n 0, 1) := by decide +kernel
theorem dX8_nextRow_18 : decode cX8_nextRow 18 = .ok (.getfield 43, 3) := by decide +kernel
theorem dX8_nextRow_21 : decode cX8_nextRow 21 = .ok (.iload_n 1, 1) := by decide +kernel
theorem dX8_nextRow_22 : decode cX8_nextRow 22 = .ok (.iconst 1, 1) := by decide +kernel
theorem dX8_nextRow_23 : decode cX8_nextRow 23 = .ok (.iadd, 1) := by decide +kernel
theorem dX8_nextRow_24 : decode cX8_nextRow 24 = .ok (.iaload, 1) := by decide +kernel
theorem dX8_nextRow_25 : decode cX8_nextRow 25 = .ok (.if_icmp .le 9, 3) := by decide +kernel
theorem dX8_nextRow_28 : decode cX8_nextRow 28 = .ok (.iinc 1 (-1), 3) := by decide +kernel
theorem dX8_nextRow_31 : decode cX8_nextRow 31 = .ok (.goto (-24), 3) := by decide +kernel
theorem dX8_nextRow_34 : decode cX8_nextRow 34 = .ok (.iload_n 1, 1) := by decide +kernel
theorem dX8_nextRow_35 : decode cX8_nextRow 35 = .ok (.ifCond .ge 5, 3) := by decide +kernel
theorem dX8_nextRow_38 : decode cX8_nextRow 38 = .ok (.iconst 0, 1) := by decide +kernel
theorem dX8_nextRow_39 : decode cX8_nextRow 39 = .ok (.ireturn, 1) := by decide +kernel
theorem dX8_nextRow_40 : decode cX8_nextRow 40 = .ok (.aload_n 0, 1) := by decide +kernel
theorem dX8_nextRow_41 : decode cX8_nextRow 41 = .ok (.getfield 167, 3) := by decide +kernel
theorem dX8_nextRow_44 : decode cX8_nextRow 44 = .ok (.iconst 1, 1) := by decide +kernel
theorem dX8_nextRow_45 : decode cX8_nextRow 45 = .ok (.isub, 1) := by decide +kernel
theorem dX8_nextRow_46 : decode cX8_nextRow 46 = .ok (.istore_n 2, 1) := by decide +kernel
theorem dX8_nextRow_47 : decode cX8_nextRow 47 = .ok (.aload_n 0, 1) := by decide +kernel
theorem dX8_nextRow_48 : decode cX8_nextRow 48 = .ok (.getfield 43, 3) := by decide +kernel
theorem dX8_nextRow_51 : decode cX8_nextRow 51 = .ok (.iload_n 2, 1) := by decide +kernel
theorem dX8_nextRow_52 : decode cX8_nextRow 52 = .ok (.iaload, 1) := by decide +kernel
theorem dX8_nextRow_53 : decode cX8_nextRow 53 = .ok (.aload_n 0, 1) := by decide +kernel
theorem dX8_nextRow_54 : decode cX8_nextRow 54 = .ok (.getfield 43, 3) := by decide +kernel
theorem dX8_nextRow_57 : decode cX8_nextRow 57 = .ok (.iload_n 1, 1) := by decide +kernel
theorem dX8_nextRow_58 : decode cX8_nextRow 58 = .ok (.iaload, 1) := by decide +kernel
theorem dX8_nextRow_59 : decode cX8_nextRow 59 = .ok (.if_icmp .ge 9, 3) := by decide +kernel
theorem dX8_nextRow_62 : decode cX8_nextRow 62 = .ok (.iinc 2 (-1), 3) := by decide +kernel
theorem dX8_nextRow_65 : decode cX8_nextRow 65 = .ok (.goto (-18), 3) := by decide +kernel
theorem dX8_nextRow_68 : decode cX8_nextRow 68 = .ok (.aload_n 0, 1) := by decide +kernel
theorem dX8_nextRow_69 : decode cX8_nextRow 69 = .ok (.getfield 43, 3) := by decide +kernel
theorem dX8_nextRow_72 : decode cX8_nextRow 72 = .ok (.iload_n 1, 1) := by decide +kernel
theorem dX8_nextRow_73 : decode cX8_nextRow 73 = .ok (.iaload, 1) := by decide +kernel
theorem dX8_nextRow_74 : decode cX8_nextRow 74 = .ok (.istore_n 3, 1) := by decide +kernel
theorem dX8_nextRow_75 : decode cX8_nextRow 75 = .ok (.aload_n 0, 1) := by decide +kernel
theorem dX8_nextRow_76 : decode cX8_nextRow 76 = .ok (.getfield 43, 3) := by decide +kernel
theorem dX8_nextRow_79 : decode cX8_nextRow 79 = .ok (.iload_n 1, 1) := by decide +kernel
theorem dX8_nextRow_80 : decode cX8_nextRow 80 = .ok (.aload_n 0, 1) := by decide +kernel
theorem dX8_nextRow_81 : decode cX8_nextRow 81 = .ok (.getfield 43, 3) := by decide +kernel
theorem dX8_nextRow_84 : decode cX8_nextRow 84 = .ok (.iload_n 2, 1) := by decide +kernel
theorem dX8_nextRow_85 : decode cX8_nextRow 85 = .ok (.iaload, 1) := by decide +kernel
theorem dX8_nextRow_86 : decode cX8_nextRow 86 = .ok (.iastore, 1) := by decide +kernel
theorem dX8_nextRow_87 : decode cX8_nextRow 87 = .ok (.aload_n 0, 1) := by decide +kernel
theorem dX8_nextRow_88 : decode cX8_nextRow 88 = .ok (.getfield 43, 3) := by decide +kernel
theorem dX8_nextRow_91 : decode cX8_nextRow 91 = .ok (.iload_n 2, 1) := by decide +kernel
theorem dX8_nextRow_92 : decode cX8_nextRow 92 = .ok (.iload_n 3, 1) := by decide +kernel
theorem dX8_nextRow_93 : decode cX8_nextRow 93 = .ok (.iastore, 1) := by decide +kernel
theorem dX8_nextRow_94 : decode cX8_nextRow 94 = .ok (.iload_n 1, 1) := by decide +kernel
theorem dX8_nextRow_95 : decode cX8_nextRow 95 = .ok (.iconst 1, 1) := by decide +kernel
theorem dX8_nextRow_96 : decode cX8_nextRow 96 = .ok (.iadd, 1) := by decide +kernel
theorem dX8_nextRow_97 : decode cX8_nextRow 97 = .ok (.istore 4, 2) := by decide +kernel
theorem dX8_nextRow_99 : decode cX8_nextRow 99 = .ok (.aload_n 0, 1) := by decide +kernel
theorem dX8_nextRow_100 : decode cX8_nextRow 100 = .ok (.getfield 167, 3) := by decide +kernel
theorem dX8_nextRow_103 : decode cX8_nextRow 103 = .ok (.iconst 1, 1) := by decide +kernel
theorem dX8_nextRow_104 : decode cX8_nextRow 104 = .ok (.isub, 1) := by decide +kernel
theorem dX8_nextRow_105 : decode cX8_nextRow 105 = .ok (.istore 5, 2) := by decide +kernel
theorem dX8_nextRow_107 : decode cX8_nextRow 107 = .ok (.iload 4, 2) := by decide +kernel
theorem dX8_nextRow_109 : decode cX8_nextRow 109 = .ok (.iload 5, 2) := by decide +kernel
theorem dX8_nextRow_111 : decode cX8_nextRow 111 = .ok (.if_icmp .ge 44, 3) := by decide +kernel
theorem dX8_nextRow_114 : decode cX8_nextRow 114 = .ok (.aload_n 0, 1) := by decide +kernel
theorem dX8_nextRow_115 : decode cX8_nextRow 115 = .ok (.getfield 43, 3) := by decide +kernel
theorem dX8_nextRow_118 : decode cX8_nextRow 118 = .ok (.iload 4, 2) := by decide +kernel
theorem dX8_nextRow_120 : decode cX8_nextRow 120 = .ok (.iaload, 1) := by decide +kernel
theorem dX8_nextRow_121 : decode cX8_nextRow 121 = .ok (.istore 6, 2) := by decide +kernel
theorem dX8_nextRow_123 : decode cX8_nextRow 123 = .ok (.aload_n 0, 1) := by decide +kernel
theorem dX8_nextRow_124 : decode cX8_nextRow 124 = .ok (.getfield 43, 3) := by decide +kernel
theorem dX8_nextRow_127 : decode cX8_nextRow 127 = .ok (.iload 4, 2) := by decide +kernel
theorem dX8_nextRow_129 : decode cX8_nextRow 129 = .ok (.aload_n 0, 1) := by decide +kernel
theorem dX8_nextRow_130 : decode cX8_nextRow 130 = .ok (.getfield 43, 3) := by decide +kernel
theorem dX8_nextRow_133 : decode cX8_nextRow 133 = .ok (.iload 5, 2) := by decide +kernel
theorem dX8_nextRow_135 : decode cX8_nextRow 135 = .ok (.iaload, 1) := by decide +kernel
theorem dX8_nextRow_136 : decode cX8_nextRow 136 = .ok (.iastore, 1) := by decide +kernel
theorem dX8_nextRow_137 : decode cX8_nextRow 137 = .ok (.aload_n 0, 1) := by decide +kernel
theorem dX8_nextRow_138 : decode cX8_nextRow 138 = .ok (.getfield 43, 3) := by decide +kernel
theorem dX8_nextRow_141 : decode cX8_nextRow 141 = .ok (.iload 5, 2) := by decide +kernel
theorem dX8_nextRow_143 : decode cX8_nextRow 143 = .ok (.iload 6, 2) := by decide +kernel
theorem dX8_nextRow_145 : decode cX8_nextRow 145 = .ok (.iastore, 1) := by decide +kernel
theorem dX8_nextRow_146 : decode cX8_nextRow 146 = .ok (.iinc 4 1, 3) := by decide +kernel
theorem dX8_nextRow_149 : decode cX8_nextRow 149 = .ok (.iinc 5 (-1), 3) := by decide +kernel
theorem dX8_nextRow_152 : decode cX8_nextRow 152 = .ok (.goto (-45), 3) := by decide +kernel
theorem dX8_nextRow_155 : decode cX8_nextRow 155 = .ok (.iconst 1, 1) := by decide +kernel
theorem dX8_nextRow_156 : decode cX8_nextRow 156 = .ok (.ireturn, 1) := by decide +kernel
theorem dX8_rowBy_0 : decode cX8_rowBy 0 = .ok (.aload_n 0, 1) := by decide +kernel
theorem dX8_rowBy_1 : decode cX8_rowBy 1 = .ok (.invokevirtual 213, 3) := by decide +kernel
theorem dX8_rowBy_4 : decode cX8_rowBy 4 = .ok (.iconst (-1), 1) := by decide +kernel
theorem dX8_rowBy_5 : decode cX8_rowBy 5 = .ok (.istore_n 1, 1) := by decide +kernel
theorem dX8_rowBy_6 : decode cX8_rowBy 6 = .ok (.aload_n 0, 1) := by decide +kernel
theorem dX8_rowBy_7 : decode cX8_rowBy 7 = .ok (.getfield 114, 3) := by decide +kernel
theorem dX8_rowBy_10 : decode cX8_rowBy 10 = .ok (.ifCond .le 7, 3) := by decide +kernel
theorem dX8_rowBy_13 : decode cX8_rowBy 13 = .ok (.iconst 1, 1) := by decide +kernel
theorem dX8_rowBy_14 : decode cX8_rowBy 14 = .ok (.goto 4, 3) := by decide +kernel
theorem dX8_rowBy_17 : decode cX8_rowBy 17 = .ok (.iconst 0, 1) := by decide +kernel
theorem dX8_rowBy_18 : decode cX8_rowBy 18 = .ok (.istore_n 2, 1) := by decide +kernel
theorem dX8_rowBy_19 : decode cX8_rowBy 19 = .ok (.iload_n 2, 1) := by decide +kernel
theorem dX8_rowBy_20 : decode cX8_rowBy 20 = .ok (.ifCond .eq 68, 3) := by decide +kernel
theorem dX8_rowBy_23 : decode cX8_rowBy 23 = .ok (.aload_n 0, 1) := by decide +kernel
theorem dX8_rowBy_24 : decode cX8_rowBy 24 = .ok (.invokevirtual 216, 3) := by decide +kernel
theorem dX8_rowBy_27 : decode cX8_rowBy 27 = .ok (.aload_n 0, 1) := by decide +kernel
theorem dX8_rowBy_28 : decode cX8_rowBy 28 = .ok (.invokevirtual 231, 3) := by decide +kernel
theorem dX8_rowBy_31 : decode cX8_rowBy 31 = .ok (.istore_n 3, 1) := by decide +kernel
theorem dX8_rowBy_32 : decode cX8_rowBy 32 = .ok (.iconst 0, 1) := by decide +kernel
theorem dX8_rowBy_33 : decode cX8_rowBy 33 = .ok (.istore 4, 2) := by decide +kernel
theorem dX8_rowBy_35 : decode cX8_rowBy 35 = .ok (.iload 4, 2) := by decide +kernel
theorem dX8_rowBy_37 : decode cX8_rowBy 37 = .ok (.aload_n 0, 1) := by decide +kernel
theorem dX8_rowBy_38 : decode cX8_rowBy 38 = .ok (.getfield 114, 3) := by decide +kernel
theorem dX8_rowBy_41 : decode cX8_rowBy 41 = .ok (.if_icmp .ge 28, 3) := by decide +kernel
theorem dX8_rowBy_44 : decode cX8_rowBy 44 = .ok (.iload_n 3, 1) := by decide +kernel
theorem dX8_rowBy_45 : decode cX8_rowBy 45 = .ok (.iload_n 1, 1) := by decide +kernel
theorem dX8_rowBy_46 : decode cX8_rowBy 46 = .ok (.if_icmp .le 23, 3) := by decide +kernel
theorem dX8_rowBy_49 : decode cX8_rowBy 49 = .ok (.aload_n 0, 1) := by decide +kernel
theorem dX8_rowBy_50 : decode cX8_rowBy 50 = .ok (.getfield 64, 3) := by decide +kernel
theorem dX8_rowBy_53 : decode cX8_rowBy 53 = .ok (.iload 4, 2) := by decide +kernel
theorem dX8_rowBy_55 : decode cX8_rowBy 55 = .ok (.aload_n 0, 1) := by decide +kernel
theorem dX8_rowBy_56 : decode cX8_rowBy 56 = .ok (.getfield 43, 3) := by decide +kernel
theorem dX8_rowBy_59 : decode cX8_rowBy 59 = .ok (.iload 4, 2) := by decide +kernel
theorem dX8_rowBy_61 : decode cX8_rowBy 61 = .ok (.iaload, 1) := by decide +kernel
theorem dX8_rowBy_62 : decode cX8_rowBy 62 = .ok (.iastore, 1) := by decide +kernel
theorem dX8_rowBy_63 : decode cX8_rowBy 63 = .ok (.iinc 4 1, 3) := by decide +kernel
theorem dX8_rowBy_66 : decode cX8_rowBy 66 = .ok (.goto (-31), 3) := by decide +kernel
theorem dX8_rowBy_69 : decode cX8_rowBy 69 = .ok (.iload_n 3, 1) := by decide +kernel
theorem dX8_rowBy_70 : decode cX8_rowBy 70 = .ok (.iload_n 1, 1) := by decide +kernel
theorem dX8_rowBy_71 : decode cX8_rowBy 71 = .ok (.if_icmp .le 7, 3) := by decide +kernel
theorem dX8_rowBy_74 : decode cX8_rowBy 74 = .ok (.iload_n 3, 1) := by decide +kernel
theorem dX8_rowBy_75 : decode cX8_rowBy 75 = .ok (.goto 4, 3) := by decide +kernel
theorem dX8_rowBy_78 : decode cX8_rowBy 78 = .ok (.iload_n 1, 1) := by decide +kernel
theorem dX8_rowBy_79 : decode cX8_rowBy 79 = .ok (.istore_n 1, 1) := by decide +kernel
theorem dX8_rowBy_80 : decode cX8_rowBy 80 = .ok (.aload_n 0, 1) := by decide +kernel
theorem dX8_rowBy_81 : decode cX8_rowBy 81 = .ok (.invokevirtual 246, 3) := by decide +kernel
theorem dX8_rowBy_84 : decode cX8_rowBy 84 = .ok (.istore_n 2, 1) := by decide +kernel
theorem dX8_rowBy_85 : decode cX8_rowBy 85 = .ok (.goto (-66), 3) := by decide +kernel
theorem dX8_rowBy_88 : decode cX8_rowBy 88 = .ok (.iload_n 1, 1) := by decide +kernel
theorem dX8_rowBy_89 : decode cX8_rowBy 89 = .ok (.ireturn, 1) := by decide +kernel
theorem dX8_rowOf_0 : decode cX8_rowOf 0 = .ok (.aload_n 0, 1) := by decide +kernel
theorem dX8_rowOf_1 : decode cX8_rowOf 1 = .ok (.invokevirtual 250, 3) := by decide +kernel
theorem dX8_rowOf_4 : decode cX8_rowOf 4 = .ok (.istore_n 2, 1) := by decide +kernel
theorem dX8_rowOf_5 : decode cX8_rowOf 5 = .ok (.iload_n 1, 1) := by decide +kernel
theorem dX8_rowOf_6 : decode cX8_rowOf 6 = .ok (.ifCond .ne 7, 3) := by decide +kernel
theorem dX8_rowOf_9 : decode cX8_rowOf 9 = .ok (.iload_n 2, 1) := by decide +kernel
theorem dX8_rowOf_10 : decode cX8_rowOf 10 = .ok (.goto 25, 3) := by decide +kernel
theorem dX8_rowOf_13 : decode cX8_rowOf 13 = .ok (.iload_n 1, 1) := by decide +kernel
theorem dX8_rowOf_14 : decode cX8_rowOf 14 = .ok (.iconst 1, 1) := by decide +kernel
theorem dX8_rowOf_15 : decode cX8_rowOf 15 = .ok (.isub, 1) := by decide +kernel
theorem dX8_rowOf_16 : decode cX8_rowOf 16 = .ok (.aload_n 0, 1) := by decide +kernel
theorem dX8_rowOf_17 : decode cX8_rowOf 17 = .ok (.getfield 114, 3) := by decide +kernel
theorem dX8_rowOf_20 : decode cX8_rowOf 20 = .ok (.if_icmp .ge 14, 3) := by decide +kernel
theorem dX8_rowOf_23 : decode cX8_rowOf 23 = .ok (.aload_n 0, 1) := by decide +kernel
theorem dX8_rowOf_24 : decode cX8_rowOf 24 = .ok (.getfield 64, 3) := by decide +kernel
theorem dX8_rowOf_27 : decode cX8_rowOf 27 = .ok (.iload_n 1, 1) := by decide +kernel
theorem dX8_rowOf_28 : decode cX8_rowOf 28 = .ok (.iconst 1, 1) := by decide +kernel
theorem dX8_rowOf_29 : decode cX8_rowOf 29 = .ok (.isub, 1) := by decide +kernel
theorem dX8_rowOf_30 : decode cX8_rowOf 30 = .ok (.iaload, 1) := by decide +kernel
theorem dX8_rowOf_31 : decode cX8_rowOf 31 = .ok (.goto 4, 3) := by decide +kernel
theorem dX8_rowOf_34 : decode cX8_rowOf 34 = .ok (.iconst (-1), 1) := by decide +kernel
theorem dX8_rowOf_35 : decode cX8_rowOf 35 = .ok (.ireturn, 1) := by decide +kernel
theorem dX8_row_0 : decode cX8_row 0 = .ok (.iload_n 1, 1) := by decide +kernel
theorem dX8_row_1 : decode cX8_row 1 = .ok (.iconst 0, 1) := by decide +kernel
theorem dX8_row_2 : decode cX8_row 2 = .ok (.bipush 8, 2) := by decide +kernel
theorem dX8_row_4 : decode cX8_row 4 = .ok (.invokestatic 94, 3) := by decide +kernel
theorem dX8_row_7 : decode cX8_row 7 = .ok (.ifCond .eq 11, 3) := by decide +kernel
theorem dX8_row_10 : decode cX8_row 10 = .ok (.aload_n 0, 1) := by decide +kernel
theorem dX8_row_11 : decode cX8_row 11 = .ok (.iload_n 1, 1) := by decide +kernel
theorem dX8_row_12 : decode cX8_row 12 = .ok (.invokevirtual 253, 3) := by decide +kernel
theorem dX8_row_15 : decode cX8_row 15 = .ok (.goto 5, 3) := by decide +kernel
theorem dX8_row_18 : decode cX8_row 18 = .ok (.bipush (-2), 2) := by decide +kernel
theorem dX8_row_20 : decode cX8_row 20 = .ok (.ireturn, 1) := by decide +kernel
theorem dX8_dressOf_0 : decode cX8_dressOf 0 = .ok (.aload_n 0, 1) := by decide +kernel
theorem dX8_dressOf_1 : decode cX8_dressOf 1 = .ok (.invokevirtual 213, 3) := by decide +kernel
theorem dX8_dressOf_4 : decode cX8_dressOf 4 = .ok (.iconst (-1), 1) := by decide +kernel
theorem dX8_dressOf_5 : decode cX8_dressOf 5 = .ok (.istore_n 2, 1) := by decide +kernel
theorem dX8_dressOf_6 : decode cX8_dressOf 6 = .ok (.iconst (-1), 1) := by decide +kernel
theorem dX8_dressOf_7 : decode cX8_dressOf 7 = .ok (.istore_n 3, 1) := by decide +kernel
theorem dX8_dressOf_8 : decode cX8_dressOf 8 = .ok (.aload_n 0, 1) := by decide +kernel
theorem dX8_dressOf_9 : decode cX8_dressOf 9 = .ok (.aload_n 0, 1) := by decide +kernel
theorem dX8_dressOf_10 : decode cX8_dressOf 10 = .ok (.getfield 149, 3) := by decide +kernel
theorem dX8_dressOf_13 : decode cX8_dressOf 13 = .ok (.iconst 1, 1) := by decide +kernel
theorem dX8_dressOf_14 : decode cX8_dressOf 14 = .ok (.iadd, 1) := by decide +kernel
theorem dX8_dressOf_15 : decode cX8_dressOf 15 = .ok (.putfield 164, 3) := by decide +kernel
theorem dX8_dressOf_18 : decode cX8_dressOf 18 = .ok (.iconst 0, 1) := by decide +kernel
theorem dX8_dressOf_19 : decode cX8_dressOf 19 = .ok (.istore 4, 2) := by decide +kernel
theorem dX8_dressOf_21 : decode cX8_dressOf 21 = .ok (.iload 4, 2) := by decide +kernel
theorem dX8_dressOf_23 : decode cX8_dressOf 23 = .ok (.bipush 40, 2) := by decide +kernel
theorem dX8_dressOf_25 : decode cX8_dressOf 25 = .ok (.if_icmp .ge 56, 3) := by decide +kernel
theorem dX8_dressOf_28 : decode cX8_dressOf 28 = .ok (.aload_n 0, 1) := by decide +kernel
theorem dX8_dressOf_29 : decode cX8_dressOf 29 = .ok (.getfield 37, 3) := by decide +kernel
theorem dX8_dressOf_32 : decode cX8_dressOf 32 = .ok (.aload_n 0, 1) := by decide +kernel
theorem dX8_dressOf_33 : decode cX8_dressOf 33 = .ok (.getfield 149, 3) := by decide +kernel
theorem dX8_dressOf_36 : decode cX8_dressOf 36 = .ok (.iload 4, 2) := by decide +kernel
theorem dX8_dressOf_38 : decode cX8_dressOf 38 = .ok (.iastore, 1) := by decide +kernel
theorem dX8_dressOf_39 : decode cX8_dressOf 39 = .ok (.aload_n 0, 1) := by decide +kernel
theorem dX8_dressOf_40 : decode cX8_dressOf 40 = .ok (.invokevirtual 216, 3) := by decide +kernel
theorem dX8_dressOf_43 : decode cX8_dressOf 43 = .ok (.aload_n 0, 1) := by decide +kernel
theorem dX8_dressOf_44 : decode cX8_dressOf 44 = .ok (.getfield 194, 3) := by decide +kernel
theorem dX8_dressOf_47 : decode cX8_dressOf 47 = .ok (.iload_n 3, 1) := by decide +kernel
theorem dX8_dressOf_48 : decode cX8_dressOf 48 = .ok (.if_icmp .le 8, 3) := by decide +kernel
theorem dX8_dressOf_51 : decode cX8_dressOf 51 = .ok (.iload 4, 2) := by decide +kernel
theorem dX8_dressOf_53 : decode cX8_dressOf 53 = .ok (.goto 4, 3) := by decide +kernel
theorem dX8_dressOf_56 : decode cX8_dressOf 56 = .ok (.iload_n 2, 1) := by decide +kernel
theorem dX8_dressOf_57 : decode cX8_dressOf 57 = .ok (.istore_n 2, 1) := by decide +kernel
theorem dX8_dressOf_58 : decode cX8_dressOf 58 = .ok (.aload_n 0, 1) := by decide +kernel
theorem dX8_dressOf_59 : decode cX8_dressOf 59 = .ok (.getfield 194, 3) := by decide +kernel
theorem dX8_dressOf_62 : decode cX8_dressOf 62 = .ok (.iload_n 3, 1) := by decide +kernel
theorem dX8_dressOf_63 : decode cX8_dressOf 63 = .ok (.if_icmp .le 10, 3) := by decide +kernel
theorem dX8_dressOf_66 : decode cX8_dressOf 66 = .ok (.aload_n 0, 1) := by decide +kernel
theorem dX8_dressOf_67 : decode cX8_dressOf 67 = .ok (.getfield 194, 3) := by decide +kernel
theorem dX8_dressOf_70 : decode cX8_dressOf 70 = .ok (.goto 4, 3) := by decide +kernel
theorem dX8_dressOf_73 : decode cX8_dressOf 73 = .ok (.iload_n 3, 1) := by decide +kernel
theorem dX8_dressOf_74 : decode cX8_dressOf 74 = .ok (.istore_n 3, 1) := by decide +kernel
theorem dX8_dressOf_75 : decode cX8_dressOf 75 = .ok (.iinc 4 1, 3) := by decide +kernel
theorem dX8_dressOf_78 : decode cX8_dressOf 78 = .ok (.goto (-57), 3) := by decide +kernel
theorem dX8_dressOf_81 : decode cX8_dressOf 81 = .ok (.iload_n 1, 1) := by decide +kernel
theorem dX8_dressOf_82 : decode cX8_dressOf 82 = .ok (.ifCond .ne 7, 3) := by decide +kernel
theorem dX8_dressOf_85 : decode cX8_dressOf 85 = .ok (.iload_n 2, 1) := by decide +kernel
theorem dX8_dressOf_86 : decode cX8_dressOf 86 = .ok (.goto 4, 3) := by decide +kernel
theorem dX8_dressOf_89 : decode cX8_dressOf 89 = .ok (.iload_n 3, 1) := by decide +kernel
theorem dX8_dressOf_90 : decode cX8_dressOf 90 = .ok (.ireturn, 1) := by decide +kernel
theorem dX8_dress_0 : decode cX8_dress 0 = .ok (.iload_n 1, 1) := by decide +kernel
theorem dX8_dress_1 : decode cX8_dress 1 = .ok (.iconst 0, 1) := by decide +kernel
theorem dX8_dress_2 : decode cX8_dress 2 = .ok (.iconst 1, 1) := by decide +kernel
theorem dX8_dress_3 : decode cX8_dress 3 = .ok (.invokestatic 94, 3) := by decide +kernel
theorem dX8_dress_6 : decode cX8_dress 6 = .ok (.ifCond .eq 11, 3) := by decide +kernel
theorem dX8_dress_9 : decode cX8_dress 9 = .ok (.aload_n 0, 1) := by decide +kernel
theorem dX8_dress_10 : decode cX8_dress 10 = .ok (.iload_n 1, 1) := by decide +kernel
theorem dX8_dress_11 : decode cX8_dress 11 = .ok (.invokevirtual 256, 3) := by decide +kernel
theorem dX8_dress_14 : decode cX8_dress 14 = .ok (.goto 5, 3) := by decide +kernel
theorem dX8_dress_17 : decode cX8_dress 17 = .ok (.bipush (-2), 2) := by decide +kernel
theorem dX8_dress_19 : decode cX8_dress 19 = .ok (.ireturn, 1) := by decide +kernel
theorem dX8_leastNow_0 : decode cX8_leastNow 0 = .ok (.aload_n 0, 1) := by decide +kernel
theorem dX8_leastNow_1 : decode cX8_leastNow 1 = .ok (.invokevirtual 213, 3) := by decide +kernel
theorem dX8_leastNow_4 : decode cX8_leastNow 4 = .ok (.iconst (-1), 1) := by decide +kernel
theorem dX8_leastNow_5 : decode cX8_leastNow 5 = .ok (.istore_n 1, 1) := by decide +kernel
theorem dX8_leastNow_6 : decode cX8_leastNow 6 = .ok (.iconst 0, 1) := by decide +kernel
theorem dX8_leastNow_7 : decode cX8_leastNow 7 = .ok (.istore_n 2, 1) := by decide +kernel
theorem dX8_leastNow_8 : decode cX8_leastNow 8 = .ok (.iload_n 2, 1) := by decide +kernel
theorem dX8_leastNow_9 : decode cX8_leastNow 9 = .ok (.bipush 21, 2) := by decide +kernel
theorem dX8_leastNow_11 : decode cX8_leastNow 11 = .ok (.if_icmp .ge 40, 3) := by decide +kernel
theorem dX8_leastNow_14 : decode cX8_leastNow 14 = .ok (.iload_n 1, 1) := by decide +kernel
theorem dX8_leastNow_15 : decode cX8_leastNow 15 = .ok (.iconst (-1), 1) := by decide +kernel
theorem dX8_leastNow_16 : decode cX8_leastNow 16 = .ok (.if_icmp .ne 35, 3) := by decide +kernel
theorem dX8_leastNow_19 : decode cX8_leastNow 19 = .ok (.aload_n 0, 1) := by decide +kernel
theorem dX8_leastNow_20 : decode cX8_leastNow 20 = .ok (.iload_n 2, 1) := by decide +kernel
theorem dX8_leastNow_21 : decode cX8_leastNow 21 = .ok (.putfield 170, 3) := by decide +kernel
theorem dX8_leastNow_24 : decode cX8_leastNow 24 = .ok (.aload_n 0, 1) := by decide +kernel
theorem dX8_leastNow_25 : decode cX8_leastNow 25 = .ok (.invokevirtual 216, 3) := by decide +kernel
theorem dX8_leastNow_28 : decode cX8_leastNow 28 = .ok (.aload_n 0, 1) := by decide +kernel
theorem dX8_leastNow_29 : decode cX8_leastNow 29 = .ok (.getfield 185, 3) := by decide +kernel
theorem dX8_leastNow_32 : decode cX8_leastNow 32 = .ok (.aload_n 0, 1) := by decide +kernel
theorem dX8_leastNow_33 : decode cX8_leastNow 33 = .ok (.getfield 167, 3) := by decide +kernel
theorem dX8_leastNow_36 : decode cX8_leastNow 36 = .ok (.if_icmp .ne 7, 3) := by decide +kernel
theorem dX8_leastNow_39 : decode cX8_leastNow 39 = .ok (.iload_n 2, 1) := by decide +kernel
theorem dX8_leastNow_40 : decode cX8_leastNow 40 = .ok (.goto 4, 3) := by decide +kernel
theorem dX8_leastNow_43 : decode cX8_leastNow 43 = .ok (.iconst (-1), 1) := by decide +kernel
theorem dX8_leastNow_44 : decode cX8_leastNow 44 = .ok (.istore_n 1, 1) := by decide +kernel
theorem dX8_leastNow_45 : decode cX8_leastNow 45 = .ok (.iinc 2 1, 3) := by decide +kernel
theorem dX8_leastNow_48 : decode cX8_leastNow 48 = .ok (.goto (-40), 3) := by decide +kernel
theorem dX8_leastNow_51 : decode cX8_leastNow 51 = .ok (.iload_n 1, 1) := by decide +kernel
theorem dX8_leastNow_52 : decode cX8_leastNow 52 = .ok (.ireturn, 1) := by decide +kernel
theorem dX8_least_0 : decode cX8_least 0 = .ok (.aload_n 0, 1) := by decide +kernel
theorem dX8_least_1 : decode cX8_least 1 = .ok (.invokevirtual 259, 3) := by decide +kernel
theorem dX8_least_4 : decode cX8_least 4 = .ok (.ireturn, 1) := by decide +kernel
theorem dX8_sendOf_0 : decode cX8_sendOf 0 = .ok (.aload_n 0, 1) := by decide +kernel
theorem dX8_sendOf_1 : decode cX8_sendOf 1 = .ok (.invokevirtual 213, 3) := by decide +kernel
theorem dX8_sendOf_4 : decode cX8_sendOf 4 = .ok (.iconst (-1), 1) := by decide +kernel
theorem dX8_sendOf_5 : decode cX8_sendOf 5 = .ok (.istore_n 2, 1) := by decide +kernel
theorem dX8_sendOf_6 : decode cX8_sendOf 6 = .ok (.iconst (-1), 1) := by decide +kernel
theorem dX8_sendOf_7 : decode cX8_sendOf 7 = .ok (.istore_n 3, 1) := by decide +kernel
theorem dX8_sendOf_8 : decode cX8_sendOf 8 = .ok (.aload_n 0, 1) := by decide +kernel
theorem dX8_sendOf_9 : decode cX8_sendOf 9 = .ok (.aload_n 0, 1) := by decide +kernel
theorem dX8_sendOf_10 : decode cX8_sendOf 10 = .ok (.getfield 114, 3) := by decide +kernel
theorem dX8_sendOf_13 : decode cX8_sendOf 13 = .ok (.iconst 1, 1) := by decide +kernel
theorem dX8_sendOf_14 : decode cX8_sendOf 14 = .ok (.isub, 1) := by decide +kernel
theorem dX8_sendOf_15 : decode cX8_sendOf 15 = .ok (.putfield 167, 3) := by decide +kernel
theorem dX8_sendOf_18 : decode cX8_sendOf 18 = .ok (.iconst 0, 1) := by decide +kernel
theorem dX8_sendOf_19 : decode cX8_sendOf 19 = .ok (.istore 4, 2) := by decide +kernel
theorem dX8_sendOf_21 : decode cX8_sendOf 21 = .ok (.iload 4, 2) := by decide +kernel
theorem dX8_sendOf_23 : decode cX8_sendOf 23 = .ok (.aload_n 0, 1) := by decide +kernel
theorem dX8_sendOf_24 : decode cX8_sendOf 24 = .ok (.getfield 114, 3) := by decide +kernel
theorem dX8_sendOf_27 : decode cX8_sendOf 27 = .ok (.if_icmp .ge 86, 3) := by decide +kernel
theorem dX8_sendOf_30 : decode cX8_sendOf 30 = .ok (.iconst 0, 1) := by decide +kernel
theorem dX8_sendOf_31 : decode cX8_sendOf 31 = .ok (.istore 5, 2) := by decide +kernel
theorem dX8_sendOf_33 : decode cX8_sendOf 33 = .ok (.iload 5, 2) := by decide +kernel
theorem dX8_sendOf_35 : decode cX8_sendOf 35 = .ok (.aload_n 0, 1) := by decide +kernel
theorem dX8_sendOf_36 : decode cX8_sendOf 36 = .ok (.getfield 167, 3) := by decide +kernel
theorem dX8_sendOf_39 : decode cX8_sendOf 39 = .ok (.if_icmp .ge 32, 3) := by decide +kernel
theorem dX8_sendOf_42 : decode cX8_sendOf 42 = .ok (.aload_n 0, 1) := by decide +kernel
theorem dX8_sendOf_43 : decode cX8_sendOf 43 = .ok (.getfield 43, 3) := by decide +kernel
theorem dX8_sendOf_46 : decode cX8_sendOf 46 = .ok (.iload 5, 2) := by decide +kernel
theorem dX8_sendOf_48 : decode cX8_sendOf 48 = .ok (.iload 5, 2) := by decide +kernel
theorem dX8_sendOf_50 : decode cX8_sendOf 50 = .ok (.iload 4, 2) := by decide +kernel
theorem dX8_sendOf_52 : decode cX8_sendOf 52 = .ok (.if_icmp .ge 8, 3) := by decide +kernel
theorem dX8_sendOf_55 : decode cX8_sendOf 55 = .ok (.iload 5, 2) := by decide +kernel
theorem dX8_sendOf_57 : decode cX8_sendOf 57 = .ok (.goto 7, 3) := by decide +kernel
theorem dX8_sendOf_60 : decode cX8_sendOf 60 = .ok (.iload 5, 2) := by decide +kernel
theorem dX8_sendOf_62 : decode cX8_sendOf 62 = .ok (.iconst 1, 1) := by decide +kernel
theorem dX8_sendOf_63 : decode cX8_sendOf 63 = .ok (.iadd, 1) := by decide +kernel
theorem dX8_sendOf_64 : decode cX8_sendOf 64 = .ok (.iastore, 1) := by decide +kernel
theorem dX8_sendOf_65 : decode cX8_sendOf 65 = .ok (.iinc 5 1, 3) := by decide +kernel
theorem dX8_sendOf_68 : decode cX8_sendOf 68 = .ok (.goto (-35), 3) := by decide +kernel
theorem dX8_sendOf_71 : decode cX8_sendOf 71 = .ok (.aload_n 0, 1) := by decide +kernel
theorem dX8_sendOf_72 : decode cX8_sendOf 72 = .ok (.invokevirtual 216, 3) := by decide +kernel
theorem dX8_sendOf_75 : decode cX8_sendOf 75 = .ok (.aload_n 0, 1) := by decide +kernel
theorem dX8_sendOf_76 : decode cX8_sendOf 76 = .ok (.invokevirtual 231, 3) := by decide +kernel
theorem dX8_sendOf_79 : decode cX8_sendOf 79 = .ok (.istore 5, 2) := by decide +kernel
theorem dX8_sendOf_81 : decode cX8_sendOf 81 = .ok (.iload 5, 2) := by decide +kernel
theorem dX8_sendOf_83 : decode cX8_sendOf 83 = .ok (.iload_n 3, 1) := by decide +kernel
theorem dX8_sendOf_84 : decode cX8_sendOf 84 = .ok (.if_icmp .le 8, 3) := by decide +kernel
theorem dX8_sendOf_87 : decode cX8_sendOf 87 = .ok (.iload 4, 2) := by decide +kernel
theorem dX8_sendOf_89 : decode cX8_sendOf 89 = .ok (.goto 4, 3) := by decide +kernel
theorem dX8_sendOf_92 : decode cX8_sendOf 92 = .ok (.iload_n 2, 1) := by decide +kernel
theorem dX8_sendOf_93 : decode cX8_sendOf 93 = .ok (.istore_n 2, 1) := by decide +kernel
theorem dX8_sendOf_94 : decode cX8_sendOf 94 = .ok (.iload 5, 2) := by decide +kernel
theorem dX8_sendOf_96 : decode cX8_sendOf 96 = .ok (.iload_n 3, 1) := by decide +kernel
theorem dX8_sendOf_97 : decode cX8_sendOf 97 = .ok (.if_icmp .le 8, 3) := by decide +kernel
theorem dX8_sendOf_100 : decode cX8_sendOf 100 = .ok (.iload 5, 2) := by decide +kernel
theorem dX8_sendOf_102 : decode cX8_sendOf 102 = .ok (.goto 4, 3) := by decide +kernel
theorem dX8_sendOf_105 : decode cX8_sendOf 105 = .ok (.iload_n 3, 1) := by decide +kernel
theorem dX8_sendOf_106 : decode cX8_sendOf 106 = .ok (.istore_n 3, 1) := by decide +kernel
theorem dX8_sendOf_107 : decode cX8_sendOf 107 = .ok (.iinc 4 1, 3) := by decide +kernel
theorem dX8_sendOf_110 : decode cX8_sendOf 110 = .ok (.goto (-89), 3) := by decide +kernel
theorem dX8_sendOf_113 : decode cX8_sendOf 113 = .ok (.iload_n 1, 1) := by decide +kernel
theorem dX8_sendOf_114 : decode cX8_sendOf 114 = .ok (.ifCond .ne 7, 3) := by decide +kernel
theorem dX8_sendOf_117 : decode cX8_sendOf 117 = .ok (.iload_n 2, 1) := by decide +kernel
theorem dX8_sendOf_118 : decode cX8_sendOf 118 = .ok (.goto 4, 3) := by decide +kernel
theorem dX8_sendOf_121 : decode cX8_sendOf 121 = .ok (.iload_n 3, 1) := by decide +kernel
theorem dX8_sendOf_122 : decode cX8_sendOf 122 = .ok (.ireturn, 1) := by decide +kernel
theorem dX8_send_0 : decode cX8_send 0 = .ok (.iload_n 1, 1) := by decide +kernel
theorem dX8_send_1 : decode cX8_send 1 = .ok (.iconst 0, 1) := by decide +kernel
theorem dX8_send_2 : decode cX8_send 2 = .ok (.iconst 1, 1) := by decide +kernel
theorem dX8_send_3 : decode cX8_send 3 = .ok (.invokestatic 94, 3) := by decide +kernel
theorem dX8_send_6 : decode cX8_send 6 = .ok (.ifCond .eq 11, 3) := by decide +kernel
theorem dX8_send_9 : decode cX8_send 9 = .ok (.aload_n 0, 1) := by decide +kernel
theorem dX8_send_10 : decode cX8_send 10 = .ok (.iload_n 1, 1) := by decide +kernel
theorem dX8_send_11 : decode cX8_send 11 = .ok (.invokevirtual 262, 3) := by decide +kernel
theorem dX8_send_14 : decode cX8_send 14 = .ok (.goto 5, 3) := by decide +kernel
theorem dX8_send_17 : decode cX8_send 17 = .ok (.bipush (-2), 2) := by decide +kernel
theorem dX8_send_19 : decode cX8_send 19 = .ok (.ireturn, 1) := by decide +kernel
theorem dX8_seen_0 : decode cX8_seen 0 = .ok (.iload_n 1, 1) := by decide +kernel
theorem dX8_seen_1 : decode cX8_seen 1 = .ok (.invokestatic 134, 3) := by decide +kernel
theorem dX8_seen_4 : decode cX8_seen 4 = .ok (.ifCond .eq 13, 3) := by decide +kernel
theorem dX8_seen_7 : decode cX8_seen 7 = .ok (.iload_n 2, 1) := by decide +kernel
theorem dX8_seen_8 : decode cX8_seen 8 = .ok (.iconst 0, 1) := by decide +kernel
theorem dX8_seen_9 : decode cX8_seen 9 = .ok (.bipush 20, 2) := by decide +kernel
theorem dX8_seen_11 : decode cX8_seen 11 = .ok (.invokestatic 94, 3) := by decide +kernel
theorem dX8_seen_14 : decode cX8_seen 14 = .ok (.ifCond .ne 6, 3) := by decide +kernel
theorem dX8_seen_17 : decode cX8_seen 17 = .ok (.bipush (-2), 2) := by decide +kernel
theorem dX8_seen_19 : decode cX8_seen 19 = .ok (.ireturn, 1) := by decide +kernel
theorem dX8_seen_20 : decode cX8_seen 20 = .ok (.aload_n 0, 1) := by decide +kernel
theorem dX8_seen_21 : decode cX8_seen 21 = .ok (.getfield 265, 3) := by decide +kernel
theorem dX8_seen_24 : decode cX8_seen 24 = .ok (.bipush 8, 2) := by decide +kernel
theorem dX8_seen_26 : decode cX8_seen 26 = .ok (.if_icmp .ne 6, 3) := by decide +kernel
theorem dX8_seen_29 : decode cX8_seen 29 = .ok (.bipush (-4), 2) := by decide +kernel
theorem dX8_seen_31 : decode cX8_seen 31 = .ok (.ireturn, 1) := by decide +kernel
theorem dX8_seen_32 : decode cX8_seen 32 = .ok (.aload_n 0, 1) := by decide +kernel
theorem dX8_seen_33 : decode cX8_seen 33 = .ok (.getfield 67, 3) := by decide +kernel
theorem dX8_seen_36 : decode cX8_seen 36 = .ok (.aload_n 0, 1) := by decide +kernel
theorem dX8_seen_37 : decode cX8_seen 37 = .ok (.getfield 265, 3) := by decide +kernel
theorem dX8_seen_40 : decode cX8_seen 40 = .ok (.iload_n 1, 1) := by decide +kernel
theorem dX8_seen_41 : decode cX8_seen 41 = .ok (.iastore, 1) := by decide +kernel
theorem dX8_seen_42 : decode cX8_seen 42 = .ok (.aload_n 0, 1) := by decide +kernel
theorem dX8_seen_43 : decode cX8_seen 43 = .ok (.getfield 70, 3) := by decide +kernel
theorem dX8_seen_46 : decode cX8_seen 46 = .ok (.aload_n 0, 1) := by decide +kernel
theorem dX8_seen_47 : decode cX8_seen 47 = .ok (.getfield 265, 3) := by decide +kernel
theorem dX8_seen_50 : decode cX8_seen 50 = .ok (.iload_n 2, 1) := by decide +kernel
theorem dX8_seen_51 : decode cX8_seen 51 = .ok (.iastore, 1) := by decide +kernel
theorem dX8_seen_52 : decode cX8_seen 52 = .ok (.aload_n 0, 1) := by decide +kernel
theorem dX8_seen_53 : decode cX8_seen 53 = .ok (.dup, 1) := by decide +kernel
theorem dX8_seen_54 : decode cX8_seen 54 = .ok (.getfield 265, 3) := by decide +kernel
theorem dX8_seen_57 : decode cX8_seen 57 = .ok (.iconst 1, 1) := by decide +kernel
theorem dX8_seen_58 : decode cX8_seen 58 = .ok (.iadd, 1) := by decide +kernel
theorem dX8_seen_59 : decode cX8_seen 59 = .ok (.putfield 265, 3) := by decide +kernel
theorem dX8_seen_62 : decode cX8_seen 62 = .ok (.aload_n 0, 1) := by decide +kernel
theorem dX8_seen_63 : decode cX8_seen 63 = .ok (.getfield 265, 3) := by decide +kernel
theorem dX8_seen_66 : decode cX8_seen 66 = .ok (.ireturn, 1) := by decide +kernel
theorem dX8_forget_0 : decode cX8_forget 0 = .ok (.aload_n 0, 1) := by decide +kernel
theorem dX8_forget_1 : decode cX8_forget 1 = .ok (.getfield 265, 3) := by decide +kernel
theorem dX8_forget_4 : decode cX8_forget 4 = .ok (.istore_n 1, 1) := by decide +kernel
theorem dX8_forget_5 : decode cX8_forget 5 = .ok (.aload_n 0, 1) := by decide +kernel
theorem dX8_forget_6 : decode cX8_forget 6 = .ok (.iconst 0, 1) := by decide +kernel
theorem dX8_forget_7 : decode cX8_forget 7 = .ok (.putfield 265, 3) := by decide +kernel
theorem dX8_forget_10 : decode cX8_forget 10 = .ok (.iload_n 1, 1) := by decide +kernel
theorem dX8_forget_11 : decode cX8_forget 11 = .ok (.ireturn, 1) := by decide +kernel
theorem dX8_isSeen_0 : decode cX8_isSeen 0 = .ok (.aload_n 0, 1) := by decide +kernel
theorem dX8_isSeen_1 : decode cX8_isSeen 1 = .ok (.invokevirtual 216, 3) := by decide +kernel
theorem dX8_isSeen_4 : decode cX8_isSeen 4 = .ok (.iconst 1, 1) := by decide +kernel
theorem dX8_isSeen_5 : decode cX8_isSeen 5 = .ok (.istore_n 1, 1) := by decide +kernel
theorem dX8_isSeen_6 : decode cX8_isSeen 6 = .ok (.iconst 0, 1) := by decide +kernel
theorem dX8_isSeen_7 : decode cX8_isSeen 7 = .ok (.istore_n 2, 1) := by decide +kernel
theorem dX8_isSeen_8 : decode cX8_isSeen 8 = .ok (.iload_n 2, 1) := by decide +kernel
theorem dX8_isSeen_9 : decode cX8_isSeen 9 = .ok (.aload_n 0, 1) := by decide +kernel
theorem dX8_isSeen_10 : decode cX8_isSeen 10 = .ok (.getfield 265, 3) := by decide +kernel
theorem dX8_isSeen_13 : decode cX8_isSeen 13 = .ok (.if_icmp .ge 39, 3) := by decide +kernel
theorem dX8_isSeen_16 : decode cX8_isSeen 16 = .ok (.iload_n 1, 1) := by decide +kernel
theorem dX8_isSeen_17 : decode cX8_isSeen 17 = .ok (.ifCond .eq 35, 3) := by decide +kernel
theorem dX8_isSeen_20 : decode cX8_isSeen 20 = .ok (.aload_n 0, 1) := by decide +kernel
theorem dX8_isSeen_21 : decode cX8_isSeen 21 = .ok (.getfield 46, 3) := by decide +kernel
theorem dX8_isSeen_24 : decode cX8_isSeen 24 = .ok (.aload_n 0, 1) := by decide +kernel
theorem dX8_isSeen_25 : decode cX8_isSeen 25 = .ok (.getfield 67, 3) := by decide +kernel
theorem dX8_isSeen_28 : decode cX8_isSeen 28 = .ok (.iload_n 2, 1) := by decide +kernel
theorem dX8_isSeen_29 : decode cX8_isSeen 29 = .ok (.iaload, 1) := by decide +kernel
theorem dX8_isSeen_30 : decode cX8_isSeen 30 = .ok (.iaload, 1) := by decide +kernel
theorem dX8_isSeen_31 : decode cX8_isSeen 31 = .ok (.aload_n 0, 1) := by decide +kernel
theorem dX8_isSeen_32 : decode cX8_isSeen 32 = .ok (.getfield 70, 3) := by decide +kernel
theorem dX8_isSeen_35 : decode cX8_isSeen 35 = .ok (.iload_n 2, 1) := by decide +kernel
theorem dX8_isSeen_36 : decode cX8_isSeen 36 = .ok (.iaload, 1) := by decide +kernel
theorem dX8_isSeen_37 : decode cX8_isSeen 37 = .ok (.if_icmp .ne 7, 3) := by decide +kernel
theorem dX8_isSeen_40 : decode cX8_isSeen 40 = .ok (.iconst 1, 1) := by decide +kernel
theorem dX8_isSeen_41 : decode cX8_isSeen 41 = .ok (.goto 4, 3) := by decide +kernel
theorem dX8_isSeen_44 : decode cX8_isSeen 44 = .ok (.iconst 0, 1) := by decide +kernel
theorem dX8_isSeen_45 : decode cX8_isSeen 45 = .ok (.istore_n 1, 1) := by decide +kernel
theorem dX8_isSeen_46 : decode cX8_isSeen 46 = .ok (.iinc 2 1, 3) := by decide +kernel
theorem dX8_isSeen_49 : decode cX8_isSeen 49 = .ok (.goto (-41), 3) := by decide +kernel
theorem dX8_isSeen_52 : decode cX8_isSeen 52 = .ok (.iload_n 1, 1) := by decide +kernel
theorem dX8_isSeen_53 : decode cX8_isSeen 53 = .ok (.ireturn, 1) := by decide +kernel
theorem dX8_neverNow_0 : decode cX8_neverNow 0 = .ok (.aload_n 0, 1) := by decide +kernel
theorem dX8_neverNow_1 : decode cX8_neverNow 1 = .ok (.invokevirtual 213, 3) := by decide +kernel
theorem dX8_neverNow_4 : decode cX8_neverNow 4 = .ok (.iconst 0, 1) := by decide +kernel
theorem dX8_neverNow_5 : decode cX8_neverNow 5 = .ok (.istore_n 1, 1) := by decide +kernel
theorem dX8_neverNow_6 : decode cX8_neverNow 6 = .ok (.iconst 0, 1) := by decide +kernel
theorem dX8_neverNow_7 : decode cX8_neverNow 7 = .ok (.istore_n 2, 1) := by decide +kernel
theorem dX8_neverNow_8 : decode cX8_neverNow 8 = .ok (.iload_n 2, 1) := by decide +kernel
theorem dX8_neverNow_9 : decode cX8_neverNow 9 = .ok (.aload_n 0, 1) := by decide +kernel
theorem dX8_neverNow_10 : decode cX8_neverNow 10 = .ok (.getfield 146, 3) := by decide +kernel
theorem dX8_neverNow_13 : decode cX8_neverNow 13 = .ok (.if_icmp .ge 33, 3) := by decide +kernel
theorem dX8_neverNow_16 : decode cX8_neverNow 16 = .ok (.aload_n 0, 1) := by decide +kernel
theorem dX8_neverNow_17 : decode cX8_neverNow 17 = .ok (.iconst 1, 1) := by decide +kernel
theorem dX8_neverNow_18 : decode cX8_neverNow 18 = .ok (.iload_n 2, 1) := by decide +kernel
theorem dX8_neverNow_19 : decode cX8_neverNow 19 = .ok (.ishl, 1) := by decide +kernel
theorem dX8_neverNow_20 : decode cX8_neverNow 20 = .ok (.putfield 161, 3) := by decide +kernel
theorem dX8_neverNow_23 : decode cX8_neverNow 23 = .ok (.iload_n 1, 1) := by decide +kernel
theorem dX8_neverNow_24 : decode cX8_neverNow 24 = .ok (.aload_n 0, 1) := by decide +kernel
theorem dX8_neverNow_25 : decode cX8_neverNow 25 = .ok (.invokevirtual 268, 3) := by decide +kernel
theorem dX8_neverNow_28 : decode cX8_neverNow 28 = .ok (.ifCond .eq 9, 3) := by decide +kernel
theorem dX8_neverNow_31 : decode cX8_neverNow 31 = .ok (.iconst 1, 1) := by decide +kernel
theorem dX8_neverNow_32 : decode cX8_neverNow 32 = .ok (.iload_n 2, 1) := by decide +kernel
theorem dX8_neverNow_33 : decode cX8_neverNow 33 = .ok (.ishl, 1) := by decide +kernel
theorem dX8_neverNow_34 : decode cX8_neverNow 34 = .ok (.goto 4, 3) := by decide +kernel
theorem dX8_neverNow_37 : decode cX8_neverNow 37 = .ok (.iconst 0, 1) := by decide +kernel
theorem dX8_neverNow_38 : decode cX8_neverNow 38 = .ok (.ior, 1) := by decide +kernel
theorem dX8_neverNow_39 : decode cX8_neverNow 39 = .ok (.istore_n 1, 1) := by decide +kernel
theorem dX8_neverNow_40 : decode cX8_neverNow 40 = .ok (.iinc 2 1, 3) := by decide +kernel
theorem dX8_neverNow_43 : decode cX8_neverNow 43 = .ok (.goto (-35), 3) := by decide +kernel
theorem dX8_neverNow_46 : decode cX8_neverNow 46 = .ok (.iload_n 1, 1) := by decide +kernel
theorem dX8_neverNow_47 : decode cX8_neverNow 47 = .ok (.ireturn, 1) := by decide +kernel
theorem dX8_never_0 : decode cX8_never 0 = .ok (.aload_n 0, 1) := by decide +kernel
theorem dX8_never_1 : decode cX8_never 1 = .ok (.invokevirtual 271, 3) := by decide +kernel
theorem dX8_never_4 : decode cX8_never 4 = .ok (.ireturn, 1) := by decide +kernel
theorem dX8_flowsBy_0 : decode cX8_flowsBy 0 = .ok (.aload_n 0, 1) := by decide +kernel
theorem dX8_flowsBy_1 : decode cX8_flowsBy 1 = .ok (.invokevirtual 213, 3) := by decide +kernel
theorem dX8_flowsBy_4 : decode cX8_flowsBy 4 = .ok (.iconst 0, 1) := by decide +kernel
theorem dX8_flowsBy_5 : decode cX8_flowsBy 5 = .ok (.istore_n 1, 1) := by decide +kernel
theorem dX8_flowsBy_6 : decode cX8_flowsBy 6 = .ok (.iconst 1, 1) := by decide +kernel
theorem dX8_flowsBy_7 : decode cX8_flowsBy 7 = .ok (.istore_n 2, 1) := by decide +kernel
theorem dX8_flowsBy_8 : decode cX8_flowsBy 8 = .ok (.iload_n 2, 1) := by decide +kernel
theorem dX8_flowsBy_9 : decode cX8_flowsBy 9 = .ok (.bipush 10, 2) := by decide +kernel
theorem dX8_flowsBy_11 : decode cX8_flowsBy 11 = .ok (.if_icmp .ge 31, 3) := by decide +kernel
theorem dX8_flowsBy_14 : decode cX8_flowsBy 14 = .ok (.aload_n 0, 1) := by decide +kernel
theorem dX8_flowsBy_15 : decode cX8_flowsBy 15 = .ok (.iload_n 2, 1) := by decide +kernel
theorem dX8_flowsBy_16 : decode cX8_flowsBy 16 = .ok (.putfield 173, 3) := by decide +kernel
theorem dX8_flowsBy_19 : decode cX8_flowsBy 19 = .ok (.iload_n 1, 1) := by decide +kernel
theorem dX8_flowsBy_20 : decode cX8_flowsBy 20 = .ok (.aload_n 0, 1) := by decide +kernel
theorem dX8_flowsBy_21 : decode cX8_flowsBy 21 = .ok (.invokevirtual 268, 3) := by decide +kernel
theorem dX8_flowsBy_24 : decode cX8_flowsBy 24 = .ok (.ifCond .eq 9, 3) := by decide +kernel
theorem dX8_flowsBy_27 : decode cX8_flowsBy 27 = .ok (.iconst 1, 1) := by decide +kernel
theorem dX8_flowsBy_28 : decode cX8_flowsBy 28 = .ok (.iload_n 2, 1) := by decide +kernel
theorem dX8_flowsBy_29 : decode cX8_flowsBy 29 = .ok (.ishl, 1) := by decide +kernel
theorem dX8_flowsBy_30 : decode cX8_flowsBy 30 = .ok (.goto 4, 3) := by decide +kernel
theorem dX8_flowsBy_33 : decode cX8_flowsBy 33 = .ok (.iconst 0, 1) := by decide +kernel
theorem dX8_flowsBy_34 : decode cX8_flowsBy 34 = .ok (.ior, 1) := by decide +kernel
theorem dX8_flowsBy_35 : decode cX8_flowsBy 35 = .ok (.istore_n 1, 1) := by decide +kernel
theorem dX8_flowsBy_36 : decode cX8_flowsBy 36 = .ok (.iinc 2 1, 3) := by decide +kernel
theorem dX8_flowsBy_39 : decode cX8_flowsBy 39 = .ok (.goto (-31), 3) := by decide +kernel
theorem dX8_flowsBy_42 : decode cX8_flowsBy 42 = .ok (.iload_n 1, 1) := by decide +kernel
theorem dX8_flowsBy_43 : decode cX8_flowsBy 43 = .ok (.ireturn, 1) := by decide +kernel
theorem dX8_startsBy_0 : decode cX8_startsBy 0 = .ok (.aload_n 0, 1) := by decide +kernel
theorem dX8_startsBy_1 : decode cX8_startsBy 1 = .ok (.invokevirtual 213, 3) := by decide +kernel
theorem dX8_startsBy_4 : decode cX8_startsBy 4 = .ok (.iconst 0, 1) := by decide +kernel
theorem dX8_startsBy_5 : decode cX8_startsBy 5 = .ok (.istore_n 1, 1) := by decide +kernel
theorem dX8_startsBy_6 : decode cX8_startsBy 6 = .ok (.iconst 0, 1) := by decide +kernel
theorem dX8_startsBy_7 : decode cX8_startsBy 7 = .ok (.istore_n 2, 1) := by decide +kernel
theorem dX8_startsBy_8 : decode cX8_startsBy 8 = .ok (.iload_n 2, 1) := by decide +kernel
theorem dX8_startsBy_9 : decode cX8_startsBy 9 = .ok (.bipush 21, 2) := by decide +kernel
theorem dX8_startsBy_11 : decode cX8_startsBy 11 = .ok (.if_icmp .ge 62, 3) := by decide +kernel
theorem dX8_startsBy_14 : decode cX8_startsBy 14 = .ok (.aload_n 0, 1) := by decide +kernel
theorem dX8_startsBy_15 : decode cX8_startsBy 15 = .ok (.iload_n 2, 1) := by decide +kernel
theorem dX8_startsBy_16 : decode cX8_startsBy 16 = .ok (.putfield 170, 3) := by decide +kernel
theorem dX8_startsBy_19 : decode cX8_startsBy 19 = .ok (.iload_n 1, 1) := by decide +kernel
theorem dX8_startsBy_20 : decode cX8_startsBy 20 = .ok (.aload_n 0, 1) := by decide +kernel
theorem dX8_startsBy_21 : decode cX8_startsBy 21 = .ok (.invokevirtual 268, 3) := by decide +kernel
theorem dX8_startsBy_24 : decode cX8_startsBy 24 = .ok (.ifCond .eq 9, 3) := by decide +kernel
theorem dX8_startsBy_27 : decode cX8_startsBy 27 = .ok (.iconst 1, 1) := by decide +kernel
theorem dX8_startsBy_28 : decode cX8_startsBy 28 = .ok (.iload_n 2, 1) := by decide +kernel
theorem dX8_startsBy_29 : decode cX8_startsBy 29 = .ok (.ishl, 1) := by decide +kernel
theorem dX8_startsBy_30 : decode cX8_startsBy 30 = .ok (.goto 4, 3) := by decide +kernel
theorem dX8_startsBy_33 : decode cX8_startsBy 33 = .ok (.iconst 0, 1) := by decide +kernel
theorem dX8_startsBy_34 : decode cX8_startsBy 34 = .ok (.ior, 1) := by decide +kernel
theorem dX8_startsBy_35 : decode cX8_startsBy 35 = .ok (.istore_n 1, 1) := by decide +kernel
theorem dX8_startsBy_36 : decode cX8_startsBy 36 = .ok (.iconst 0, 1) := by decide +kernel
theorem dX8_startsBy_37 : decode cX8_startsBy 37 = .ok (.istore_n 3, 1) := by decide +kernel
theorem dX8_startsBy_38 : decode cX8_startsBy 38 = .ok (.iload_n 3, 1) := by decide +kernel
theorem dX8_startsBy_39 : decode cX8_startsBy 39 = .ok (.bipush 40, 2) := by decide +kernel
theorem dX8_startsBy_41 : decode cX8_startsBy 41 = .ok (.if_icmp .ge 26, 3) := by decide +kernel
theorem dX8_startsBy_44 : decode cX8_startsBy 44 = .ok (.aload_n 0, 1) := by decide +kernel
theorem dX8_startsBy_45 : decode cX8_startsBy 45 = .ok (.getfield 73, 3) := by decide +kernel
theorem dX8_startsBy_48 : decode cX8_startsBy 48 = .ok (.bipush 40, 2) := by decide +kernel
theorem dX8_startsBy_50 : decode cX8_startsBy 50 = .ok (.iload_n 2, 1) := by decide +kernel
theorem dX8_startsBy_51 : decode cX8_startsBy 51 = .ok (.imul, 1) := by decide +kernel
theorem dX8_startsBy_52 : decode cX8_startsBy 52 = .ok (.iload_n 3, 1) := by decide +kernel
theorem dX8_startsBy_53 : decode cX8_startsBy 53 = .ok (.iadd, 1) := by decide +kernel
theorem dX8_startsBy_54 : decode cX8_startsBy 54 = .ok (.aload_n 0, 1) := by decide +kernel
theorem dX8_startsBy_55 : decode cX8_startsBy 55 = .ok (.getfield 46, 3) := by decide +kernel
theorem dX8_startsBy_58 : decode cX8_startsBy 58 = .ok (.iload_n 3, 1) := by decide +kernel
theorem dX8_startsBy_59 : decode cX8_startsBy 59 = .ok (.iaload, 1) := by decide +kernel
theorem dX8_startsBy_60 : decode cX8_startsBy 60 = .ok (.iastore, 1) := by decide +kernel
theorem dX8_startsBy_61 : decode cX8_startsBy 61 = .ok (.iinc 3 1, 3) := by decide +kernel
theorem dX8_startsBy_64 : decode cX8_startsBy 64 = .ok (.goto (-26), 3) := by decide +kernel
theorem dX8_startsBy_67 : decode cX8_startsBy 67 = .ok (.iinc 2 1, 3) := by decide +kernel
theorem dX8_startsBy_70 : decode cX8_startsBy 70 = .ok (.goto (-62), 3) := by decide +kernel
theorem dX8_startsBy_73 : decode cX8_startsBy 73 = .ok (.iload_n 1, 1) := by decide +kernel
theorem dX8_startsBy_74 : decode cX8_startsBy 74 = .ok (.ireturn, 1) := by decide +kernel
theorem dX8_was_0 : decode cX8_was 0 = .ok (.iload_n 1, 1) := by decide +kernel
theorem dX8_was_1 : decode cX8_was 1 = .ok (.iconst 0, 1) := by decide +kernel
theorem dX8_was_2 : decode cX8_was 2 = .ok (.iconst 1, 1) := by decide +kernel
theorem dX8_was_3 : decode cX8_was 3 = .ok (.invokestatic 94, 3) := by decide +kernel
theorem dX8_was_6 : decode cX8_was 6 = .ok (.ifCond .eq 21, 3) := by decide +kernel
theorem dX8_was_9 : decode cX8_was 9 = .ok (.iload_n 1, 1) := by decide +kernel
theorem dX8_was_10 : decode cX8_was 10 = .ok (.ifCond .ne 10, 3) := by decide +kernel
theorem dX8_was_13 : decode cX8_was 13 = .ok (.aload_n 0, 1) := by decide +kernel
theorem dX8_was_14 : decode cX8_was 14 = .ok (.invokevirtual 274, 3) := by decide +kernel
theorem dX8_was_17 : decode cX8_was 17 = .ok (.goto 12, 3) := by decide +kernel
theorem dX8_was_20 : decode cX8_was 20 = .ok (.aload_n 0, 1) := by decide +kernel
theorem dX8_was_21 : decode cX8_was 21 = .ok (.invokevirtual 277, 3) := by decide +kernel
theorem dX8_was_24 : decode cX8_was 24 = .ok (.goto 5, 3) := by decide +kernel
theorem dX8_was_27 : decode cX8_was 27 = .ok (.bipush (-2), 2) := by decide +kernel
theorem dX8_was_29 : decode cX8_was 29 = .ok (.ireturn, 1) := by decide +kernel
theorem dX8_askNow_0 : decode cX8_askNow 0 = .ok (.aload_n 0, 1) := by decide +kernel
theorem dX8_askNow_1 : decode cX8_askNow 1 = .ok (.invokevirtual 277, 3) := by decide +kernel
theorem dX8_askNow_4 : decode cX8_askNow 4 = .ok (.istore_n 1, 1) := by decide +kernel
theorem dX8_askNow_5 : decode cX8_askNow 5 = .ok (.iconst (-1), 1) := by decide +kernel
theorem dX8_askNow_6 : decode cX8_askNow 6 = .ok (.istore_n 2, 1) := by decide +kernel
theorem dX8_askNow_7 : decode cX8_askNow 7 = .ok (.iconst 0, 1) := by decide +kernel
theorem dX8_askNow_8 : decode cX8_askNow 8 = .ok (.istore_n 3, 1) := by decide +kernel
theorem dX8_askNow_9 : decode cX8_askNow 9 = .ok (.iconst 0, 1) := by decide +kernel
theorem dX8_askNow_10 : decode cX8_askNow 10 = .ok (.istore 4, 2) := by decide +kernel
theorem dX8_askNow_12 : decode cX8_askNow 12 = .ok (.iload 4, 2) := by decide +kernel
theorem dX8_askNow_14 : decode cX8_askNow 14 = .ok (.bipush 40, 2) := by decide +kernel
theorem dX8_askNow_16 : decode cX8_askNow 16 = .ok (.if_icmp .ge 162, 3) := by decide +kernel
theorem dX8_askNow_19 : decode cX8_askNow 19 = .ok (.iconst 0, 1) := by decide +kernel
theorem dX8_askNow_20 : decode cX8_askNow 20 = .ok (.istore 5, 2) := by decide +kernel
theorem dX8_askNow_22 : decode cX8_askNow 22 = .ok (.iconst 0, 1) := by decide +kernel
theorem dX8_askNow_23 : decode cX8_askNow 23 = .ok (.istore 6, 2) := by decide +kernel
theorem dX8_askNow_25 : decode cX8_askNow 25 = .ok (.iload 6, 2) := by decide +kernel
theorem dX8_askNow_27 : decode cX8_askNow 27 = .ok (.bipush 21, 2) := by decide +kernel
theorem dX8_askNow_29 : decode cX8_askNow 29 = .ok (.if_icmp .ge 101, 3) := by decide +kernel
theorem dX8_askNow_32 : decode cX8_askNow 32 = .ok (.iconst 0, 1) := by decide +kernel
theorem dX8_askNow_33 : decode cX8_askNow 33 = .ok (.istore 7, 2) := by decide +kernel
theorem dX8_askNow_35 : decode cX8_askNow 35 = .ok (.iconst 0, 1) := by decide +kernel
theorem dX8_askNow_36 : decode cX8_askNow 36 = .ok (.istore 8, 2) := by decide +kernel
theorem dX8_askNow_38 : decode cX8_askNow 38 = .ok (.iload 8, 2) := by decide +kernel
theorem dX8_askNow_40 : decode cX8_askNow 40 = .ok (.bipush 21, 2) := by decide +kernel
theorem dX8_askNow_42 : decode cX8_askNow 42 = .ok (.if_icmp .ge 66, 3) := by decide +kernel
theorem dX8_askNow_45 : decode cX8_askNow 45 = .ok (.iload 7, 2) := by decide +kernel
theorem dX8_askNow_47 : decode cX8_askNow 47 = .ok (.iload_n 1, 1) := by decide +kernel
theorem dX8_askNow_48 : decode cX8_askNow 48 = .ok (.iload 6, 2) := by decide +kernel
theorem dX8_askNow_50 : decode cX8_askNow 50 = .ok (.invokestatic 179, 3) := by decide +kernel
theorem dX8_askNow_53 : decode cX8_askNow 53 = .ok (.ifCond .eq 45, 3) := by decide +kernel
theorem dX8_askNow_56 : decode cX8_askNow 56 = .ok (.iload_n 1, 1) := by decide +kernel
theorem dX8_askNow_57 : decode cX8_askNow 57 = .ok (.iload 8, 2) := by decide +kernel
theorem dX8_askNow_59 : decode cX8_askNow 59 = .ok (.invokestatic 179, 3) := by decide +kernel
theorem dX8_askNow_62 : decode cX8_askNow 62 = .ok (.ifCond .eq 36, 3) := by decide +kernel
theorem dX8_askNow_65 : decode cX8_askNow 65 = .ok (.aload_n 0, 1) := by decide +kernel
theorem dX8_askNow_66 : decode cX8_askNow 66 = .ok (.getfield 73, 3) := by decide +kernel
theorem dX8_askNow_69 : decode cX8_askNow 69 = .ok (.bipush 40, 2) := by decide +kernel
theorem dX8_askNow_71 : decode cX8_askNow 71 = .ok (.iload 6, 2) := by decide +kernel
theorem dX8_askNow_73 : decode cX8_askNow 73 = .ok (.imul, 1) := by decide +kernel
theorem dX8_askNow_74 : decode cX8_askNow 74 = .ok (.iload 4, 2) := by decide +kernel
theorem dX8_askNow_76 : decode cX8_askNow 76 = .ok (.iadd, 1) := by decide +kernel
theorem dX8_askNow_77 : decode cX8_askNow 77 = .ok (.iaload, 1) := by decide +kernel
theorem dX8_askNow_78 : decode cX8_askNow 78 = .ok (.aload_n 0, 1) := by decide +kernel
theorem dX8_askNow_79 : decode cX8_askNow 79 = .ok (.getfield 73, 3) := by decide +kernel
theorem dX8_askNow_82 : decode cX8_askNow 82 = .ok (.bipush 40, 2) := by decide +kernel
theorem dX8_askNow_84 : decode cX8_askNow 84 = .ok (.iload 8, 2) := by decide +kernel
theorem dX8_askNow_86 : decode cX8_askNow 86 = .ok (.imul, 1) := by decide +kernel
theorem dX8_askNow_87 : decode cX8_askNow 87 = .ok (.iload 4, 2) := by decide +kernel
theorem dX8_askNow_89 : decode cX8_askNow 89 = .ok (.iadd, 1) := by decide +kernel
theorem dX8_askNow_90 : decode cX8_askNow 90 = .ok (.iaload, 1) := by decide +kernel
theorem dX8_askNow_91 : decode cX8_askNow 91 = .ok (.if_icmp .ne 7, 3) := by decide +kernel
theorem dX8_askNow_94 : decode cX8_askNow 94 = .ok (.iconst 1, 1) := by decide +kernel
theorem dX8_askNow_95 : decode cX8_askNow 95 = .ok (.goto 4, 3) := by decide +kernel
theorem dX8_askNow_98 : decode cX8_askNow 98 = .ok (.iconst 0, 1) := by decide +kernel
theorem dX8_askNow_99 : decode cX8_askNow 99 = .ok (.iadd, 1) := by decide +kernel
theorem dX8_askNow_100 : decode cX8_askNow 100 = .ok (.istore 7, 2) := by decide +kernel
theorem dX8_askNow_102 : decode cX8_askNow 102 = .ok (.iinc 8 1, 3) := by decide +kernel
theorem dX8_askNow_105 : decode cX8_askNow 105 = .ok (.goto (-67), 3) := by decide +kernel
theorem dX8_askNow_108 : decode cX8_askNow 108 = .ok (.iload 7, 2) := by decide +kernel
theorem dX8_askNow_110 : decode cX8_askNow 110 = .ok (.iload 5, 2) := by decide +kernel
theorem dX8_askNow_112 : decode cX8_askNow 112 = .ok (.if_icmp .le 8, 3) := by decide +kernel
theorem dX8_askNow_115 : decode cX8_askNow 115 = .ok (.iload 7, 2) := by decide +kernel
theorem dX8_askNow_117 : decode cX8_askNow 117 = .ok (.goto 5, 3) := by decide +kernel
theorem dX8_askNow_120 : decode cX8_askNow 120 = .ok (.iload 5, 2) := by decide +kernel
theorem dX8_askNow_122 : decode cX8_askNow 122 = .ok (.istore 5, 2) := by decide +kernel
theorem dX8_askNow_124 : decode cX8_askNow 124 = .ok (.iinc 6 1, 3) := by decide +kernel
theorem dX8_askNow_127 : decode cX8_askNow 127 = .ok (.goto (-102), 3) := by decide +kernel
theorem dX8_askNow_130 : decode cX8_askNow 130 = .ok (.iload_n 2, 1) := by decide +kernel
theorem dX8_askNow_131 : decode cX8_askNow 131 = .ok (.iconst (-1), 1) := by decide +kernel
theorem dX8_askNow_132 : decode cX8_askNow 132 = .ok (.if_icmp .eq 9, 3) := by decide +kernel
theorem dX8_askNow_135 : decode cX8_askNow 135 = .ok (.iload 5, 2) := by decide +kernel
theorem dX8_askNow_137 : decode cX8_askNow 137 = .ok (.iload_n 3, 1) := by decide +kernel
theorem dX8_askNow_138 : decode cX8_askNow 138 = .ok (.if_icmp .ge 7, 3) := by decide +kernel
theorem dX8_askNow_141 : decode cX8_askNow 141 = .ok (.iconst 1, 1) := by decide +kernel
theorem dX8_askNow_142 : decode cX8_askNow 142 = .ok (.goto 4, 3) := by decide +kernel
theorem dX8_askNow_145 : decode cX8_askNow 145 = .ok (.iconst 0, 1) := by decide +kernel
theorem dX8_askNow_146 : decode cX8_askNow 146 = .ok (.istore 6, 2) := by decide +kernel
theorem dX8_askNow_148 : decode cX8_askNow 148 = .ok (.iload 6, 2) := by decide +kernel
theorem dX8_askNow_150 : decode cX8_askNow 150 = .ok (.ifCond .eq 8, 3) := by decide +kernel
theorem dX8_askNow_153 : decode cX8_askNow 153 = .ok (.iload 4, 2) := by decide +kernel
theorem dX8_askNow_155 : decode cX8_askNow 155 = .ok (.goto 4, 3) := by decide +kernel
theorem dX8_askNow_158 : decode cX8_askNow 158 = .ok (.iload_n 2, 1) := by decide +kernel
theorem dX8_askNow_159 : decode cX8_askNow 159 = .ok (.istore_n 2, 1) := by decide +kernel
theorem dX8_askNow_160 : decode cX8_askNow 160 = .ok (.iload 6, 2) := by decide +kernel
theorem dX8_askNow_162 : decode cX8_askNow 162 = .ok (.ifCond .eq 8, 3) := by decide +kernel
theorem dX8_askNow_165 : decode cX8_askNow 165 = .ok (.iload 5, 2) := by decide +kernel
end
section
theorem dX8_askNow_167 : decode cX8_askNow 167 = .ok (.goto 4, 3) := by decide +kernel
theorem dX8_askNow_170 : decode cX8_askNow 170 = .ok (.iload_n 3, 1) := by decide +kernel
theorem dX8_askNow_171 : decode cX8_askNow 171 = .ok (.istore_n 3, 1) := by decide +kernel
theorem dX8_askNow_172 : decode cX8_askNow 172 = .ok (.iinc 4 1, 3) := by decide +kernel
theorem dX8_askNow_175 : decode cX8_askNow 175 = .ok (.goto (-163), 3) := by decide +kernel
theorem dX8_askNow_178 : decode cX8_askNow 178 = .ok (.iload_n 2, 1) := by decide +kernel
theorem dX8_askNow_179 : decode cX8_askNow 179 = .ok (.ireturn, 1) := by decide +kernel
theorem dX8_ask_0 : decode cX8_ask 0 = .ok (.aload_n 0, 1) := by decide +kernel
theorem dX8_ask_1 : decode cX8_ask 1 = .ok (.invokevirtual 280, 3) := by decide +kernel
theorem dX8_ask_4 : decode cX8_ask 4 = .ok (.ireturn, 1) := by decide +kernel
theorem dX8_showerOf_0 : decode cX8_showerOf 0 = .ok (.aload_n 0, 1) := by decide +kernel
theorem dX8_showerOf_1 : decode cX8_showerOf 1 = .ok (.invokevirtual 213, 3) := by decide +kernel
theorem dX8_showerOf_4 : decode cX8_showerOf 4 = .ok (.lconst 0, 1) := by decide +kernel
theorem dX8_showerOf_5 : decode cX8_showerOf 5 = .ok (.lstore 4, 2) := by decide +kernel
theorem dX8_showerOf_7 : decode cX8_showerOf 7 = .ok (.iconst 0, 1) := by decide +kernel
theorem dX8_showerOf_8 : decode cX8_showerOf 8 = .ok (.istore 6, 2) := by decide +kernel
theorem dX8_showerOf_10 : decode cX8_showerOf 10 = .ok (.iload 6, 2) := by decide +kernel
theorem dX8_showerOf_12 : decode cX8_showerOf 12 = .ok (.iconst 1, 1) := by decide +kernel
theorem dX8_showerOf_13 : decode cX8_showerOf 13 = .ok (.aload_n 0, 1) := by decide +kernel
theorem dX8_showerOf_14 : decode cX8_showerOf 14 = .ok (.getfield 146, 3) := by decide +kernel
theorem dX8_showerOf_17 : decode cX8_showerOf 17 = .ok (.ishl, 1) := by decide +kernel
theorem dX8_showerOf_18 : decode cX8_showerOf 18 = .ok (.if_icmp .ge 84, 3) := by decide +kernel
theorem dX8_showerOf_21 : decode cX8_showerOf 21 = .ok (.lconst 1, 1) := by decide +kernel
theorem dX8_showerOf_22 : decode cX8_showerOf 22 = .ok (.lstore 7, 2) := by decide +kernel
theorem dX8_showerOf_24 : decode cX8_showerOf 24 = .ok (.iconst 0, 1) := by decide +kernel
theorem dX8_showerOf_25 : decode cX8_showerOf 25 = .ok (.istore 9, 2) := by decide +kernel
theorem dX8_showerOf_27 : decode cX8_showerOf 27 = .ok (.iload 9, 2) := by decide +kernel
theorem dX8_showerOf_29 : decode cX8_showerOf 29 = .ok (.aload_n 0, 1) := by decide +kernel
theorem dX8_showerOf_30 : decode cX8_showerOf 30 = .ok (.getfield 146, 3) := by decide +kernel
theorem dX8_showerOf_33 : decode cX8_showerOf 33 = .ok (.if_icmp .ge 34, 3) := by decide +kernel
theorem dX8_showerOf_36 : decode cX8_showerOf 36 = .ok (.lload 7, 2) := by decide +kernel
theorem dX8_showerOf_38 : decode cX8_showerOf 38 = .ok (.iload 6, 2) := by decide +kernel
theorem dX8_showerOf_40 : decode cX8_showerOf 40 = .ok (.iload 9, 2) := by decide +kernel
theorem dX8_showerOf_42 : decode cX8_showerOf 42 = .ok (.invokestatic 179, 3) := by decide +kernel
theorem dX8_showerOf_45 : decode cX8_showerOf 45 = .ok (.ifCond .eq 11, 3) := by decide +kernel
theorem dX8_showerOf_48 : decode cX8_showerOf 48 = .ok (.bipush 16, 2) := by decide +kernel
theorem dX8_showerOf_50 : decode cX8_showerOf 50 = .ok (.iload_n 1, 1) := by decide +kernel
theorem dX8_showerOf_51 : decode cX8_showerOf 51 = .ok (.isub, 1) := by decide +kernel
theorem dX8_showerOf_52 : decode cX8_showerOf 52 = .ok (.i2l, 1) := by decide +kernel
theorem dX8_showerOf_53 : decode cX8_showerOf 53 = .ok (.goto 5, 3) := by decide +kernel
theorem dX8_showerOf_56 : decode cX8_showerOf 56 = .ok (.iload_n 1, 1) := by decide +kernel
theorem dX8_showerOf_57 : decode cX8_showerOf 57 = .ok (.i2l, 1) := by decide +kernel
theorem dX8_showerOf_58 : decode cX8_showerOf 58 = .ok (.lmul, 1) := by decide +kernel
theorem dX8_showerOf_59 : decode cX8_showerOf 59 = .ok (.lstore 7, 2) := by decide +kernel
theorem dX8_showerOf_61 : decode cX8_showerOf 61 = .ok (.iinc 9 1, 3) := by decide +kernel
theorem dX8_showerOf_64 : decode cX8_showerOf 64 = .ok (.goto (-37), 3) := by decide +kernel
theorem dX8_showerOf_67 : decode cX8_showerOf 67 = .ok (.aload_n 0, 1) := by decide +kernel
theorem dX8_showerOf_68 : decode cX8_showerOf 68 = .ok (.iload 6, 2) := by decide +kernel
theorem dX8_showerOf_70 : decode cX8_showerOf 70 = .ok (.putfield 161, 3) := by decide +kernel
theorem dX8_showerOf_73 : decode cX8_showerOf 73 = .ok (.aload_n 0, 1) := by decide +kernel
theorem dX8_showerOf_74 : decode cX8_showerOf 74 = .ok (.invokevirtual 216, 3) := by decide +kernel
theorem dX8_showerOf_77 : decode cX8_showerOf 77 = .ok (.lload 4, 2) := by decide +kernel
theorem dX8_showerOf_79 : decode cX8_showerOf 79 = .ok (.aload_n 0, 1) := by decide +kernel
theorem dX8_showerOf_80 : decode cX8_showerOf 80 = .ok (.iload_n 2, 1) := by decide +kernel
theorem dX8_showerOf_81 : decode cX8_showerOf 81 = .ok (.invokevirtual 228, 3) := by decide +kernel
theorem dX8_showerOf_84 : decode cX8_showerOf 84 = .ok (.ifCond .eq 8, 3) := by decide +kernel
theorem dX8_showerOf_87 : decode cX8_showerOf 87 = .ok (.lload 7, 2) := by decide +kernel
theorem dX8_showerOf_89 : decode cX8_showerOf 89 = .ok (.goto 4, 3) := by decide +kernel
theorem dX8_showerOf_92 : decode cX8_showerOf 92 = .ok (.lconst 0, 1) := by decide +kernel
theorem dX8_showerOf_93 : decode cX8_showerOf 93 = .ok (.ladd, 1) := by decide +kernel
theorem dX8_showerOf_94 : decode cX8_showerOf 94 = .ok (.lstore 4, 2) := by decide +kernel
theorem dX8_showerOf_96 : decode cX8_showerOf 96 = .ok (.iinc 6 1, 3) := by decide +kernel
theorem dX8_showerOf_99 : decode cX8_showerOf 99 = .ok (.goto (-89), 3) := by decide +kernel
theorem dX8_showerOf_102 : decode cX8_showerOf 102 = .ok (.lload 4, 2) := by decide +kernel
theorem dX8_showerOf_104 : decode cX8_showerOf 104 = .ok (.lconst 1, 1) := by decide +kernel
theorem dX8_showerOf_105 : decode cX8_showerOf 105 = .ok (.iconst 4, 1) := by decide +kernel
theorem dX8_showerOf_106 : decode cX8_showerOf 106 = .ok (.aload_n 0, 1) := by decide +kernel
theorem dX8_showerOf_107 : decode cX8_showerOf 107 = .ok (.getfield 146, 3) := by decide +kernel
theorem dX8_showerOf_110 : decode cX8_showerOf 110 = .ok (.imul, 1) := by decide +kernel
theorem dX8_showerOf_111 : decode cX8_showerOf 111 = .ok (.lshl, 1) := by decide +kernel
theorem dX8_showerOf_112 : decode cX8_showerOf 112 = .ok (.iload_n 3, 1) := by decide +kernel
theorem dX8_showerOf_113 : decode cX8_showerOf 113 = .ok (.invokestatic 283, 3) := by decide +kernel
theorem dX8_showerOf_116 : decode cX8_showerOf 116 = .ok (.lreturn, 1) := by decide +kernel
theorem dX8_shower_0 : decode cX8_shower 0 = .ok (.iload_n 1, 1) := by decide +kernel
theorem dX8_shower_1 : decode cX8_shower 1 = .ok (.iconst 0, 1) := by decide +kernel
theorem dX8_shower_2 : decode cX8_shower 2 = .ok (.bipush 16, 2) := by decide +kernel
theorem dX8_shower_4 : decode cX8_shower 4 = .ok (.invokestatic 94, 3) := by decide +kernel
theorem dX8_shower_7 : decode cX8_shower 7 = .ok (.ifCond .eq 30, 3) := by decide +kernel
theorem dX8_shower_10 : decode cX8_shower 10 = .ok (.aload_n 0, 1) := by decide +kernel
theorem dX8_shower_11 : decode cX8_shower 11 = .ok (.iload_n 2, 1) := by decide +kernel
theorem dX8_shower_12 : decode cX8_shower 12 = .ok (.invokevirtual 140, 3) := by decide +kernel
theorem dX8_shower_15 : decode cX8_shower 15 = .ok (.ifCond .eq 22, 3) := by decide +kernel
theorem dX8_shower_18 : decode cX8_shower 18 = .ok (.iload_n 3, 1) := by decide +kernel
theorem dX8_shower_19 : decode cX8_shower 19 = .ok (.iconst 0, 1) := by decide +kernel
theorem dX8_shower_20 : decode cX8_shower 20 = .ok (.iconst 1, 1) := by decide +kernel
theorem dX8_shower_21 : decode cX8_shower 21 = .ok (.invokestatic 94, 3) := by decide +kernel
theorem dX8_shower_24 : decode cX8_shower 24 = .ok (.ifCond .eq 13, 3) := by decide +kernel
theorem dX8_shower_27 : decode cX8_shower 27 = .ok (.aload_n 0, 1) := by decide +kernel
theorem dX8_shower_28 : decode cX8_shower 28 = .ok (.iload_n 1, 1) := by decide +kernel
theorem dX8_shower_29 : decode cX8_shower 29 = .ok (.iload_n 2, 1) := by decide +kernel
theorem dX8_shower_30 : decode cX8_shower 30 = .ok (.iload_n 3, 1) := by decide +kernel
theorem dX8_shower_31 : decode cX8_shower 31 = .ok (.invokevirtual 287, 3) := by decide +kernel
theorem dX8_shower_34 : decode cX8_shower 34 = .ok (.goto 8, 3) := by decide +kernel
theorem dX8_shower_37 : decode cX8_shower 37 = .ok (.bipush (-2), 2) := by decide +kernel
theorem dX8_shower_39 : decode cX8_shower 39 = .ok (.invokestatic 291, 3) := by decide +kernel
theorem dX8_shower_42 : decode cX8_shower 42 = .ok (.lreturn, 1) := by decide +kernel
theorem dX8_moonOf_0 : decode cX8_moonOf 0 = .ok (.aload_n 0, 1) := by decide +kernel
theorem dX8_moonOf_1 : decode cX8_moonOf 1 = .ok (.invokevirtual 213, 3) := by decide +kernel
theorem dX8_moonOf_4 : decode cX8_moonOf 4 = .ok (.iload_n 1, 1) := by decide +kernel
theorem dX8_moonOf_5 : decode cX8_moonOf 5 = .ok (.istore 4, 2) := by decide +kernel
theorem dX8_moonOf_7 : decode cX8_moonOf 7 = .ok (.iconst 0, 1) := by decide +kernel
theorem dX8_moonOf_8 : decode cX8_moonOf 8 = .ok (.istore 5, 2) := by decide +kernel
theorem dX8_moonOf_10 : decode cX8_moonOf 10 = .ok (.iload 5, 2) := by decide +kernel
theorem dX8_moonOf_12 : decode cX8_moonOf 12 = .ok (.bipush 40, 2) := by decide +kernel
theorem dX8_moonOf_14 : decode cX8_moonOf 14 = .ok (.if_icmp .ge 59, 3) := by decide +kernel
theorem dX8_moonOf_17 : decode cX8_moonOf 17 = .ok (.iload 5, 2) := by decide +kernel
theorem dX8_moonOf_19 : decode cX8_moonOf 19 = .ok (.iload_n 2, 1) := by decide +kernel
theorem dX8_moonOf_20 : decode cX8_moonOf 20 = .ok (.if_icmp .ge 16, 3) := by decide +kernel
theorem dX8_moonOf_23 : decode cX8_moonOf 23 = .ok (.ldc_w 295, 3) := by decide +kernel
theorem dX8_moonOf_26 : decode cX8_moonOf 26 = .ok (.iload 4, 2) := by decide +kernel
theorem dX8_moonOf_28 : decode cX8_moonOf 28 = .ok (.imul, 1) := by decide +kernel
theorem dX8_moonOf_29 : decode cX8_moonOf 29 = .ok (.sipush 12345, 3) := by decide +kernel
theorem dX8_moonOf_32 : decode cX8_moonOf 32 = .ok (.iadd, 1) := by decide +kernel
theorem dX8_moonOf_33 : decode cX8_moonOf 33 = .ok (.goto 5, 3) := by decide +kernel
theorem dX8_moonOf_36 : decode cX8_moonOf 36 = .ok (.iload 4, 2) := by decide +kernel
theorem dX8_moonOf_38 : decode cX8_moonOf 38 = .ok (.istore 4, 2) := by decide +kernel
theorem dX8_moonOf_40 : decode cX8_moonOf 40 = .ok (.aload_n 0, 1) := by decide +kernel
theorem dX8_moonOf_41 : decode cX8_moonOf 41 = .ok (.getfield 40, 3) := by decide +kernel
theorem dX8_moonOf_44 : decode cX8_moonOf 44 = .ok (.iload 5, 2) := by decide +kernel
theorem dX8_moonOf_46 : decode cX8_moonOf 46 = .ok (.iload 5, 2) := by decide +kernel
theorem dX8_moonOf_48 : decode cX8_moonOf 48 = .ok (.iload_n 2, 1) := by decide +kernel
theorem dX8_moonOf_49 : decode cX8_moonOf 49 = .ok (.if_icmp .ge 16, 3) := by decide +kernel
theorem dX8_moonOf_52 : decode cX8_moonOf 52 = .ok (.iconst 2, 1) := by decide +kernel
theorem dX8_moonOf_53 : decode cX8_moonOf 53 = .ok (.iload 4, 2) := by decide +kernel
theorem dX8_moonOf_55 : decode cX8_moonOf 55 = .ok (.bipush 16, 2) := by decide +kernel
theorem dX8_moonOf_57 : decode cX8_moonOf 57 = .ok (.iushr, 1) := by decide +kernel
theorem dX8_moonOf_58 : decode cX8_moonOf 58 = .ok (.bipush 10, 2) := by decide +kernel
theorem dX8_moonOf_60 : decode cX8_moonOf 60 = .ok (.irem, 1) := by decide +kernel
theorem dX8_moonOf_61 : decode cX8_moonOf 61 = .ok (.imul, 1) := by decide +kernel
theorem dX8_moonOf_62 : decode cX8_moonOf 62 = .ok (.goto 4, 3) := by decide +kernel
theorem dX8_moonOf_65 : decode cX8_moonOf 65 = .ok (.iconst 0, 1) := by decide +kernel
theorem dX8_moonOf_66 : decode cX8_moonOf 66 = .ok (.iastore, 1) := by decide +kernel
theorem dX8_moonOf_67 : decode cX8_moonOf 67 = .ok (.iinc 5 1, 3) := by decide +kernel
theorem dX8_moonOf_70 : decode cX8_moonOf 70 = .ok (.goto (-60), 3) := by decide +kernel
theorem dX8_moonOf_73 : decode cX8_moonOf 73 = .ok (.aload_n 0, 1) := by decide +kernel
theorem dX8_moonOf_74 : decode cX8_moonOf 74 = .ok (.invokevirtual 216, 3) := by decide +kernel
theorem dX8_moonOf_77 : decode cX8_moonOf 77 = .ok (.iload_n 3, 1) := by decide +kernel
theorem dX8_moonOf_78 : decode cX8_moonOf 78 = .ok (.ifCond .ne 10, 3) := by decide +kernel
theorem dX8_moonOf_81 : decode cX8_moonOf 81 = .ok (.aload_n 0, 1) := by decide +kernel
theorem dX8_moonOf_82 : decode cX8_moonOf 82 = .ok (.getfield 194, 3) := by decide +kernel
theorem dX8_moonOf_85 : decode cX8_moonOf 85 = .ok (.goto 7, 3) := by decide +kernel
theorem dX8_moonOf_88 : decode cX8_moonOf 88 = .ok (.aload_n 0, 1) := by decide +kernel
theorem dX8_moonOf_89 : decode cX8_moonOf 89 = .ok (.invokevirtual 231, 3) := by decide +kernel
theorem dX8_moonOf_92 : decode cX8_moonOf 92 = .ok (.ireturn, 1) := by decide +kernel
theorem dX8_moon_0 : decode cX8_moon 0 = .ok (.iload_n 2, 1) := by decide +kernel
theorem dX8_moon_1 : decode cX8_moon 1 = .ok (.iconst 0, 1) := by decide +kernel
theorem dX8_moon_2 : decode cX8_moon 2 = .ok (.bipush 40, 2) := by decide +kernel
theorem dX8_moon_4 : decode cX8_moon 4 = .ok (.invokestatic 94, 3) := by decide +kernel
theorem dX8_moon_7 : decode cX8_moon 7 = .ok (.ifCond .eq 22, 3) := by decide +kernel
theorem dX8_moon_10 : decode cX8_moon 10 = .ok (.iload_n 3, 1) := by decide +kernel
theorem dX8_moon_11 : decode cX8_moon 11 = .ok (.iconst 0, 1) := by decide +kernel
theorem dX8_moon_12 : decode cX8_moon 12 = .ok (.iconst 1, 1) := by decide +kernel
theorem dX8_moon_13 : decode cX8_moon 13 = .ok (.invokestatic 94, 3) := by decide +kernel
theorem dX8_moon_16 : decode cX8_moon 16 = .ok (.ifCond .eq 13, 3) := by decide +kernel
theorem dX8_moon_19 : decode cX8_moon 19 = .ok (.aload_n 0, 1) := by decide +kernel
theorem dX8_moon_20 : decode cX8_moon 20 = .ok (.iload_n 1, 1) := by decide +kernel
theorem dX8_moon_21 : decode cX8_moon 21 = .ok (.iload_n 2, 1) := by decide +kernel
theorem dX8_moon_22 : decode cX8_moon 22 = .ok (.iload_n 3, 1) := by decide +kernel
theorem dX8_moon_23 : decode cX8_moon 23 = .ok (.invokevirtual 296, 3) := by decide +kernel
theorem dX8_moon_26 : decode cX8_moon 26 = .ok (.goto 5, 3) := by decide +kernel
theorem dX8_moon_29 : decode cX8_moon 29 = .ok (.bipush (-2), 2) := by decide +kernel
theorem dX8_moon_31 : decode cX8_moon 31 = .ok (.ireturn, 1) := by decide +kernel
theorem dX8_meets_0 : decode cX8_meets 0 = .ok (.aload_n 0, 1) := by decide +kernel
theorem dX8_meets_1 : decode cX8_meets 1 = .ok (.iload_n 1, 1) := by decide +kernel
theorem dX8_meets_2 : decode cX8_meets 2 = .ok (.putfield 300, 3) := by decide +kernel
theorem dX8_meets_5 : decode cX8_meets 5 = .ok (.bipush (-10), 2) := by decide +kernel
theorem dX8_meets_7 : decode cX8_meets 7 = .ok (.iload_n 1, 1) := by decide +kernel
theorem dX8_meets_8 : decode cX8_meets 8 = .ok (.isub, 1) := by decide +kernel
theorem dX8_meets_9 : decode cX8_meets 9 = .ok (.ireturn, 1) := by decide +kernel
theorem dX8_isSheet_0 : decode cX8_isSheet 0 = .ok (.iload_n 0, 1) := by decide +kernel
theorem dX8_isSheet_1 : decode cX8_isSheet 1 = .ok (.iconst 0, 1) := by decide +kernel
theorem dX8_isSheet_2 : decode cX8_isSheet 2 = .ok (.iconst 3, 1) := by decide +kernel
theorem dX8_isSheet_3 : decode cX8_isSheet 3 = .ok (.invokestatic 94, 3) := by decide +kernel
theorem dX8_isSheet_6 : decode cX8_isSheet 6 = .ok (.ireturn, 1) := by decide +kernel
theorem dX8_sheet_0 : decode cX8_sheet 0 = .ok (.iload_n 1, 1) := by decide +kernel
theorem dX8_sheet_1 : decode cX8_sheet 1 = .ok (.invokestatic 152, 3) := by decide +kernel
theorem dX8_sheet_4 : decode cX8_sheet 4 = .ok (.ifCond .eq 18, 3) := by decide +kernel
theorem dX8_sheet_7 : decode cX8_sheet 7 = .ok (.iload_n 2, 1) := by decide +kernel
theorem dX8_sheet_8 : decode cX8_sheet 8 = .ok (.iconst 0, 1) := by decide +kernel
theorem dX8_sheet_9 : decode cX8_sheet 9 = .ok (.iconst 2, 1) := by decide +kernel
theorem dX8_sheet_10 : decode cX8_sheet 10 = .ok (.invokestatic 94, 3) := by decide +kernel
theorem dX8_sheet_13 : decode cX8_sheet 13 = .ok (.ifCond .eq 9, 3) := by decide +kernel
theorem dX8_sheet_16 : decode cX8_sheet 16 = .ok (.iload_n 3, 1) := by decide +kernel
theorem dX8_sheet_17 : decode cX8_sheet 17 = .ok (.bipush 60, 2) := by decide +kernel
theorem dX8_sheet_19 : decode cX8_sheet 19 = .ok (.if_icmp .le 6, 3) := by decide +kernel
theorem dX8_sheet_22 : decode cX8_sheet 22 = .ok (.bipush (-2), 2) := by decide +kernel
theorem dX8_sheet_24 : decode cX8_sheet 24 = .ok (.ireturn, 1) := by decide +kernel
theorem dX8_sheet_25 : decode cX8_sheet 25 = .ok (.iload_n 3, 1) := by decide +kernel
theorem dX8_sheet_26 : decode cX8_sheet 26 = .ok (.ifCond .ge 9, 3) := by decide +kernel
theorem dX8_sheet_29 : decode cX8_sheet 29 = .ok (.aload_n 0, 1) := by decide +kernel
theorem dX8_sheet_30 : decode cX8_sheet 30 = .ok (.iconst 5, 1) := by decide +kernel
theorem dX8_sheet_31 : decode cX8_sheet 31 = .ok (.invokevirtual 155, 3) := by decide +kernel
theorem dX8_sheet_34 : decode cX8_sheet 34 = .ok (.ireturn, 1) := by decide +kernel
theorem dX8_sheet_35 : decode cX8_sheet 35 = .ok (.aload_n 0, 1) := by decide +kernel
theorem dX8_sheet_36 : decode cX8_sheet 36 = .ok (.getfield 76, 3) := by decide +kernel
theorem dX8_sheet_39 : decode cX8_sheet 39 = .ok (.iload_n 1, 1) := by decide +kernel
theorem dX8_sheet_40 : decode cX8_sheet 40 = .ok (.iconst 1, 1) := by decide +kernel
theorem dX8_sheet_41 : decode cX8_sheet 41 = .ok (.bastore, 1) := by decide +kernel
theorem dX8_sheet_42 : decode cX8_sheet 42 = .ok (.aload_n 0, 1) := by decide +kernel
theorem dX8_sheet_43 : decode cX8_sheet 43 = .ok (.getfield 80, 3) := by decide +kernel
theorem dX8_sheet_46 : decode cX8_sheet 46 = .ok (.iload_n 1, 1) := by decide +kernel
theorem dX8_sheet_47 : decode cX8_sheet 47 = .ok (.iload_n 2, 1) := by decide +kernel
theorem dX8_sheet_48 : decode cX8_sheet 48 = .ok (.iastore, 1) := by decide +kernel
theorem dX8_sheet_49 : decode cX8_sheet 49 = .ok (.aload_n 0, 1) := by decide +kernel
theorem dX8_sheet_50 : decode cX8_sheet 50 = .ok (.getfield 83, 3) := by decide +kernel
theorem dX8_sheet_53 : decode cX8_sheet 53 = .ok (.iload_n 1, 1) := by decide +kernel
theorem dX8_sheet_54 : decode cX8_sheet 54 = .ok (.iload_n 3, 1) := by decide +kernel
theorem dX8_sheet_55 : decode cX8_sheet 55 = .ok (.iastore, 1) := by decide +kernel
theorem dX8_sheet_56 : decode cX8_sheet 56 = .ok (.iconst 0, 1) := by decide +kernel
theorem dX8_sheet_57 : decode cX8_sheet 57 = .ok (.istore 4, 2) := by decide +kernel
theorem dX8_sheet_59 : decode cX8_sheet 59 = .ok (.iload 4, 2) := by decide +kernel
theorem dX8_sheet_61 : decode cX8_sheet 61 = .ok (.bipush 60, 2) := by decide +kernel
theorem dX8_sheet_63 : decode cX8_sheet 63 = .ok (.if_icmp .ge 22, 3) := by decide +kernel
theorem dX8_sheet_66 : decode cX8_sheet 66 = .ok (.aload_n 0, 1) := by decide +kernel
theorem dX8_sheet_67 : decode cX8_sheet 67 = .ok (.getfield 86, 3) := by decide +kernel
theorem dX8_sheet_70 : decode cX8_sheet 70 = .ok (.bipush 60, 2) := by decide +kernel
theorem dX8_sheet_72 : decode cX8_sheet 72 = .ok (.iload_n 1, 1) := by decide +kernel
theorem dX8_sheet_73 : decode cX8_sheet 73 = .ok (.imul, 1) := by decide +kernel
theorem dX8_sheet_74 : decode cX8_sheet 74 = .ok (.iload 4, 2) := by decide +kernel
theorem dX8_sheet_76 : decode cX8_sheet 76 = .ok (.iadd, 1) := by decide +kernel
theorem dX8_sheet_77 : decode cX8_sheet 77 = .ok (.iconst 0, 1) := by decide +kernel
theorem dX8_sheet_78 : decode cX8_sheet 78 = .ok (.iastore, 1) := by decide +kernel
theorem dX8_sheet_79 : decode cX8_sheet 79 = .ok (.iinc 4 1, 3) := by decide +kernel
theorem dX8_sheet_82 : decode cX8_sheet 82 = .ok (.goto (-23), 3) := by decide +kernel
theorem dX8_sheet_85 : decode cX8_sheet 85 = .ok (.iload_n 3, 1) := by decide +kernel
theorem dX8_sheet_86 : decode cX8_sheet 86 = .ok (.ireturn, 1) := by decide +kernel
theorem dX8_lose_0 : decode cX8_lose 0 = .ok (.iload_n 1, 1) := by decide +kernel
theorem dX8_lose_1 : decode cX8_lose 1 = .ok (.invokestatic 152, 3) := by decide +kernel
theorem dX8_lose_4 : decode cX8_lose 4 = .ok (.ifCond .ne 6, 3) := by decide +kernel
theorem dX8_lose_7 : decode cX8_lose 7 = .ok (.bipush (-2), 2) := by decide +kernel
theorem dX8_lose_9 : decode cX8_lose 9 = .ok (.ireturn, 1) := by decide +kernel
theorem dX8_lose_10 : decode cX8_lose 10 = .ok (.aload_n 0, 1) := by decide +kernel
theorem dX8_lose_11 : decode cX8_lose 11 = .ok (.getfield 76, 3) := by decide +kernel
theorem dX8_lose_14 : decode cX8_lose 14 = .ok (.iload_n 1, 1) := by decide +kernel
theorem dX8_lose_15 : decode cX8_lose 15 = .ok (.baload, 1) := by decide +kernel
theorem dX8_lose_16 : decode cX8_lose 16 = .ok (.ifCond .ne 9, 3) := by decide +kernel
theorem dX8_lose_19 : decode cX8_lose 19 = .ok (.aload_n 0, 1) := by decide +kernel
theorem dX8_lose_20 : decode cX8_lose 20 = .ok (.iconst 1, 1) := by decide +kernel
theorem dX8_lose_21 : decode cX8_lose 21 = .ok (.invokevirtual 155, 3) := by decide +kernel
theorem dX8_lose_24 : decode cX8_lose 24 = .ok (.ireturn, 1) := by decide +kernel
theorem dX8_lose_25 : decode cX8_lose 25 = .ok (.aload_n 0, 1) := by decide +kernel
theorem dX8_lose_26 : decode cX8_lose 26 = .ok (.getfield 76, 3) := by decide +kernel
theorem dX8_lose_29 : decode cX8_lose 29 = .ok (.iload_n 1, 1) := by decide +kernel
theorem dX8_lose_30 : decode cX8_lose 30 = .ok (.iconst 0, 1) := by decide +kernel
theorem dX8_lose_31 : decode cX8_lose 31 = .ok (.bastore, 1) := by decide +kernel
theorem dX8_lose_32 : decode cX8_lose 32 = .ok (.aload_n 0, 1) := by decide +kernel
theorem dX8_lose_33 : decode cX8_lose 33 = .ok (.getfield 83, 3) := by decide +kernel
theorem dX8_lose_36 : decode cX8_lose 36 = .ok (.iload_n 1, 1) := by decide +kernel
theorem dX8_lose_37 : decode cX8_lose 37 = .ok (.iaload, 1) := by decide +kernel
theorem dX8_lose_38 : decode cX8_lose 38 = .ok (.ireturn, 1) := by decide +kernel
theorem dX8_lacks_0 : decode cX8_lacks 0 = .ok (.aload_n 0, 1) := by decide +kernel
theorem dX8_lacks_1 : decode cX8_lacks 1 = .ok (.getfield 76, 3) := by decide +kernel
theorem dX8_lacks_4 : decode cX8_lacks 4 = .ok (.iload_n 1, 1) := by decide +kernel
theorem dX8_lacks_5 : decode cX8_lacks 5 = .ok (.baload, 1) := by decide +kernel
theorem dX8_lacks_6 : decode cX8_lacks 6 = .ok (.ifCond .ne 7, 3) := by decide +kernel
theorem dX8_lacks_9 : decode cX8_lacks 9 = .ok (.iconst 1, 1) := by decide +kernel
theorem dX8_lacks_10 : decode cX8_lacks 10 = .ok (.goto 38, 3) := by decide +kernel
theorem dX8_lacks_13 : decode cX8_lacks 13 = .ok (.aload_n 0, 1) := by decide +kernel
theorem dX8_lacks_14 : decode cX8_lacks 14 = .ok (.getfield 80, 3) := by decide +kernel
theorem dX8_lacks_17 : decode cX8_lacks 17 = .ok (.iload_n 1, 1) := by decide +kernel
theorem dX8_lacks_18 : decode cX8_lacks 18 = .ok (.iaload, 1) := by decide +kernel
theorem dX8_lacks_19 : decode cX8_lacks 19 = .ok (.iload_n 2, 1) := by decide +kernel
theorem dX8_lacks_20 : decode cX8_lacks 20 = .ok (.if_icmp .eq 7, 3) := by decide +kernel
theorem dX8_lacks_23 : decode cX8_lacks 23 = .ok (.iconst 3, 1) := by decide +kernel
theorem dX8_lacks_24 : decode cX8_lacks 24 = .ok (.goto 24, 3) := by decide +kernel
theorem dX8_lacks_27 : decode cX8_lacks 27 = .ok (.iload_n 3, 1) := by decide +kernel
theorem dX8_lacks_28 : decode cX8_lacks 28 = .ok (.iconst 0, 1) := by decide +kernel
theorem dX8_lacks_29 : decode cX8_lacks 29 = .ok (.aload_n 0, 1) := by decide +kernel
theorem dX8_lacks_30 : decode cX8_lacks 30 = .ok (.getfield 83, 3) := by decide +kernel
theorem dX8_lacks_33 : decode cX8_lacks 33 = .ok (.iload_n 1, 1) := by decide +kernel
theorem dX8_lacks_34 : decode cX8_lacks 34 = .ok (.iaload, 1) := by decide +kernel
theorem dX8_lacks_35 : decode cX8_lacks 35 = .ok (.iconst 1, 1) := by decide +kernel
theorem dX8_lacks_36 : decode cX8_lacks 36 = .ok (.isub, 1) := by decide +kernel
theorem dX8_lacks_37 : decode cX8_lacks 37 = .ok (.invokestatic 94, 3) := by decide +kernel
theorem dX8_lacks_40 : decode cX8_lacks 40 = .ok (.ifCond .eq 7, 3) := by decide +kernel
theorem dX8_lacks_43 : decode cX8_lacks 43 = .ok (.iconst 0, 1) := by decide +kernel
theorem dX8_lacks_44 : decode cX8_lacks 44 = .ok (.goto 4, 3) := by decide +kernel
theorem dX8_lacks_47 : decode cX8_lacks 47 = .ok (.iconst 2, 1) := by decide +kernel
theorem dX8_lacks_48 : decode cX8_lacks 48 = .ok (.ireturn, 1) := by decide +kernel
theorem dX8_keep_0 : decode cX8_keep 0 = .ok (.aload_n 0, 1) := by decide +kernel
theorem dX8_keep_1 : decode cX8_keep 1 = .ok (.getfield 86, 3) := by decide +kernel
theorem dX8_keep_4 : decode cX8_keep 4 = .ok (.bipush 60, 2) := by decide +kernel
theorem dX8_keep_6 : decode cX8_keep 6 = .ok (.iload_n 1, 1) := by decide +kernel
theorem dX8_keep_7 : decode cX8_keep 7 = .ok (.imul, 1) := by decide +kernel
theorem dX8_keep_8 : decode cX8_keep 8 = .ok (.iload_n 2, 1) := by decide +kernel
theorem dX8_keep_9 : decode cX8_keep 9 = .ok (.iadd, 1) := by decide +kernel
theorem dX8_keep_10 : decode cX8_keep 10 = .ok (.aload_n 0, 1) := by decide +kernel
theorem dX8_keep_11 : decode cX8_keep 11 = .ok (.getfield 80, 3) := by decide +kernel
theorem dX8_keep_14 : decode cX8_keep 14 = .ok (.iload_n 1, 1) := by decide +kernel
theorem dX8_keep_15 : decode cX8_keep 15 = .ok (.iaload, 1) := by decide +kernel
theorem dX8_keep_16 : decode cX8_keep 16 = .ok (.ifCond .ne 8, 3) := by decide +kernel
theorem dX8_keep_19 : decode cX8_keep 19 = .ok (.iload_n 3, 1) := by decide +kernel
theorem dX8_keep_20 : decode cX8_keep 20 = .ok (.i2b, 1) := by decide +kernel
theorem dX8_keep_21 : decode cX8_keep 21 = .ok (.goto 19, 3) := by decide +kernel
theorem dX8_keep_24 : decode cX8_keep 24 = .ok (.aload_n 0, 1) := by decide +kernel
theorem dX8_keep_25 : decode cX8_keep 25 = .ok (.getfield 80, 3) := by decide +kernel
theorem dX8_keep_28 : decode cX8_keep 28 = .ok (.iload_n 1, 1) := by decide +kernel
theorem dX8_keep_29 : decode cX8_keep 29 = .ok (.iaload, 1) := by decide +kernel
theorem dX8_keep_30 : decode cX8_keep 30 = .ok (.iconst 1, 1) := by decide +kernel
theorem dX8_keep_31 : decode cX8_keep 31 = .ok (.if_icmp .ne 8, 3) := by decide +kernel
theorem dX8_keep_34 : decode cX8_keep 34 = .ok (.iload_n 3, 1) := by decide +kernel
theorem dX8_keep_35 : decode cX8_keep 35 = .ok (.i2s, 1) := by decide +kernel
theorem dX8_keep_36 : decode cX8_keep 36 = .ok (.goto 4, 3) := by decide +kernel
theorem dX8_keep_39 : decode cX8_keep 39 = .ok (.iload_n 3, 1) := by decide +kernel
theorem dX8_keep_40 : decode cX8_keep 40 = .ok (.iastore, 1) := by decide +kernel
theorem dX8_keep_41 : decode cX8_keep 41 = .ok (.return_, 1) := by decide +kernel
theorem dX8_put_0 : decode cX8_put 0 = .ok (.iload_n 1, 1) := by decide +kernel
theorem dX8_put_1 : decode cX8_put 1 = .ok (.invokestatic 152, 3) := by decide +kernel
theorem dX8_put_4 : decode cX8_put 4 = .ok (.ifCond .eq 12, 3) := by decide +kernel
theorem dX8_put_7 : decode cX8_put 7 = .ok (.iload_n 2, 1) := by decide +kernel
theorem dX8_put_8 : decode cX8_put 8 = .ok (.iconst 0, 1) := by decide +kernel
theorem dX8_put_9 : decode cX8_put 9 = .ok (.iconst 2, 1) := by decide +kernel
theorem dX8_put_10 : decode cX8_put 10 = .ok (.invokestatic 94, 3) := by decide +kernel
theorem dX8_put_13 : decode cX8_put 13 = .ok (.ifCond .ne 6, 3) := by decide +kernel
theorem dX8_put_16 : decode cX8_put 16 = .ok (.bipush (-2), 2) := by decide +kernel
theorem dX8_put_18 : decode cX8_put 18 = .ok (.ireturn, 1) := by decide +kernel
theorem dX8_put_19 : decode cX8_put 19 = .ok (.aload_n 0, 1) := by decide +kernel
theorem dX8_put_20 : decode cX8_put 20 = .ok (.iload_n 1, 1) := by decide +kernel
theorem dX8_put_21 : decode cX8_put 21 = .ok (.iload_n 2, 1) := by decide +kernel
theorem dX8_put_22 : decode cX8_put 22 = .ok (.iload_n 3, 1) := by decide +kernel
theorem dX8_put_23 : decode cX8_put 23 = .ok (.invokevirtual 303, 3) := by decide +kernel
theorem dX8_put_26 : decode cX8_put 26 = .ok (.istore 5, 2) := by decide +kernel
theorem dX8_put_28 : decode cX8_put 28 = .ok (.iload 5, 2) := by decide +kernel
theorem dX8_put_30 : decode cX8_put 30 = .ok (.ifCond .le 10, 3) := by decide +kernel
theorem dX8_put_33 : decode cX8_put 33 = .ok (.aload_n 0, 1) := by decide +kernel
theorem dX8_put_34 : decode cX8_put 34 = .ok (.iload 5, 2) := by decide +kernel
theorem dX8_put_36 : decode cX8_put 36 = .ok (.invokevirtual 155, 3) := by decide +kernel
theorem dX8_put_39 : decode cX8_put 39 = .ok (.ireturn, 1) := by decide +kernel
theorem dX8_put_40 : decode cX8_put 40 = .ok (.aload_n 0, 1) := by decide +kernel
theorem dX8_put_41 : decode cX8_put 41 = .ok (.iload_n 1, 1) := by decide +kernel
theorem dX8_put_42 : decode cX8_put 42 = .ok (.iload_n 3, 1) := by decide +kernel
theorem dX8_put_43 : decode cX8_put 43 = .ok (.iload 4, 2) := by decide +kernel
theorem dX8_put_45 : decode cX8_put 45 = .ok (.invokevirtual 306, 3) := by decide +kernel
theorem dX8_put_48 : decode cX8_put 48 = .ok (.iconst 1, 1) := by decide +kernel
theorem dX8_put_49 : decode cX8_put 49 = .ok (.ireturn, 1) := by decide +kernel
theorem dX8_get_0 : decode cX8_get 0 = .ok (.iload_n 1, 1) := by decide +kernel
theorem dX8_get_1 : decode cX8_get 1 = .ok (.invokestatic 152, 3) := by decide +kernel
theorem dX8_get_4 : decode cX8_get 4 = .ok (.ifCond .eq 12, 3) := by decide +kernel
theorem dX8_get_7 : decode cX8_get 7 = .ok (.iload_n 2, 1) := by decide +kernel
theorem dX8_get_8 : decode cX8_get 8 = .ok (.iconst 0, 1) := by decide +kernel
theorem dX8_get_9 : decode cX8_get 9 = .ok (.iconst 2, 1) := by decide +kernel
theorem dX8_get_10 : decode cX8_get 10 = .ok (.invokestatic 94, 3) := by decide +kernel
theorem dX8_get_13 : decode cX8_get 13 = .ok (.ifCond .ne 7, 3) := by decide +kernel
theorem dX8_get_16 : decode cX8_get 16 = .ok (.ldc_w 310, 3) := by decide +kernel
theorem dX8_get_19 : decode cX8_get 19 = .ok (.ireturn, 1) := by decide +kernel
theorem dX8_get_20 : decode cX8_get 20 = .ok (.aload_n 0, 1) := by decide +kernel
theorem dX8_get_21 : decode cX8_get 21 = .ok (.iload_n 1, 1) := by decide +kernel
theorem dX8_get_22 : decode cX8_get 22 = .ok (.iload_n 2, 1) := by decide +kernel
theorem dX8_get_23 : decode cX8_get 23 = .ok (.iload_n 3, 1) := by decide +kernel
theorem dX8_get_24 : decode cX8_get 24 = .ok (.invokevirtual 303, 3) := by decide +kernel
theorem dX8_get_27 : decode cX8_get 27 = .ok (.istore 4, 2) := by decide +kernel
theorem dX8_get_29 : decode cX8_get 29 = .ok (.iload 4, 2) := by decide +kernel
theorem dX8_get_31 : decode cX8_get 31 = .ok (.ifCond .le 13, 3) := by decide +kernel
theorem dX8_get_34 : decode cX8_get 34 = .ok (.aload_n 0, 1) := by decide +kernel
theorem dX8_get_35 : decode cX8_get 35 = .ok (.iload 4, 2) := by decide +kernel
theorem dX8_get_37 : decode cX8_get 37 = .ok (.putfield 300, 3) := by decide +kernel
theorem dX8_get_40 : decode cX8_get 40 = .ok (.ldc_w 310, 3) := by decide +kernel
theorem dX8_get_43 : decode cX8_get 43 = .ok (.ireturn, 1) := by decide +kernel
theorem dX8_get_44 : decode cX8_get 44 = .ok (.aload_n 0, 1) := by decide +kernel
theorem dX8_get_45 : decode cX8_get 45 = .ok (.getfield 86, 3) := by decide +kernel
theorem dX8_get_48 : decode cX8_get 48 = .ok (.bipush 60, 2) := by decide +kernel
theorem dX8_get_50 : decode cX8_get 50 = .ok (.iload_n 1, 1) := by decide +kernel
theorem dX8_get_51 : decode cX8_get 51 = .ok (.imul, 1) := by decide +kernel
theorem dX8_get_52 : decode cX8_get 52 = .ok (.iload_n 3, 1) := by decide +kernel
theorem dX8_get_53 : decode cX8_get 53 = .ok (.iadd, 1) := by decide +kernel
theorem dX8_get_54 : decode cX8_get 54 = .ok (.iaload, 1) := by decide +kernel
theorem dX8_get_55 : decode cX8_get 55 = .ok (.ireturn, 1) := by decide +kernel
theorem dX8_copy_0 : decode cX8_copy 0 = .ok (.iload_n 1, 1) := by decide +kernel
theorem dX8_copy_1 : decode cX8_copy 1 = .ok (.invokestatic 152, 3) := by decide +kernel
theorem dX8_copy_4 : decode cX8_copy 4 = .ok (.ifCond .eq 10, 3) := by decide +kernel
theorem dX8_copy_7 : decode cX8_copy 7 = .ok (.iload_n 3, 1) := by decide +kernel
theorem dX8_copy_8 : decode cX8_copy 8 = .ok (.invokestatic 152, 3) := by decide +kernel
theorem dX8_copy_11 : decode cX8_copy 11 = .ok (.ifCond .ne 6, 3) := by decide +kernel
theorem dX8_copy_14 : decode cX8_copy 14 = .ok (.bipush (-2), 2) := by decide +kernel
theorem dX8_copy_16 : decode cX8_copy 16 = .ok (.ireturn, 1) := by decide +kernel
theorem dX8_copy_17 : decode cX8_copy 17 = .ok (.aload_n 0, 1) := by decide +kernel
theorem dX8_copy_18 : decode cX8_copy 18 = .ok (.getfield 76, 3) := by decide +kernel
theorem dX8_copy_21 : decode cX8_copy 21 = .ok (.iload_n 1, 1) := by decide +kernel
theorem dX8_copy_22 : decode cX8_copy 22 = .ok (.baload, 1) := by decide +kernel
theorem dX8_copy_23 : decode cX8_copy 23 = .ok (.ifCond .eq 12, 3) := by decide +kernel
theorem dX8_copy_26 : decode cX8_copy 26 = .ok (.aload_n 0, 1) := by decide +kernel
theorem dX8_copy_27 : decode cX8_copy 27 = .ok (.getfield 76, 3) := by decide +kernel
theorem dX8_copy_30 : decode cX8_copy 30 = .ok (.iload_n 3, 1) := by decide +kernel
theorem dX8_copy_31 : decode cX8_copy 31 = .ok (.baload, 1) := by decide +kernel
theorem dX8_copy_32 : decode cX8_copy 32 = .ok (.ifCond .ne 9, 3) := by decide +kernel
theorem dX8_copy_35 : decode cX8_copy 35 = .ok (.aload_n 0, 1) := by decide +kernel
theorem dX8_copy_36 : decode cX8_copy 36 = .ok (.iconst 1, 1) := by decide +kernel
theorem dX8_copy_37 : decode cX8_copy 37 = .ok (.invokevirtual 155, 3) := by decide +kernel
theorem dX8_copy_40 : decode cX8_copy 40 = .ok (.ireturn, 1) := by decide +kernel
theorem dX8_copy_41 : decode cX8_copy 41 = .ok (.aload_n 0, 1) := by decide +kernel
theorem dX8_copy_42 : decode cX8_copy 42 = .ok (.getfield 80, 3) := by decide +kernel
theorem dX8_copy_45 : decode cX8_copy 45 = .ok (.iload_n 1, 1) := by decide +kernel
theorem dX8_copy_46 : decode cX8_copy 46 = .ok (.iaload, 1) := by decide +kernel
theorem dX8_copy_47 : decode cX8_copy 47 = .ok (.aload_n 0, 1) := by decide +kernel
theorem dX8_copy_48 : decode cX8_copy 48 = .ok (.getfield 80, 3) := by decide +kernel
theorem dX8_copy_51 : decode cX8_copy 51 = .ok (.iload_n 3, 1) := by decide +kernel
theorem dX8_copy_52 : decode cX8_copy 52 = .ok (.iaload, 1) := by decide +kernel
theorem dX8_copy_53 : decode cX8_copy 53 = .ok (.if_icmp .eq 9, 3) := by decide +kernel
theorem dX8_copy_56 : decode cX8_copy 56 = .ok (.aload_n 0, 1) := by decide +kernel
theorem dX8_copy_57 : decode cX8_copy 57 = .ok (.iconst 4, 1) := by decide +kernel
theorem dX8_copy_58 : decode cX8_copy 58 = .ok (.invokevirtual 155, 3) := by decide +kernel
theorem dX8_copy_61 : decode cX8_copy 61 = .ok (.ireturn, 1) := by decide +kernel
theorem dX8_copy_62 : decode cX8_copy 62 = .ok (.iload_n 2, 1) := by decide +kernel
theorem dX8_copy_63 : decode cX8_copy 63 = .ok (.ifCond .lt 48, 3) := by decide +kernel
theorem dX8_copy_66 : decode cX8_copy 66 = .ok (.iload 4, 2) := by decide +kernel
theorem dX8_copy_68 : decode cX8_copy 68 = .ok (.ifCond .lt 43, 3) := by decide +kernel
theorem dX8_copy_71 : decode cX8_copy 71 = .ok (.iload 5, 2) := by decide +kernel
theorem dX8_copy_73 : decode cX8_copy 73 = .ok (.ifCond .lt 38, 3) := by decide +kernel
theorem dX8_copy_76 : decode cX8_copy 76 = .ok (.iload_n 2, 1) := by decide +kernel
theorem dX8_copy_77 : decode cX8_copy 77 = .ok (.i2l, 1) := by decide +kernel
theorem dX8_copy_78 : decode cX8_copy 78 = .ok (.iload 5, 2) := by decide +kernel
theorem dX8_copy_80 : decode cX8_copy 80 = .ok (.i2l, 1) := by decide +kernel
theorem dX8_copy_81 : decode cX8_copy 81 = .ok (.ladd, 1) := by decide +kernel
theorem dX8_copy_82 : decode cX8_copy 82 = .ok (.aload_n 0, 1) := by decide +kernel
theorem dX8_copy_83 : decode cX8_copy 83 = .ok (.getfield 83, 3) := by decide +kernel
theorem dX8_copy_86 : decode cX8_copy 86 = .ok (.iload_n 1, 1) := by decide +kernel
theorem dX8_copy_87 : decode cX8_copy 87 = .ok (.iaload, 1) := by decide +kernel
theorem dX8_copy_88 : decode cX8_copy 88 = .ok (.i2l, 1) := by decide +kernel
theorem dX8_copy_89 : decode cX8_copy 89 = .ok (.lcmp, 1) := by decide +kernel
theorem dX8_copy_90 : decode cX8_copy 90 = .ok (.ifCond .gt 21, 3) := by decide +kernel
theorem dX8_copy_93 : decode cX8_copy 93 = .ok (.iload 4, 2) := by decide +kernel
theorem dX8_copy_95 : decode cX8_copy 95 = .ok (.i2l, 1) := by decide +kernel
theorem dX8_copy_96 : decode cX8_copy 96 = .ok (.iload 5, 2) := by decide +kernel
theorem dX8_copy_98 : decode cX8_copy 98 = .ok (.i2l, 1) := by decide +kernel
theorem dX8_copy_99 : decode cX8_copy 99 = .ok (.ladd, 1) := by decide +kernel
theorem dX8_copy_100 : decode cX8_copy 100 = .ok (.aload_n 0, 1) := by decide +kernel
theorem dX8_copy_101 : decode cX8_copy 101 = .ok (.getfield 83, 3) := by decide +kernel
theorem dX8_copy_104 : decode cX8_copy 104 = .ok (.iload_n 3, 1) := by decide +kernel
theorem dX8_copy_105 : decode cX8_copy 105 = .ok (.iaload, 1) := by decide +kernel
theorem dX8_copy_106 : decode cX8_copy 106 = .ok (.i2l, 1) := by decide +kernel
theorem dX8_copy_107 : decode cX8_copy 107 = .ok (.lcmp, 1) := by decide +kernel
theorem dX8_copy_108 : decode cX8_copy 108 = .ok (.ifCond .le 9, 3) := by decide +kernel
theorem dX8_copy_111 : decode cX8_copy 111 = .ok (.aload_n 0, 1) := by decide +kernel
theorem dX8_copy_112 : decode cX8_copy 112 = .ok (.iconst 2, 1) := by decide +kernel
theorem dX8_copy_113 : decode cX8_copy 113 = .ok (.invokevirtual 155, 3) := by decide +kernel
theorem dX8_copy_116 : decode cX8_copy 116 = .ok (.ireturn, 1) := by decide +kernel
theorem dX8_copy_117 : decode cX8_copy 117 = .ok (.iconst 0, 1) := by decide +kernel
theorem dX8_copy_118 : decode cX8_copy 118 = .ok (.istore 6, 2) := by decide +kernel
theorem dX8_copy_120 : decode cX8_copy 120 = .ok (.iload 6, 2) := by decide +kernel
theorem dX8_copy_122 : decode cX8_copy 122 = .ok (.iload 5, 2) := by decide +kernel
theorem dX8_copy_124 : decode cX8_copy 124 = .ok (.if_icmp .ge 30, 3) := by decide +kernel
theorem dX8_copy_127 : decode cX8_copy 127 = .ok (.aload_n 0, 1) := by decide +kernel
theorem dX8_copy_128 : decode cX8_copy 128 = .ok (.getfield 89, 3) := by decide +kernel
theorem dX8_copy_131 : decode cX8_copy 131 = .ok (.iload 6, 2) := by decide +kernel
theorem dX8_copy_133 : decode cX8_copy 133 = .ok (.aload_n 0, 1) := by decide +kernel
theorem dX8_copy_134 : decode cX8_copy 134 = .ok (.getfield 86, 3) := by decide +kernel
theorem dX8_copy_137 : decode cX8_copy 137 = .ok (.bipush 60, 2) := by decide +kernel
theorem dX8_copy_139 : decode cX8_copy 139 = .ok (.iload_n 1, 1) := by decide +kernel
theorem dX8_copy_140 : decode cX8_copy 140 = .ok (.imul, 1) := by decide +kernel
theorem dX8_copy_141 : decode cX8_copy 141 = .ok (.iload_n 2, 1) := by decide +kernel
theorem dX8_copy_142 : decode cX8_copy 142 = .ok (.iadd, 1) := by decide +kernel
theorem dX8_copy_143 : decode cX8_copy 143 = .ok (.iload 6, 2) := by decide +kernel
theorem dX8_copy_145 : decode cX8_copy 145 = .ok (.iadd, 1) := by decide +kernel
theorem dX8_copy_146 : decode cX8_copy 146 = .ok (.iaload, 1) := by decide +kernel
theorem dX8_copy_147 : decode cX8_copy 147 = .ok (.iastore, 1) := by decide +kernel
theorem dX8_copy_148 : decode cX8_copy 148 = .ok (.iinc 6 1, 3) := by decide +kernel
theorem dX8_copy_151 : decode cX8_copy 151 = .ok (.goto (-31), 3) := by decide +kernel
theorem dX8_copy_154 : decode cX8_copy 154 = .ok (.iconst 0, 1) := by decide +kernel
theorem dX8_copy_155 : decode cX8_copy 155 = .ok (.istore 6, 2) := by decide +kernel
theorem dX8_copy_157 : decode cX8_copy 157 = .ok (.iload 6, 2) := by decide +kernel
theorem dX8_copy_159 : decode cX8_copy 159 = .ok (.iload 5, 2) := by decide +kernel
theorem dX8_copy_161 : decode cX8_copy 161 = .ok (.if_icmp .ge 31, 3) := by decide +kernel
theorem dX8_copy_164 : decode cX8_copy 164 = .ok (.aload_n 0, 1) := by decide +kernel
theorem dX8_copy_165 : decode cX8_copy 165 = .ok (.getfield 86, 3) := by decide +kernel
theorem dX8_copy_168 : decode cX8_copy 168 = .ok (.bipush 60, 2) := by decide +kernel
theorem dX8_copy_170 : decode cX8_copy 170 = .ok (.iload_n 3, 1) := by decide +kernel
theorem dX8_copy_171 : decode cX8_copy 171 = .ok (.imul, 1) := by decide +kernel
theorem dX8_copy_172 : decode cX8_copy 172 = .ok (.iload 4, 2) := by decide +kernel
theorem dX8_copy_174 : decode cX8_copy 174 = .ok (.iadd, 1) := by decide +kernel
theorem dX8_copy_175 : decode cX8_copy 175 = .ok (.iload 6, 2) := by decide +kernel
theorem dX8_copy_177 : decode cX8_copy 177 = .ok (.iadd, 1) := by decide +kernel
theorem dX8_copy_178 : decode cX8_copy 178 = .ok (.aload_n 0, 1) := by decide +kernel
theorem dX8_copy_179 : decode cX8_copy 179 = .ok (.getfield 89, 3) := by decide +kernel
theorem dX8_copy_182 : decode cX8_copy 182 = .ok (.iload 6, 2) := by decide +kernel
theorem dX8_copy_184 : decode cX8_copy 184 = .ok (.iaload, 1) := by decide +kernel
theorem dX8_copy_185 : decode cX8_copy 185 = .ok (.iastore, 1) := by decide +kernel
theorem dX8_copy_186 : decode cX8_copy 186 = .ok (.iinc 6 1, 3) := by decide +kernel
theorem dX8_copy_189 : decode cX8_copy 189 = .ok (.goto (-32), 3) := by decide +kernel
theorem dX8_copy_192 : decode cX8_copy 192 = .ok (.iconst 1, 1) := by decide +kernel
theorem dX8_copy_193 : decode cX8_copy 193 = .ok (.ireturn, 1) := by decide +kernel
theorem dX8_write_0 : decode cX8_write 0 = .ok (.iload_n 1, 1) := by decide +kernel
theorem dX8_write_1 : decode cX8_write 1 = .ok (.invokestatic 152, 3) := by decide +kernel
theorem dX8_write_4 : decode cX8_write 4 = .ok (.ifCond .ne 6, 3) := by decide +kernel
theorem dX8_write_7 : decode cX8_write 7 = .ok (.bipush (-2), 2) := by decide +kernel
theorem dX8_write_9 : decode cX8_write 9 = .ok (.ireturn, 1) := by decide +kernel
theorem dX8_write_10 : decode cX8_write 10 = .ok (.aload_n 0, 1) := by decide +kernel
theorem dX8_write_11 : decode cX8_write 11 = .ok (.getfield 76, 3) := by decide +kernel
theorem dX8_write_14 : decode cX8_write 14 = .ok (.iload_n 1, 1) := by decide +kernel
theorem dX8_write_15 : decode cX8_write 15 = .ok (.baload, 1) := by decide +kernel
theorem dX8_write_16 : decode cX8_write 16 = .ok (.ifCond .ne 9, 3) := by decide +kernel
theorem dX8_write_19 : decode cX8_write 19 = .ok (.aload_n 0, 1) := by decide +kernel
theorem dX8_write_20 : decode cX8_write 20 = .ok (.iconst 1, 1) := by decide +kernel
theorem dX8_write_21 : decode cX8_write 21 = .ok (.invokevirtual 155, 3) := by decide +kernel
theorem dX8_write_24 : decode cX8_write 24 = .ok (.ireturn, 1) := by decide +kernel
theorem dX8_write_25 : decode cX8_write 25 = .ok (.aload_n 0, 1) := by decide +kernel
theorem dX8_write_26 : decode cX8_write 26 = .ok (.invokevirtual 219, 3) := by decide +kernel
theorem dX8_write_29 : decode cX8_write 29 = .ok (.iconst 0, 1) := by decide +kernel
theorem dX8_write_30 : decode cX8_write 30 = .ok (.istore_n 2, 1) := by decide +kernel
theorem dX8_write_31 : decode cX8_write 31 = .ok (.iload_n 2, 1) := by decide +kernel
theorem dX8_write_32 : decode cX8_write 32 = .ok (.aload_n 0, 1) := by decide +kernel
theorem dX8_write_33 : decode cX8_write 33 = .ok (.getfield 83, 3) := by decide +kernel
theorem dX8_write_36 : decode cX8_write 36 = .ok (.iload_n 1, 1) := by decide +kernel
theorem dX8_write_37 : decode cX8_write 37 = .ok (.iaload, 1) := by decide +kernel
theorem dX8_write_38 : decode cX8_write 38 = .ok (.if_icmp .ge 27, 3) := by decide +kernel
theorem dX8_write_41 : decode cX8_write 41 = .ok (.iload_n 2, 1) := by decide +kernel
theorem dX8_write_42 : decode cX8_write 42 = .ok (.bipush 40, 2) := by decide +kernel
theorem dX8_write_44 : decode cX8_write 44 = .ok (.if_icmp .ge 21, 3) := by decide +kernel
theorem dX8_write_47 : decode cX8_write 47 = .ok (.aload_n 0, 1) := by decide +kernel
theorem dX8_write_48 : decode cX8_write 48 = .ok (.iload_n 1, 1) := by decide +kernel
theorem dX8_write_49 : decode cX8_write 49 = .ok (.iload_n 2, 1) := by decide +kernel
theorem dX8_write_50 : decode cX8_write 50 = .ok (.aload_n 0, 1) := by decide +kernel
theorem dX8_write_51 : decode cX8_write 51 = .ok (.getfield 46, 3) := by decide +kernel
theorem dX8_write_54 : decode cX8_write 54 = .ok (.iload_n 2, 1) := by decide +kernel
theorem dX8_write_55 : decode cX8_write 55 = .ok (.iaload, 1) := by decide +kernel
theorem dX8_write_56 : decode cX8_write 56 = .ok (.invokevirtual 306, 3) := by decide +kernel
theorem dX8_write_59 : decode cX8_write 59 = .ok (.iinc 2 1, 3) := by decide +kernel
theorem dX8_write_62 : decode cX8_write 62 = .ok (.goto (-31), 3) := by decide +kernel
theorem dX8_write_65 : decode cX8_write 65 = .ok (.iload_n 2, 1) := by decide +kernel
theorem dX8_write_66 : decode cX8_write 66 = .ok (.ireturn, 1) := by decide +kernel
theorem dX8_sumOf_0 : decode cX8_sumOf 0 = .ok (.aload_n 0, 1) := by decide +kernel
theorem dX8_sumOf_1 : decode cX8_sumOf 1 = .ok (.invokevirtual 219, 3) := by decide +kernel
theorem dX8_sumOf_4 : decode cX8_sumOf 4 = .ok (.iload_n 1, 1) := by decide +kernel
theorem dX8_sumOf_5 : decode cX8_sumOf 5 = .ok (.ifCond .ne 10, 3) := by decide +kernel
theorem dX8_sumOf_8 : decode cX8_sumOf 8 = .ok (.aload_n 0, 1) := by decide +kernel
theorem dX8_sumOf_9 : decode cX8_sumOf 9 = .ok (.getfield 102, 3) := by decide +kernel
theorem dX8_sumOf_12 : decode cX8_sumOf 12 = .ok (.goto 19, 3) := by decide +kernel
theorem dX8_sumOf_15 : decode cX8_sumOf 15 = .ok (.iload_n 1, 1) := by decide +kernel
theorem dX8_sumOf_16 : decode cX8_sumOf 16 = .ok (.iconst 1, 1) := by decide +kernel
theorem dX8_sumOf_17 : decode cX8_sumOf 17 = .ok (.if_icmp .ne 10, 3) := by decide +kernel
theorem dX8_sumOf_20 : decode cX8_sumOf 20 = .ok (.aload_n 0, 1) := by decide +kernel
theorem dX8_sumOf_21 : decode cX8_sumOf 21 = .ok (.getfield 114, 3) := by decide +kernel
theorem dX8_sumOf_24 : decode cX8_sumOf 24 = .ok (.goto 7, 3) := by decide +kernel
theorem dX8_sumOf_27 : decode cX8_sumOf 27 = .ok (.aload_n 0, 1) := by decide +kernel
theorem dX8_sumOf_28 : decode cX8_sumOf 28 = .ok (.getfield 194, 3) := by decide +kernel
theorem dX8_sumOf_31 : decode cX8_sumOf 31 = .ok (.ireturn, 1) := by decide +kernel
theorem dX8_count_0 : decode cX8_count 0 = .ok (.iload_n 1, 1) := by decide +kernel
theorem dX8_count_1 : decode cX8_count 1 = .ok (.tableswitch 86 0 8 #[51, 51, 57, 57, 66, 71, 51, 76, 81], 51) := by decide +kernel
theorem dX8_count_52 : decode cX8_count 52 = .ok (.aload_n 0, 1) := by decide +kernel
theorem dX8_count_53 : decode cX8_count 53 = .ok (.iload_n 1, 1) := by decide +kernel
theorem dX8_count_54 : decode cX8_count 54 = .ok (.invokevirtual 311, 3) := by decide +kernel
theorem dX8_count_57 : decode cX8_count 57 = .ok (.ireturn, 1) := by decide +kernel
theorem dX8_count_58 : decode cX8_count 58 = .ok (.aload_n 0, 1) := by decide +kernel
theorem dX8_count_59 : decode cX8_count 59 = .ok (.getfield 7, 3) := by decide +kernel
theorem dX8_count_62 : decode cX8_count 62 = .ok (.iload_n 1, 1) := by decide +kernel
theorem dX8_count_63 : decode cX8_count 63 = .ok (.iconst 2, 1) := by decide +kernel
theorem dX8_count_64 : decode cX8_count 64 = .ok (.isub, 1) := by decide +kernel
theorem dX8_count_65 : decode cX8_count 65 = .ok (.iaload, 1) := by decide +kernel
theorem dX8_count_66 : decode cX8_count 66 = .ok (.ireturn, 1) := by decide +kernel
theorem dX8_count_67 : decode cX8_count 67 = .ok (.aload_n 0, 1) := by decide +kernel
theorem dX8_count_68 : decode cX8_count 68 = .ok (.getfield 146, 3) := by decide +kernel
theorem dX8_count_71 : decode cX8_count 71 = .ok (.ireturn, 1) := by decide +kernel
theorem dX8_count_72 : decode cX8_count 72 = .ok (.aload_n 0, 1) := by decide +kernel
theorem dX8_count_73 : decode cX8_count 73 = .ok (.getfield 149, 3) := by decide +kernel
theorem dX8_count_76 : decode cX8_count 76 = .ok (.ireturn, 1) := by decide +kernel
theorem dX8_count_77 : decode cX8_count 77 = .ok (.aload_n 0, 1) := by decide +kernel
theorem dX8_count_78 : decode cX8_count 78 = .ok (.getfield 265, 3) := by decide +kernel
theorem dX8_count_81 : decode cX8_count 81 = .ok (.ireturn, 1) := by decide +kernel
theorem dX8_count_82 : decode cX8_count 82 = .ok (.aload_n 0, 1) := by decide +kernel
theorem dX8_count_83 : decode cX8_count 83 = .ok (.getfield 300, 3) := by decide +kernel
theorem dX8_count_86 : decode cX8_count 86 = .ok (.ireturn, 1) := by decide +kernel
theorem dX8_count_87 : decode cX8_count 87 = .ok (.bipush (-2), 2) := by decide +kernel
theorem dX8_count_89 : decode cX8_count 89 = .ok (.ireturn, 1) := by decide +kernel
theorem dX8_orderDigest_0 : decode cX8_orderDigest 0 = .ok (.lload_n 1, 1) := by decide +kernel
theorem dX8_orderDigest_1 : decode cX8_orderDigest 1 = .ok (.lstore 4, 2) := by decide +kernel
theorem dX8_orderDigest_3 : decode cX8_orderDigest 3 = .ok (.iconst 0, 1) := by decide +kernel
theorem dX8_orderDigest_4 : decode cX8_orderDigest 4 = .ok (.istore 6, 2) := by decide +kernel
theorem dX8_orderDigest_6 : decode cX8_orderDigest 6 = .ok (.iload 6, 2) := by decide +kernel
theorem dX8_orderDigest_8 : decode cX8_orderDigest 8 = .ok (.iconst 4, 1) := by decide +kernel
theorem dX8_orderDigest_9 : decode cX8_orderDigest 9 = .ok (.if_icmp .ge 26, 3) := by decide +kernel
theorem dX8_orderDigest_12 : decode cX8_orderDigest 12 = .ok (.ldc2_w 314, 3) := by decide +kernel
theorem dX8_orderDigest_15 : decode cX8_orderDigest 15 = .ok (.lload 4, 2) := by decide +kernel
theorem dX8_orderDigest_17 : decode cX8_orderDigest 17 = .ok (.lmul, 1) := by decide +kernel
theorem dX8_orderDigest_18 : decode cX8_orderDigest 18 = .ok (.aload_n 0, 1) := by decide +kernel
theorem dX8_orderDigest_19 : decode cX8_orderDigest 19 = .ok (.iload_n 3, 1) := by decide +kernel
theorem dX8_orderDigest_20 : decode cX8_orderDigest 20 = .ok (.iload 6, 2) := by decide +kernel
theorem dX8_orderDigest_22 : decode cX8_orderDigest 22 = .ok (.invokevirtual 143, 3) := by decide +kernel
theorem dX8_orderDigest_25 : decode cX8_orderDigest 25 = .ok (.i2l, 1) := by decide +kernel
theorem dX8_orderDigest_26 : decode cX8_orderDigest 26 = .ok (.ladd, 1) := by decide +kernel
theorem dX8_orderDigest_27 : decode cX8_orderDigest 27 = .ok (.lstore 4, 2) := by decide +kernel
theorem dX8_orderDigest_29 : decode cX8_orderDigest 29 = .ok (.iinc 6 1, 3) := by decide +kernel
theorem dX8_orderDigest_32 : decode cX8_orderDigest 32 = .ok (.goto (-26), 3) := by decide +kernel
theorem dX8_orderDigest_35 : decode cX8_orderDigest 35 = .ok (.ldc2_w 314, 3) := by decide +kernel
theorem dX8_orderDigest_38 : decode cX8_orderDigest 38 = .ok (.lload 4, 2) := by decide +kernel
theorem dX8_orderDigest_40 : decode cX8_orderDigest 40 = .ok (.lmul, 1) := by decide +kernel
theorem dX8_orderDigest_41 : decode cX8_orderDigest 41 = .ok (.aload_n 0, 1) := by decide +kernel
theorem dX8_orderDigest_42 : decode cX8_orderDigest 42 = .ok (.iload_n 3, 1) := by decide +kernel
theorem dX8_orderDigest_43 : decode cX8_orderDigest 43 = .ok (.invokevirtual 225, 3) := by decide +kernel
theorem dX8_orderDigest_46 : decode cX8_orderDigest 46 = .ok (.i2l, 1) := by decide +kernel
theorem dX8_orderDigest_47 : decode cX8_orderDigest 47 = .ok (.ladd, 1) := by decide +kernel
theorem dX8_orderDigest_48 : decode cX8_orderDigest 48 = .ok (.lstore 4, 2) := by decide +kernel
theorem dX8_orderDigest_50 : decode cX8_orderDigest 50 = .ok (.ldc2_w 314, 3) := by decide +kernel
theorem dX8_orderDigest_53 : decode cX8_orderDigest 53 = .ok (.lload 4, 2) := by decide +kernel
theorem dX8_orderDigest_55 : decode cX8_orderDigest 55 = .ok (.lmul, 1) := by decide +kernel
theorem dX8_orderDigest_56 : decode cX8_orderDigest 56 = .ok (.aload_n 0, 1) := by decide +kernel
theorem dX8_orderDigest_57 : decode cX8_orderDigest 57 = .ok (.iconst 5, 1) := by decide +kernel
theorem dX8_orderDigest_58 : decode cX8_orderDigest 58 = .ok (.iload_n 3, 1) := by decide +kernel
theorem dX8_orderDigest_59 : decode cX8_orderDigest 59 = .ok (.iconst 0, 1) := by decide +kernel
theorem dX8_orderDigest_60 : decode cX8_orderDigest 60 = .ok (.invokevirtual 287, 3) := by decide +kernel
theorem dX8_orderDigest_63 : decode cX8_orderDigest 63 = .ok (.ladd, 1) := by decide +kernel
theorem dX8_orderDigest_64 : decode cX8_orderDigest 64 = .ok (.lstore 4, 2) := by decide +kernel
theorem dX8_orderDigest_66 : decode cX8_orderDigest 66 = .ok (.ldc2_w 314, 3) := by decide +kernel
theorem dX8_orderDigest_69 : decode cX8_orderDigest 69 = .ok (.lload 4, 2) := by decide +kernel
theorem dX8_orderDigest_71 : decode cX8_orderDigest 71 = .ok (.lmul, 1) := by decide +kernel
theorem dX8_orderDigest_72 : decode cX8_orderDigest 72 = .ok (.aload_n 0, 1) := by decide +kernel
theorem dX8_orderDigest_73 : decode cX8_orderDigest 73 = .ok (.iconst 5, 1) := by decide +kernel
theorem dX8_orderDigest_74 : decode cX8_orderDigest 74 = .ok (.iload_n 3, 1) := by decide +kernel
theorem dX8_orderDigest_75 : decode cX8_orderDigest 75 = .ok (.iconst 1, 1) := by decide +kernel
theorem dX8_orderDigest_76 : decode cX8_orderDigest 76 = .ok (.invokevirtual 287, 3) := by decide +kernel
theorem dX8_orderDigest_79 : decode cX8_orderDigest 79 = .ok (.ladd, 1) := by decide +kernel
theorem dX8_orderDigest_80 : decode cX8_orderDigest 80 = .ok (.lreturn, 1) := by decide +kernel
theorem dX8_digest_0 : decode cX8_digest 0 = .ok (.ldc2_w 316, 3) := by decide +kernel
theorem dX8_digest_3 : decode cX8_digest 3 = .ok (.lstore_n 1, 1) := by decide +kernel
theorem dX8_digest_4 : decode cX8_digest 4 = .ok (.iconst 0, 1) := by decide +kernel
theorem dX8_digest_5 : decode cX8_digest 5 = .ok (.istore_n 3, 1) := by decide +kernel
theorem dX8_digest_6 : decode cX8_digest 6 = .ok (.iload_n 3, 1) := by decide +kernel
theorem dX8_digest_7 : decode cX8_digest 7 = .ok (.bipush 8, 2) := by decide +kernel
theorem dX8_digest_9 : decode cX8_digest 9 = .ok (.if_icmp .ge 22, 3) := by decide +kernel
theorem dX8_digest_12 : decode cX8_digest 12 = .ok (.ldc2_w 314, 3) := by decide +kernel
theorem dX8_digest_15 : decode cX8_digest 15 = .ok (.lload_n 1, 1) := by decide +kernel
theorem dX8_digest_16 : decode cX8_digest 16 = .ok (.lmul, 1) := by decide +kernel
theorem dX8_digest_17 : decode cX8_digest 17 = .ok (.aload_n 0, 1) := by decide +kernel
theorem dX8_digest_18 : decode cX8_digest 18 = .ok (.iload_n 3, 1) := by decide +kernel
theorem dX8_digest_19 : decode cX8_digest 19 = .ok (.invokevirtual 318, 3) := by decide +kernel
theorem dX8_digest_22 : decode cX8_digest 22 = .ok (.i2l, 1) := by decide +kernel
theorem dX8_digest_23 : decode cX8_digest 23 = .ok (.ladd, 1) := by decide +kernel
theorem dX8_digest_24 : decode cX8_digest 24 = .ok (.lstore_n 1, 1) := by decide +kernel
theorem dX8_digest_25 : decode cX8_digest 25 = .ok (.iinc 3 1, 3) := by decide +kernel
theorem dX8_digest_28 : decode cX8_digest 28 = .ok (.goto (-22), 3) := by decide +kernel
theorem dX8_digest_31 : decode cX8_digest 31 = .ok (.ldc2_w 314, 3) := by decide +kernel
theorem dX8_digest_34 : decode cX8_digest 34 = .ok (.lload_n 1, 1) := by decide +kernel
theorem dX8_digest_35 : decode cX8_digest 35 = .ok (.lmul, 1) := by decide +kernel
theorem dX8_digest_36 : decode cX8_digest 36 = .ok (.aload_n 0, 1) := by decide +kernel
theorem dX8_digest_37 : decode cX8_digest 37 = .ok (.iconst 0, 1) := by decide +kernel
theorem dX8_digest_38 : decode cX8_digest 38 = .ok (.invokevirtual 128, 3) := by decide +kernel
theorem dX8_digest_41 : decode cX8_digest 41 = .ok (.i2l, 1) := by decide +kernel
theorem dX8_digest_42 : decode cX8_digest 42 = .ok (.ladd, 1) := by decide +kernel
theorem dX8_digest_43 : decode cX8_digest 43 = .ok (.lstore_n 1, 1) := by decide +kernel
theorem dX8_digest_44 : decode cX8_digest 44 = .ok (.ldc2_w 314, 3) := by decide +kernel
theorem dX8_digest_47 : decode cX8_digest 47 = .ok (.lload_n 1, 1) := by decide +kernel
theorem dX8_digest_48 : decode cX8_digest 48 = .ok (.lmul, 1) := by decide +kernel
theorem dX8_digest_49 : decode cX8_digest 49 = .ok (.aload_n 0, 1) := by decide +kernel
theorem dX8_digest_50 : decode cX8_digest 50 = .ok (.iconst 1, 1) := by decide +kernel
theorem dX8_digest_51 : decode cX8_digest 51 = .ok (.invokevirtual 128, 3) := by decide +kernel
theorem dX8_digest_54 : decode cX8_digest 54 = .ok (.i2l, 1) := by decide +kernel
theorem dX8_digest_55 : decode cX8_digest 55 = .ok (.ladd, 1) := by decide +kernel
theorem dX8_digest_56 : decode cX8_digest 56 = .ok (.lstore_n 1, 1) := by decide +kernel
theorem dX8_digest_57 : decode cX8_digest 57 = .ok (.iconst 0, 1) := by decide +kernel
theorem dX8_digest_58 : decode cX8_digest 58 = .ok (.istore_n 3, 1) := by decide +kernel
theorem dX8_digest_59 : decode cX8_digest 59 = .ok (.iload_n 3, 1) := by decide +kernel
theorem dX8_digest_60 : decode cX8_digest 60 = .ok (.bipush 40, 2) := by decide +kernel
theorem dX8_digest_62 : decode cX8_digest 62 = .ok (.if_icmp .ge 52, 3) := by decide +kernel
theorem dX8_digest_65 : decode cX8_digest 65 = .ok (.ldc2_w 314, 3) := by decide +kernel
theorem dX8_digest_68 : decode cX8_digest 68 = .ok (.lload_n 1, 1) := by decide +kernel
theorem dX8_digest_69 : decode cX8_digest 69 = .ok (.lmul, 1) := by decide +kernel
theorem dX8_digest_70 : decode cX8_digest 70 = .ok (.aload_n 0, 1) := by decide +kernel
theorem dX8_digest_71 : decode cX8_digest 71 = .ok (.iload_n 3, 1) := by decide +kernel
theorem dX8_digest_72 : decode cX8_digest 72 = .ok (.invokevirtual 137, 3) := by decide +kernel
theorem dX8_digest_75 : decode cX8_digest 75 = .ok (.i2l, 1) := by decide +kernel
theorem dX8_digest_76 : decode cX8_digest 76 = .ok (.ladd, 1) := by decide +kernel
theorem dX8_digest_77 : decode cX8_digest 77 = .ok (.lstore_n 1, 1) := by decide +kernel
theorem dX8_digest_78 : decode cX8_digest 78 = .ok (.iconst 0, 1) := by decide +kernel
theorem dX8_digest_79 : decode cX8_digest 79 = .ok (.istore 4, 2) := by decide +kernel
theorem dX8_digest_81 : decode cX8_digest 81 = .ok (.iload 4, 2) := by decide +kernel
theorem dX8_digest_83 : decode cX8_digest 83 = .ok (.iconst 5, 1) := by decide +kernel
theorem dX8_digest_84 : decode cX8_digest 84 = .ok (.if_icmp .ge 24, 3) := by decide +kernel
theorem dX8_digest_87 : decode cX8_digest 87 = .ok (.ldc2_w 314, 3) := by decide +kernel
theorem dX8_digest_90 : decode cX8_digest 90 = .ok (.lload_n 1, 1) := by decide +kernel
theorem dX8_digest_91 : decode cX8_digest 91 = .ok (.lmul, 1) := by decide +kernel
theorem dX8_digest_92 : decode cX8_digest 92 = .ok (.aload_n 0, 1) := by decide +kernel
theorem dX8_digest_93 : decode cX8_digest 93 = .ok (.iload_n 3, 1) := by decide +kernel
theorem dX8_digest_94 : decode cX8_digest 94 = .ok (.iload 4, 2) := by decide +kernel
theorem dX8_digest_96 : decode cX8_digest 96 = .ok (.invokevirtual 222, 3) := by decide +kernel
theorem dX8_digest_99 : decode cX8_digest 99 = .ok (.i2l, 1) := by decide +kernel
theorem dX8_digest_100 : decode cX8_digest 100 = .ok (.ladd, 1) := by decide +kernel
theorem dX8_digest_101 : decode cX8_digest 101 = .ok (.lstore_n 1, 1) := by decide +kernel
theorem dX8_digest_102 : decode cX8_digest 102 = .ok (.iinc 4 1, 3) := by decide +kernel
theorem dX8_digest_105 : decode cX8_digest 105 = .ok (.goto (-24), 3) := by decide +kernel
theorem dX8_digest_108 : decode cX8_digest 108 = .ok (.iinc 3 1, 3) := by decide +kernel
theorem dX8_digest_111 : decode cX8_digest 111 = .ok (.goto (-52), 3) := by decide +kernel
theorem dX8_digest_114 : decode cX8_digest 114 = .ok (.iconst 0, 1) := by decide +kernel
theorem dX8_digest_115 : decode cX8_digest 115 = .ok (.istore_n 3, 1) := by decide +kernel
theorem dX8_digest_116 : decode cX8_digest 116 = .ok (.iload_n 3, 1) := by decide +kernel
theorem dX8_digest_117 : decode cX8_digest 117 = .ok (.aload_n 0, 1) := by decide +kernel
theorem dX8_digest_118 : decode cX8_digest 118 = .ok (.getfield 114, 3) := by decide +kernel
theorem dX8_digest_121 : decode cX8_digest 121 = .ok (.if_icmp .ge 16, 3) := by decide +kernel
theorem dX8_digest_124 : decode cX8_digest 124 = .ok (.aload_n 0, 1) := by decide +kernel
theorem dX8_digest_125 : decode cX8_digest 125 = .ok (.lload_n 1, 1) := by decide +kernel
theorem dX8_digest_126 : decode cX8_digest 126 = .ok (.iload_n 3, 1) := by decide +kernel
theorem dX8_digest_127 : decode cX8_digest 127 = .ok (.invokevirtual 321, 3) := by decide +kernel
theorem dX8_digest_130 : decode cX8_digest 130 = .ok (.lstore_n 1, 1) := by decide +kernel
theorem dX8_digest_131 : decode cX8_digest 131 = .ok (.iinc 3 1, 3) := by decide +kernel
theorem dX8_digest_134 : decode cX8_digest 134 = .ok (.goto (-18), 3) := by decide +kernel
theorem dX8_digest_137 : decode cX8_digest 137 = .ok (.ldc2_w 314, 3) := by decide +kernel
theorem dX8_digest_140 : decode cX8_digest 140 = .ok (.lload_n 1, 1) := by decide +kernel
theorem dX8_digest_141 : decode cX8_digest 141 = .ok (.lmul, 1) := by decide +kernel
theorem dX8_digest_142 : decode cX8_digest 142 = .ok (.aload_n 0, 1) := by decide +kernel
theorem dX8_digest_143 : decode cX8_digest 143 = .ok (.invokevirtual 234, 3) := by decide +kernel
theorem dX8_digest_146 : decode cX8_digest 146 = .ok (.i2l, 1) := by decide +kernel
theorem dX8_digest_147 : decode cX8_digest 147 = .ok (.ladd, 1) := by decide +kernel
theorem dX8_digest_148 : decode cX8_digest 148 = .ok (.lstore_n 1, 1) := by decide +kernel
theorem dX8_digest_149 : decode cX8_digest 149 = .ok (.ldc2_w 314, 3) := by decide +kernel
theorem dX8_digest_152 : decode cX8_digest 152 = .ok (.lload_n 1, 1) := by decide +kernel
theorem dX8_digest_153 : decode cX8_digest 153 = .ok (.lmul, 1) := by decide +kernel
theorem dX8_digest_154 : decode cX8_digest 154 = .ok (.aload_n 0, 1) := by decide +kernel
theorem dX8_digest_155 : decode cX8_digest 155 = .ok (.invokevirtual 237, 3) := by decide +kernel
theorem dX8_digest_158 : decode cX8_digest 158 = .ok (.i2l, 1) := by decide +kernel
theorem dX8_digest_159 : decode cX8_digest 159 = .ok (.ladd, 1) := by decide +kernel
theorem dX8_digest_160 : decode cX8_digest 160 = .ok (.lstore_n 1, 1) := by decide +kernel
theorem dX8_digest_161 : decode cX8_digest 161 = .ok (.ldc2_w 314, 3) := by decide +kernel
theorem dX8_digest_164 : decode cX8_digest 164 = .ok (.lload_n 1, 1) := by decide +kernel
theorem dX8_digest_165 : decode cX8_digest 165 = .ok (.lmul, 1) := by decide +kernel
theorem dX8_digest_166 : decode cX8_digest 166 = .ok (.aload_n 0, 1) := by decide +kernel
theorem dX8_digest_167 : decode cX8_digest 167 = .ok (.invokevirtual 240, 3) := by decide +kernel
theorem dX8_digest_170 : decode cX8_digest 170 = .ok (.i2l, 1) := by decide +kernel
theorem dX8_digest_171 : decode cX8_digest 171 = .ok (.ladd, 1) := by decide +kernel
theorem dX8_digest_172 : decode cX8_digest 172 = .ok (.lstore_n 1, 1) := by decide +kernel
theorem dX8_digest_173 : decode cX8_digest 173 = .ok (.ldc2_w 314, 3) := by decide +kernel
theorem dX8_digest_176 : decode cX8_digest 176 = .ok (.lload_n 1, 1) := by decide +kernel
theorem dX8_digest_177 : decode cX8_digest 177 = .ok (.lmul, 1) := by decide +kernel
theorem dX8_digest_178 : decode cX8_digest 178 = .ok (.aload_n 0, 1) := by decide +kernel
theorem dX8_digest_179 : decode cX8_digest 179 = .ok (.invokevirtual 243, 3) := by decide +kernel
theorem dX8_digest_182 : decode cX8_digest 182 = .ok (.i2l, 1) := by decide +kernel
theorem dX8_digest_183 : decode cX8_digest 183 = .ok (.ladd, 1) := by decide +kernel
theorem dX8_digest_184 : decode cX8_digest 184 = .ok (.lstore_n 1, 1) := by decide +kernel
theorem dX8_digest_185 : decode cX8_digest 185 = .ok (.aload_n 0, 1) := by decide +kernel
theorem dX8_digest_186 : decode cX8_digest 186 = .ok (.invokevirtual 250, 3) := by decide +kernel
theorem dX8_digest_189 : decode cX8_digest 189 = .ok (.istore_n 3, 1) := by decide +kernel
theorem dX8_digest_190 : decode cX8_digest 190 = .ok (.ldc2_w 314, 3) := by decide +kernel
theorem dX8_digest_193 : decode cX8_digest 193 = .ok (.lload_n 1, 1) := by decide +kernel
theorem dX8_digest_194 : decode cX8_digest 194 = .ok (.lmul, 1) := by decide +kernel
theorem dX8_digest_195 : decode cX8_digest 195 = .ok (.iload_n 3, 1) := by decide +kernel
theorem dX8_digest_196 : decode cX8_digest 196 = .ok (.i2l, 1) := by decide +kernel
theorem dX8_digest_197 : decode cX8_digest 197 = .ok (.ladd, 1) := by decide +kernel
theorem dX8_digest_198 : decode cX8_digest 198 = .ok (.lstore_n 1, 1) := by decide +kernel
theorem dX8_digest_199 : decode cX8_digest 199 = .ok (.iconst 0, 1) := by decide +kernel
theorem dX8_digest_200 : decode cX8_digest 200 = .ok (.istore 4, 2) := by decide +kernel
theorem dX8_digest_202 : decode cX8_digest 202 = .ok (.iload 4, 2) := by decide +kernel
theorem dX8_digest_204 : decode cX8_digest 204 = .ok (.iconst 3, 1) := by decide +kernel
theorem dX8_digest_205 : decode cX8_digest 205 = .ok (.if_icmp .ge 37, 3) := by decide +kernel
theorem dX8_digest_208 : decode cX8_digest 208 = .ok (.ldc2_w 314, 3) := by decide +kernel
theorem dX8_digest_211 : decode cX8_digest 211 = .ok (.lload_n 1, 1) := by decide +kernel
theorem dX8_digest_212 : decode cX8_digest 212 = .ok (.lmul, 1) := by decide +kernel
theorem dX8_digest_213 : decode cX8_digest 213 = .ok (.iload 4, 2) := by decide +kernel
theorem dX8_digest_215 : decode cX8_digest 215 = .ok (.aload_n 0, 1) := by decide +kernel
theorem dX8_digest_216 : decode cX8_digest 216 = .ok (.getfield 114, 3) := by decide +kernel
theorem dX8_digest_219 : decode cX8_digest 219 = .ok (.if_icmp .ge 13, 3) := by decide +kernel
theorem dX8_digest_222 : decode cX8_digest 222 = .ok (.aload_n 0, 1) := by decide +kernel
theorem dX8_digest_223 : decode cX8_digest 223 = .ok (.getfield 64, 3) := by decide +kernel
theorem dX8_digest_226 : decode cX8_digest 226 = .ok (.iload 4, 2) := by decide +kernel
theorem dX8_digest_228 : decode cX8_digest 228 = .ok (.iaload, 1) := by decide +kernel
theorem dX8_digest_229 : decode cX8_digest 229 = .ok (.goto 4, 3) := by decide +kernel
theorem dX8_digest_232 : decode cX8_digest 232 = .ok (.iconst (-1), 1) := by decide +kernel
theorem dX8_digest_233 : decode cX8_digest 233 = .ok (.i2l, 1) := by decide +kernel
theorem dX8_digest_234 : decode cX8_digest 234 = .ok (.ladd, 1) := by decide +kernel
theorem dX8_digest_235 : decode cX8_digest 235 = .ok (.lstore_n 1, 1) := by decide +kernel
theorem dX8_digest_236 : decode cX8_digest 236 = .ok (.iinc 4 1, 3) := by decide +kernel
theorem dX8_digest_239 : decode cX8_digest 239 = .ok (.goto (-37), 3) := by decide +kernel
theorem dX8_digest_242 : decode cX8_digest 242 = .ok (.ldc2_w 314, 3) := by decide +kernel
theorem dX8_digest_245 : decode cX8_digest 245 = .ok (.lload_n 1, 1) := by decide +kernel
theorem dX8_digest_246 : decode cX8_digest 246 = .ok (.lmul, 1) := by decide +kernel
theorem dX8_digest_247 : decode cX8_digest 247 = .ok (.aload_n 0, 1) := by decide +kernel
theorem dX8_digest_248 : decode cX8_digest 248 = .ok (.iconst 0, 1) := by decide +kernel
theorem dX8_digest_249 : decode cX8_digest 249 = .ok (.invokevirtual 256, 3) := by decide +kernel
theorem dX8_digest_252 : decode cX8_digest 252 = .ok (.i2l, 1) := by decide +kernel
theorem dX8_digest_253 : decode cX8_digest 253 = .ok (.ladd, 1) := by decide +kernel
theorem dX8_digest_254 : decode cX8_digest 254 = .ok (.lstore_n 1, 1) := by decide +kernel
theorem dX8_digest_255 : decode cX8_digest 255 = .ok (.ldc2_w 314, 3) := by decide +kernel
theorem dX8_digest_258 : decode cX8_digest 258 = .ok (.lload_n 1, 1) := by decide +kernel
theorem dX8_digest_259 : decode cX8_digest 259 = .ok (.lmul, 1) := by decide +kernel
theorem dX8_digest_260 : decode cX8_digest 260 = .ok (.aload_n 0, 1) := by decide +kernel
theorem dX8_digest_261 : decode cX8_digest 261 = .ok (.iconst 1, 1) := by decide +kernel
theorem dX8_digest_262 : decode cX8_digest 262 = .ok (.invokevirtual 256, 3) := by decide +kernel
theorem dX8_digest_265 : decode cX8_digest 265 = .ok (.i2l, 1) := by decide +kernel
theorem dX8_digest_266 : decode cX8_digest 266 = .ok (.ladd, 1) := by decide +kernel
theorem dX8_digest_267 : decode cX8_digest 267 = .ok (.lstore_n 1, 1) := by decide +kernel
theorem dX8_digest_268 : decode cX8_digest 268 = .ok (.ldc2_w 314, 3) := by decide +kernel
theorem dX8_digest_271 : decode cX8_digest 271 = .ok (.lload_n 1, 1) := by decide +kernel
theorem dX8_digest_272 : decode cX8_digest 272 = .ok (.lmul, 1) := by decide +kernel
theorem dX8_digest_273 : decode cX8_digest 273 = .ok (.aload_n 0, 1) := by decide +kernel
theorem dX8_digest_274 : decode cX8_digest 274 = .ok (.invokevirtual 259, 3) := by decide +kernel
theorem dX8_digest_277 : decode cX8_digest 277 = .ok (.i2l, 1) := by decide +kernel
theorem dX8_digest_278 : decode cX8_digest 278 = .ok (.ladd, 1) := by decide +kernel
theorem dX8_digest_279 : decode cX8_digest 279 = .ok (.lstore_n 1, 1) := by decide +kernel
theorem dX8_digest_280 : decode cX8_digest 280 = .ok (.ldc2_w 314, 3) := by decide +kernel
theorem dX8_digest_283 : decode cX8_digest 283 = .ok (.lload_n 1, 1) := by decide +kernel
theorem dX8_digest_284 : decode cX8_digest 284 = .ok (.lmul, 1) := by decide +kernel
theorem dX8_digest_285 : decode cX8_digest 285 = .ok (.aload_n 0, 1) := by decide +kernel
theorem dX8_digest_286 : decode cX8_digest 286 = .ok (.iconst 0, 1) := by decide +kernel
theorem dX8_digest_287 : decode cX8_digest 287 = .ok (.invokevirtual 262, 3) := by decide +kernel
theorem dX8_digest_290 : decode cX8_digest 290 = .ok (.i2l, 1) := by decide +kernel
theorem dX8_digest_291 : decode cX8_digest 291 = .ok (.ladd, 1) := by decide +kernel
theorem dX8_digest_292 : decode cX8_digest 292 = .ok (.lstore_n 1, 1) := by decide +kernel
theorem dX8_digest_293 : decode cX8_digest 293 = .ok (.ldc2_w 314, 3) := by decide +kernel
theorem dX8_digest_296 : decode cX8_digest 296 = .ok (.lload_n 1, 1) := by decide +kernel
theorem dX8_digest_297 : decode cX8_digest 297 = .ok (.lmul, 1) := by decide +kernel
theorem dX8_digest_298 : decode cX8_digest 298 = .ok (.aload_n 0, 1) := by decide +kernel
theorem dX8_digest_299 : decode cX8_digest 299 = .ok (.iconst 1, 1) := by decide +kernel
theorem dX8_digest_300 : decode cX8_digest 300 = .ok (.invokevirtual 262, 3) := by decide +kernel
theorem dX8_digest_303 : decode cX8_digest 303 = .ok (.i2l, 1) := by decide +kernel
theorem dX8_digest_304 : decode cX8_digest 304 = .ok (.ladd, 1) := by decide +kernel
theorem dX8_digest_305 : decode cX8_digest 305 = .ok (.lstore_n 1, 1) := by decide +kernel
theorem dX8_digest_306 : decode cX8_digest 306 = .ok (.ldc2_w 314, 3) := by decide +kernel
theorem dX8_digest_309 : decode cX8_digest 309 = .ok (.lload_n 1, 1) := by decide +kernel
theorem dX8_digest_310 : decode cX8_digest 310 = .ok (.lmul, 1) := by decide +kernel
theorem dX8_digest_311 : decode cX8_digest 311 = .ok (.aload_n 0, 1) := by decide +kernel
theorem dX8_digest_312 : decode cX8_digest 312 = .ok (.invokevirtual 271, 3) := by decide +kernel
theorem dX8_digest_315 : decode cX8_digest 315 = .ok (.i2l, 1) := by decide +kernel
theorem dX8_digest_316 : decode cX8_digest 316 = .ok (.ladd, 1) := by decide +kernel
theorem dX8_digest_317 : decode cX8_digest 317 = .ok (.lstore_n 1, 1) := by decide +kernel
theorem dX8_digest_318 : decode cX8_digest 318 = .ok (.ldc2_w 314, 3) := by decide +kernel
theorem dX8_digest_321 : decode cX8_digest 321 = .ok (.lload_n 1, 1) := by decide +kernel
theorem dX8_digest_322 : decode cX8_digest 322 = .ok (.lmul, 1) := by decide +kernel
theorem dX8_digest_323 : decode cX8_digest 323 = .ok (.aload_n 0, 1) := by decide +kernel
theorem dX8_digest_324 : decode cX8_digest 324 = .ok (.invokevirtual 274, 3) := by decide +kernel
theorem dX8_digest_327 : decode cX8_digest 327 = .ok (.i2l, 1) := by decide +kernel
theorem dX8_digest_328 : decode cX8_digest 328 = .ok (.ladd, 1) := by decide +kernel
theorem dX8_digest_329 : decode cX8_digest 329 = .ok (.lstore_n 1, 1) := by decide +kernel
theorem dX8_digest_330 : decode cX8_digest 330 = .ok (.ldc2_w 314, 3) := by decide +kernel
theorem dX8_digest_333 : decode cX8_digest 333 = .ok (.lload_n 1, 1) := by decide +kernel
theorem dX8_digest_334 : decode cX8_digest 334 = .ok (.lmul, 1) := by decide +kernel
theorem dX8_digest_335 : decode cX8_digest 335 = .ok (.aload_n 0, 1) := by decide +kernel
theorem dX8_digest_336 : decode cX8_digest 336 = .ok (.invokevirtual 277, 3) := by decide +kernel
theorem dX8_digest_339 : decode cX8_digest 339 = .ok (.i2l, 1) := by decide +kernel
theorem dX8_digest_340 : decode cX8_digest 340 = .ok (.ladd, 1) := by decide +kernel
theorem dX8_digest_341 : decode cX8_digest 341 = .ok (.lstore_n 1, 1) := by decide +kernel
theorem dX8_digest_342 : decode cX8_digest 342 = .ok (.ldc2_w 314, 3) := by decide +kernel
theorem dX8_digest_345 : decode cX8_digest 345 = .ok (.lload_n 1, 1) := by decide +kernel
theorem dX8_digest_346 : decode cX8_digest 346 = .ok (.lmul, 1) := by decide +kernel
theorem dX8_digest_347 : decode cX8_digest 347 = .ok (.aload_n 0, 1) := by decide +kernel
theorem dX8_digest_348 : decode cX8_digest 348 = .ok (.invokevirtual 280, 3) := by decide +kernel
theorem dX8_digest_351 : decode cX8_digest 351 = .ok (.i2l, 1) := by decide +kernel
theorem dX8_digest_352 : decode cX8_digest 352 = .ok (.ladd, 1) := by decide +kernel
theorem dX8_digest_353 : decode cX8_digest 353 = .ok (.lstore_n 1, 1) := by decide +kernel
theorem dX8_digest_354 : decode cX8_digest 354 = .ok (.ldc2_w 314, 3) := by decide +kernel
theorem dX8_digest_357 : decode cX8_digest 357 = .ok (.lload_n 1, 1) := by decide +kernel
theorem dX8_digest_358 : decode cX8_digest 358 = .ok (.lmul, 1) := by decide +kernel
theorem dX8_digest_359 : decode cX8_digest 359 = .ok (.aload_n 0, 1) := by decide +kernel
theorem dX8_digest_360 : decode cX8_digest 360 = .ok (.bipush 7, 2) := by decide +kernel
theorem dX8_digest_362 : decode cX8_digest 362 = .ok (.bipush 30, 2) := by decide +kernel
theorem dX8_digest_364 : decode cX8_digest 364 = .ok (.iconst 0, 1) := by decide +kernel
theorem dX8_digest_365 : decode cX8_digest 365 = .ok (.invokevirtual 296, 3) := by decide +kernel
theorem dX8_digest_368 : decode cX8_digest 368 = .ok (.i2l, 1) := by decide +kernel
theorem dX8_digest_369 : decode cX8_digest 369 = .ok (.ladd, 1) := by decide +kernel
theorem dX8_digest_370 : decode cX8_digest 370 = .ok (.lstore_n 1, 1) := by decide +kernel
theorem dX8_digest_371 : decode cX8_digest 371 = .ok (.ldc2_w 314, 3) := by decide +kernel
theorem dX8_digest_374 : decode cX8_digest 374 = .ok (.lload_n 1, 1) := by decide +kernel
theorem dX8_digest_375 : decode cX8_digest 375 = .ok (.lmul, 1) := by decide +kernel
theorem dX8_digest_376 : decode cX8_digest 376 = .ok (.aload_n 0, 1) := by decide +kernel
theorem dX8_digest_377 : decode cX8_digest 377 = .ok (.bipush 7, 2) := by decide +kernel
theorem dX8_digest_379 : decode cX8_digest 379 = .ok (.bipush 30, 2) := by decide +kernel
theorem dX8_digest_381 : decode cX8_digest 381 = .ok (.iconst 1, 1) := by decide +kernel
theorem dX8_digest_382 : decode cX8_digest 382 = .ok (.invokevirtual 296, 3) := by decide +kernel
theorem dX8_digest_385 : decode cX8_digest 385 = .ok (.i2l, 1) := by decide +kernel
theorem dX8_digest_386 : decode cX8_digest 386 = .ok (.ladd, 1) := by decide +kernel
theorem dX8_digest_387 : decode cX8_digest 387 = .ok (.lreturn, 1) := by decide +kernel
end
section
theorem dL_law_0 : decode cL_law 0 = .ok (.new 7, 3) := by decide +kernel
theorem dL_law_3 : decode cL_law 3 = .ok (.dup, 1) := by decide +kernel
theorem dL_law_4 : decode cL_law 4 = .ok (.invokespecial 9, 3) := by decide +kernel
theorem dL_law_7 : decode cL_law 7 = .ok (.astore_n 1, 1) := by decide +kernel
theorem dL_law_8 : decode cL_law 8 = .ok (.new 10, 3) := by decide +kernel
theorem dL_law_11 : decode cL_law 11 = .ok (.dup, 1) := by decide +kernel
theorem dL_law_12 : decode cL_law 12 = .ok (.invokespecial 12, 3) := by decide +kernel
theorem dL_law_15 : decode cL_law 15 = .ok (.astore_n 2, 1) := by decide +kernel
theorem dL_law_16 : decode cL_law 16 = .ok (.iconst 0, 1) := by decide +kernel
theorem dL_law_17 : decode cL_law 17 = .ok (.istore_n 3, 1) := by decide +kernel
theorem dL_law_18 : decode cL_law 18 = .ok (.iload_n 3, 1) := by decide +kernel
theorem dL_law_19 : decode cL_law 19 = .ok (.aload_n 0, 1) := by decide +kernel
theorem dL_law_20 : decode cL_law 20 = .ok (.arraylength, 1) := by decide +kernel
theorem dL_law_21 : decode cL_law 21 = .ok (.bipush 6, 2) := by decide +kernel
theorem dL_law_23 : decode cL_law 23 = .ok (.isub, 1) := by decide +kernel
theorem dL_law_24 : decode cL_law 24 = .ok (.if_icmp .gt 1114, 3) := by decide +kernel
theorem dL_law_27 : decode cL_law 27 = .ok (.aload_n 0, 1) := by decide +kernel
theorem dL_law_28 : decode cL_law 28 = .ok (.iload_n 3, 1) := by decide +kernel
theorem dL_law_29 : decode cL_law 29 = .ok (.iaload, 1) := by decide +kernel
theorem dL_law_30 : decode cL_law 30 = .ok (.bipush 63, 2) := by decide +kernel
theorem dL_law_32 : decode cL_law 32 = .ok (.iand, 1) := by decide +kernel
theorem dL_law_33 : decode cL_law 33 = .ok (.tableswitch 1099 0 35 #[159, 192, 215, 238, 261, 284, 317, 350, 373, 396, 419, 442, 475, 498, 511, 524, 537, 550, 573, 596, 609, 632, 665, 678, 691, 714, 727, 771, 814, 857, 880, 933, 976, 1039, 1062, 1085], 159) := by decide +kernel
theorem dL_law_192 : decode cL_law 192 = .ok (.aload_n 1, 1) := by decide +kernel
theorem dL_law_193 : decode cL_law 193 = .ok (.aload_n 0, 1) := by decide +kernel
theorem dL_law_194 : decode cL_law 194 = .ok (.iload_n 3, 1) := by decide +kernel
theorem dL_law_195 : decode cL_law 195 = .ok (.iconst 1, 1) := by decide +kernel
theorem dL_law_196 : decode cL_law 196 = .ok (.iadd, 1) := by decide +kernel
theorem dL_law_197 : decode cL_law 197 = .ok (.iaload, 1) := by decide +kernel
theorem dL_law_198 : decode cL_law 198 = .ok (.aload_n 0, 1) := by decide +kernel
theorem dL_law_199 : decode cL_law 199 = .ok (.iload_n 3, 1) := by decide +kernel
theorem dL_law_200 : decode cL_law 200 = .ok (.iconst 2, 1) := by decide +kernel
theorem dL_law_201 : decode cL_law 201 = .ok (.iadd, 1) := by decide +kernel
theorem dL_law_202 : decode cL_law 202 = .ok (.iaload, 1) := by decide +kernel
theorem dL_law_203 : decode cL_law 203 = .ok (.invokevirtual 13, 3) := by decide +kernel
theorem dL_law_206 : decode cL_law 206 = .ok (.aload_n 2, 1) := by decide +kernel
theorem dL_law_207 : decode cL_law 207 = .ok (.aload_n 0, 1) := by decide +kernel
theorem dL_law_208 : decode cL_law 208 = .ok (.iload_n 3, 1) := by decide +kernel
theorem dL_law_209 : decode cL_law 209 = .ok (.iconst 1, 1) := by decide +kernel
theorem dL_law_210 : decode cL_law 210 = .ok (.iadd, 1) := by decide +kernel
theorem dL_law_211 : decode cL_law 211 = .ok (.iaload, 1) := by decide +kernel
theorem dL_law_212 : decode cL_law 212 = .ok (.aload_n 0, 1) := by decide +kernel
theorem dL_law_213 : decode cL_law 213 = .ok (.iload_n 3, 1) := by decide +kernel
theorem dL_law_214 : decode cL_law 214 = .ok (.iconst 2, 1) := by decide +kernel
theorem dL_law_215 : decode cL_law 215 = .ok (.iadd, 1) := by decide +kernel
theorem dL_law_216 : decode cL_law 216 = .ok (.iaload, 1) := by decide +kernel
theorem dL_law_217 : decode cL_law 217 = .ok (.invokevirtual 17, 3) := by decide +kernel
theorem dL_law_220 : decode cL_law 220 = .ok (.if_icmp .eq 912, 3) := by decide +kernel
theorem dL_law_223 : decode cL_law 223 = .ok (.iconst 0, 1) := by decide +kernel
theorem dL_law_224 : decode cL_law 224 = .ok (.ireturn, 1) := by decide +kernel
theorem dL_law_225 : decode cL_law 225 = .ok (.aload_n 1, 1) := by decide +kernel
theorem dL_law_226 : decode cL_law 226 = .ok (.aload_n 0, 1) := by decide +kernel
theorem dL_law_227 : decode cL_law 227 = .ok (.iload_n 3, 1) := by decide +kernel
theorem dL_law_228 : decode cL_law 228 = .ok (.iconst 1, 1) := by decide +kernel
theorem dL_law_229 : decode cL_law 229 = .ok (.iadd, 1) := by decide +kernel
theorem dL_law_230 : decode cL_law 230 = .ok (.iaload, 1) := by decide +kernel
theorem dL_law_231 : decode cL_law 231 = .ok (.invokevirtual 18, 3) := by decide +kernel
theorem dL_law_234 : decode cL_law 234 = .ok (.aload_n 2, 1) := by decide +kernel
theorem dL_law_235 : decode cL_law 235 = .ok (.aload_n 0, 1) := by decide +kernel
theorem dL_law_236 : decode cL_law 236 = .ok (.iload_n 3, 1) := by decide +kernel
theorem dL_law_237 : decode cL_law 237 = .ok (.iconst 1, 1) := by decide +kernel
theorem dL_law_238 : decode cL_law 238 = .ok (.iadd, 1) := by decide +kernel
theorem dL_law_239 : decode cL_law 239 = .ok (.iaload, 1) := by decide +kernel
theorem dL_law_240 : decode cL_law 240 = .ok (.invokevirtual 22, 3) := by decide +kernel
theorem dL_law_243 : decode cL_law 243 = .ok (.if_icmp .eq 889, 3) := by decide +kernel
theorem dL_law_246 : decode cL_law 246 = .ok (.iconst 0, 1) := by decide +kernel
theorem dL_law_247 : decode cL_law 247 = .ok (.ireturn, 1) := by decide +kernel
theorem dL_law_248 : decode cL_law 248 = .ok (.aload_n 1, 1) := by decide +kernel
theorem dL_law_249 : decode cL_law 249 = .ok (.aload_n 0, 1) := by decide +kernel
theorem dL_law_250 : decode cL_law 250 = .ok (.iload_n 3, 1) := by decide +kernel
theorem dL_law_251 : decode cL_law 251 = .ok (.iconst 1, 1) := by decide +kernel
theorem dL_law_252 : decode cL_law 252 = .ok (.iadd, 1) := by decide +kernel
theorem dL_law_253 : decode cL_law 253 = .ok (.iaload, 1) := by decide +kernel
theorem dL_law_254 : decode cL_law 254 = .ok (.invokevirtual 23, 3) := by decide +kernel
theorem dL_law_257 : decode cL_law 257 = .ok (.aload_n 2, 1) := by decide +kernel
theorem dL_law_258 : decode cL_law 258 = .ok (.aload_n 0, 1) := by decide +kernel
theorem dL_law_259 : decode cL_law 259 = .ok (.iload_n 3, 1) := by decide +kernel
theorem dL_law_260 : decode cL_law 260 = .ok (.iconst 1, 1) := by decide +kernel
theorem dL_law_261 : decode cL_law 261 = .ok (.iadd, 1) := by decide +kernel
theorem dL_law_262 : decode cL_law 262 = .ok (.iaload, 1) := by decide +kernel
theorem dL_law_263 : decode cL_law 263 = .ok (.invokevirtual 26, 3) := by decide +kernel
theorem dL_law_266 : decode cL_law 266 = .ok (.if_icmp .eq 866, 3) := by decide +kernel
theorem dL_law_269 : decode cL_law 269 = .ok (.iconst 0, 1) := by decide +kernel
theorem dL_law_270 : decode cL_law 270 = .ok (.ireturn, 1) := by decide +kernel
theorem dL_law_271 : decode cL_law 271 = .ok (.aload_n 1, 1) := by decide +kernel
theorem dL_law_272 : decode cL_law 272 = .ok (.aload_n 0, 1) := by decide +kernel
theorem dL_law_273 : decode cL_law 273 = .ok (.iload_n 3, 1) := by decide +kernel
theorem dL_law_274 : decode cL_law 274 = .ok (.iconst 1, 1) := by decide +kernel
theorem dL_law_275 : decode cL_law 275 = .ok (.iadd, 1) := by decide +kernel
theorem dL_law_276 : decode cL_law 276 = .ok (.iaload, 1) := by decide +kernel
theorem dL_law_277 : decode cL_law 277 = .ok (.invokevirtual 27, 3) := by decide +kernel
theorem dL_law_280 : decode cL_law 280 = .ok (.aload_n 2, 1) := by decide +kernel
theorem dL_law_281 : decode cL_law 281 = .ok (.aload_n 0, 1) := by decide +kernel
theorem dL_law_282 : decode cL_law 282 = .ok (.iload_n 3, 1) := by decide +kernel
theorem dL_law_283 : decode cL_law 283 = .ok (.iconst 1, 1) := by decide +kernel
theorem dL_law_284 : decode cL_law 284 = .ok (.iadd, 1) := by decide +kernel
theorem dL_law_285 : decode cL_law 285 = .ok (.iaload, 1) := by decide +kernel
theorem dL_law_286 : decode cL_law 286 = .ok (.invokevirtual 30, 3) := by decide +kernel
theorem dL_law_289 : decode cL_law 289 = .ok (.if_icmp .eq 843, 3) := by decide +kernel
theorem dL_law_292 : decode cL_law 292 = .ok (.iconst 0, 1) := by decide +kernel
theorem dL_law_293 : decode cL_law 293 = .ok (.ireturn, 1) := by decide +kernel
theorem dL_law_294 : decode cL_law 294 = .ok (.aload_n 1, 1) := by decide +kernel
theorem dL_law_295 : decode cL_law 295 = .ok (.aload_n 0, 1) := by decide +kernel
theorem dL_law_296 : decode cL_law 296 = .ok (.iload_n 3, 1) := by decide +kernel
theorem dL_law_297 : decode cL_law 297 = .ok (.iconst 1, 1) := by decide +kernel
theorem dL_law_298 : decode cL_law 298 = .ok (.iadd, 1) := by decide +kernel
theorem dL_law_299 : decode cL_law 299 = .ok (.iaload, 1) := by decide +kernel
theorem dL_law_300 : decode cL_law 300 = .ok (.invokevirtual 31, 3) := by decide +kernel
theorem dL_law_303 : decode cL_law 303 = .ok (.aload_n 2, 1) := by decide +kernel
theorem dL_law_304 : decode cL_law 304 = .ok (.aload_n 0, 1) := by decide +kernel
theorem dL_law_305 : decode cL_law 305 = .ok (.iload_n 3, 1) := by decide +kernel
theorem dL_law_306 : decode cL_law 306 = .ok (.iconst 1, 1) := by decide +kernel
theorem dL_law_307 : decode cL_law 307 = .ok (.iadd, 1) := by decide +kernel
theorem dL_law_308 : decode cL_law 308 = .ok (.iaload, 1) := by decide +kernel
theorem dL_law_309 : decode cL_law 309 = .ok (.invokevirtual 34, 3) := by decide +kernel
theorem dL_law_312 : decode cL_law 312 = .ok (.if_icmp .eq 820, 3) := by decide +kernel
theorem dL_law_315 : decode cL_law 315 = .ok (.iconst 0, 1) := by decide +kernel
theorem dL_law_316 : decode cL_law 316 = .ok (.ireturn, 1) := by decide +kernel
theorem dL_law_317 : decode cL_law 317 = .ok (.aload_n 1, 1) := by decide +kernel
theorem dL_law_318 : decode cL_law 318 = .ok (.aload_n 0, 1) := by decide +kernel
theorem dL_law_319 : decode cL_law 319 = .ok (.iload_n 3, 1) := by decide +kernel
theorem dL_law_320 : decode cL_law 320 = .ok (.iconst 1, 1) := by decide +kernel
theorem dL_law_321 : decode cL_law 321 = .ok (.iadd, 1) := by decide +kernel
theorem dL_law_322 : decode cL_law 322 = .ok (.iaload, 1) := by decide +kernel
theorem dL_law_323 : decode cL_law 323 = .ok (.aload_n 0, 1) := by decide +kernel
theorem dL_law_324 : decode cL_law 324 = .ok (.iload_n 3, 1) := by decide +kernel
theorem dL_law_325 : decode cL_law 325 = .ok (.iconst 2, 1) := by decide +kernel
theorem dL_law_326 : decode cL_law 326 = .ok (.iadd, 1) := by decide +kernel
theorem dL_law_327 : decode cL_law 327 = .ok (.iaload, 1) := by decide +kernel
theorem dL_law_328 : decode cL_law 328 = .ok (.invokevirtual 35, 3) := by decide +kernel
theorem dL_law_331 : decode cL_law 331 = .ok (.aload_n 2, 1) := by decide +kernel
theorem dL_law_332 : decode cL_law 332 = .ok (.aload_n 0, 1) := by decide +kernel
theorem dL_law_333 : decode cL_law 333 = .ok (.iload_n 3, 1) := by decide +kernel
theorem dL_law_334 : decode cL_law 334 = .ok (.iconst 1, 1) := by decide +kernel
theorem dL_law_335 : decode cL_law 335 = .ok (.iadd, 1) := by decide +kernel
theorem dL_law_336 : decode cL_law 336 = .ok (.iaload, 1) := by decide +kernel
theorem dL_law_337 : decode cL_law 337 = .ok (.aload_n 0, 1) := by decide +kernel
theorem dL_law_338 : decode cL_law 338 = .ok (.iload_n 3, 1) := by decide +kernel
theorem dL_law_339 : decode cL_law 339 = .ok (.iconst 2, 1) := by decide +kernel
theorem dL_law_340 : decode cL_law 340 = .ok (.iadd, 1) := by decide +kernel
theorem dL_law_341 : decode cL_law 341 = .ok (.iaload, 1) := by decide +kernel
theorem dL_law_342 : decode cL_law 342 = .ok (.invokevirtual 38, 3) := by decide +kernel
theorem dL_law_345 : decode cL_law 345 = .ok (.if_icmp .eq 787, 3) := by decide +kernel
theorem dL_law_348 : decode cL_law 348 = .ok (.iconst 0, 1) := by decide +kernel
theorem dL_law_349 : decode cL_law 349 = .ok (.ireturn, 1) := by decide +kernel
theorem dL_law_350 : decode cL_law 350 = .ok (.aload_n 1, 1) := by decide +kernel
theorem dL_law_351 : decode cL_law 351 = .ok (.aload_n 0, 1) := by decide +kernel
theorem dL_law_352 : decode cL_law 352 = .ok (.iload_n 3, 1) := by decide +kernel
theorem dL_law_353 : decode cL_law 353 = .ok (.iconst 1, 1) := by decide +kernel
theorem dL_law_354 : decode cL_law 354 = .ok (.iadd, 1) := by decide +kernel
theorem dL_law_355 : decode cL_law 355 = .ok (.iaload, 1) := by decide +kernel
theorem dL_law_356 : decode cL_law 356 = .ok (.aload_n 0, 1) := by decide +kernel
theorem dL_law_357 : decode cL_law 357 = .ok (.iload_n 3, 1) := by decide +kernel
theorem dL_law_358 : decode cL_law 358 = .ok (.iconst 2, 1) := by decide +kernel
theorem dL_law_359 : decode cL_law 359 = .ok (.iadd, 1) := by decide +kernel
theorem dL_law_360 : decode cL_law 360 = .ok (.iaload, 1) := by decide +kernel
theorem dL_law_361 : decode cL_law 361 = .ok (.invokevirtual 39, 3) := by decide +kernel
theorem dL_law_364 : decode cL_law 364 = .ok (.aload_n 2, 1) := by decide +kernel
theorem dL_law_365 : decode cL_law 365 = .ok (.aload_n 0, 1) := by decide +kernel
theorem dL_law_366 : decode cL_law 366 = .ok (.iload_n 3, 1) := by decide +kernel
theorem dL_law_367 : decode cL_law 367 = .ok (.iconst 1, 1) := by decide +kernel
theorem dL_law_368 : decode cL_law 368 = .ok (.iadd, 1) := by decide +kernel
theorem dL_law_369 : decode cL_law 369 = .ok (.iaload, 1) := by decide +kernel
theorem dL_law_370 : decode cL_law 370 = .ok (.aload_n 0, 1) := by decide +kernel
theorem dL_law_371 : decode cL_law 371 = .ok (.iload_n 3, 1) := by decide +kernel
theorem dL_law_372 : decode cL_law 372 = .ok (.iconst 2, 1) := by decide +kernel
theorem dL_law_373 : decode cL_law 373 = .ok (.iadd, 1) := by decide +kernel
theorem dL_law_374 : decode cL_law 374 = .ok (.iaload, 1) := by decide +kernel
theorem dL_law_375 : decode cL_law 375 = .ok (.invokevirtual 42, 3) := by decide +kernel
theorem dL_law_378 : decode cL_law 378 = .ok (.if_icmp .eq 754, 3) := by decide +kernel
theorem dL_law_381 : decode cL_law 381 = .ok (.iconst 0, 1) := by decide +kernel
theorem dL_law_382 : decode cL_law 382 = .ok (.ireturn, 1) := by decide +kernel
theorem dL_law_383 : decode cL_law 383 = .ok (.aload_n 1, 1) := by decide +kernel
theorem dL_law_384 : decode cL_law 384 = .ok (.aload_n 0, 1) := by decide +kernel
theorem dL_law_385 : decode cL_law 385 = .ok (.iload_n 3, 1) := by decide +kernel
theorem dL_law_386 : decode cL_law 386 = .ok (.iconst 1, 1) := by decide +kernel
theorem dL_law_387 : decode cL_law 387 = .ok (.iadd, 1) := by decide +kernel
theorem dL_law_388 : decode cL_law 388 = .ok (.iaload, 1) := by decide +kernel
theorem dL_law_389 : decode cL_law 389 = .ok (.invokevirtual 43, 3) := by decide +kernel
theorem dL_law_392 : decode cL_law 392 = .ok (.aload_n 2, 1) := by decide +kernel
theorem dL_law_393 : decode cL_law 393 = .ok (.aload_n 0, 1) := by decide +kernel
theorem dL_law_394 : decode cL_law 394 = .ok (.iload_n 3, 1) := by decide +kernel
theorem dL_law_395 : decode cL_law 395 = .ok (.iconst 1, 1) := by decide +kernel
theorem dL_law_396 : decode cL_law 396 = .ok (.iadd, 1) := by decide +kernel
theorem dL_law_397 : decode cL_law 397 = .ok (.iaload, 1) := by decide +kernel
theorem dL_law_398 : decode cL_law 398 = .ok (.invokevirtual 46, 3) := by decide +kernel
theorem dL_law_401 : decode cL_law 401 = .ok (.if_icmp .eq 731, 3) := by decide +kernel
theorem dL_law_404 : decode cL_law 404 = .ok (.iconst 0, 1) := by decide +kernel
theorem dL_law_405 : decode cL_law 405 = .ok (.ireturn, 1) := by decide +kernel
theorem dL_law_406 : decode cL_law 406 = .ok (.aload_n 1, 1) := by decide +kernel
theorem dL_law_407 : decode cL_law 407 = .ok (.aload_n 0, 1) := by decide +kernel
theorem dL_law_408 : decode cL_law 408 = .ok (.iload_n 3, 1) := by decide +kernel
theorem dL_law_409 : decode cL_law 409 = .ok (.iconst 1, 1) := by decide +kernel
theorem dL_law_410 : decode cL_law 410 = .ok (.iadd, 1) := by decide +kernel
theorem dL_law_411 : decode cL_law 411 = .ok (.iaload, 1) := by decide +kernel
theorem dL_law_412 : decode cL_law 412 = .ok (.invokevirtual 47, 3) := by decide +kernel
theorem dL_law_415 : decode cL_law 415 = .ok (.aload_n 2, 1) := by decide +kernel
theorem dL_law_416 : decode cL_law 416 = .ok (.aload_n 0, 1) := by decide +kernel
theorem dL_law_417 : decode cL_law 417 = .ok (.iload_n 3, 1) := by decide +kernel
theorem dL_law_418 : decode cL_law 418 = .ok (.iconst 1, 1) := by decide +kernel
theorem dL_law_419 : decode cL_law 419 = .ok (.iadd, 1) := by decide +kernel
theorem dL_law_420 : decode cL_law 420 = .ok (.iaload, 1) := by decide +kernel
theorem dL_law_421 : decode cL_law 421 = .ok (.invokevirtual 50, 3) := by decide +kernel
theorem dL_law_424 : decode cL_law 424 = .ok (.if_icmp .eq 708, 3) := by decide +kernel
theorem dL_law_427 : decode cL_law 427 = .ok (.iconst 0, 1) := by decide +kernel
theorem dL_law_428 : decode cL_law 428 = .ok (.ireturn, 1) := by decide +kernel
theorem dL_law_429 : decode cL_law 429 = .ok (.aload_n 1, 1) := by decide +kernel
theorem dL_law_430 : decode cL_law 430 = .ok (.aload_n 0, 1) := by decide +kernel
theorem dL_law_431 : decode cL_law 431 = .ok (.iload_n 3, 1) := by decide +kernel
theorem dL_law_432 : decode cL_law 432 = .ok (.iconst 1, 1) := by decide +kernel
theorem dL_law_433 : decode cL_law 433 = .ok (.iadd, 1) := by decide +kernel
theorem dL_law_434 : decode cL_law 434 = .ok (.iaload, 1) := by decide +kernel
theorem dL_law_435 : decode cL_law 435 = .ok (.invokevirtual 51, 3) := by decide +kernel
theorem dL_law_438 : decode cL_law 438 = .ok (.aload_n 2, 1) := by decide +kernel
theorem dL_law_439 : decode cL_law 439 = .ok (.aload_n 0, 1) := by decide +kernel
theorem dL_law_440 : decode cL_law 440 = .ok (.iload_n 3, 1) := by decide +kernel
theorem dL_law_441 : decode cL_law 441 = .ok (.iconst 1, 1) := by decide +kernel
theorem dL_law_442 : decode cL_law 442 = .ok (.iadd, 1) := by decide +kernel
theorem dL_law_443 : decode cL_law 443 = .ok (.iaload, 1) := by decide +kernel
theorem dL_law_444 : decode cL_law 444 = .ok (.invokevirtual 54, 3) := by decide +kernel
theorem dL_law_447 : decode cL_law 447 = .ok (.if_icmp .eq 685, 3) := by decide +kernel
theorem dL_law_450 : decode cL_law 450 = .ok (.iconst 0, 1) := by decide +kernel
theorem dL_law_451 : decode cL_law 451 = .ok (.ireturn, 1) := by decide +kernel
theorem dL_law_452 : decode cL_law 452 = .ok (.aload_n 1, 1) := by decide +kernel
theorem dL_law_453 : decode cL_law 453 = .ok (.aload_n 0, 1) := by decide +kernel
theorem dL_law_454 : decode cL_law 454 = .ok (.iload_n 3, 1) := by decide +kernel
theorem dL_law_455 : decode cL_law 455 = .ok (.iconst 1, 1) := by decide +kernel
theorem dL_law_456 : decode cL_law 456 = .ok (.iadd, 1) := by decide +kernel
theorem dL_law_457 : decode cL_law 457 = .ok (.iaload, 1) := by decide +kernel
theorem dL_law_458 : decode cL_law 458 = .ok (.invokevirtual 55, 3) := by decide +kernel
theorem dL_law_461 : decode cL_law 461 = .ok (.aload_n 2, 1) := by decide +kernel
theorem dL_law_462 : decode cL_law 462 = .ok (.aload_n 0, 1) := by decide +kernel
theorem dL_law_463 : decode cL_law 463 = .ok (.iload_n 3, 1) := by decide +kernel
theorem dL_law_464 : decode cL_law 464 = .ok (.iconst 1, 1) := by decide +kernel
theorem dL_law_465 : decode cL_law 465 = .ok (.iadd, 1) := by decide +kernel
theorem dL_law_466 : decode cL_law 466 = .ok (.iaload, 1) := by decide +kernel
theorem dL_law_467 : decode cL_law 467 = .ok (.invokevirtual 58, 3) := by decide +kernel
theorem dL_law_470 : decode cL_law 470 = .ok (.if_icmp .eq 662, 3) := by decide +kernel
theorem dL_law_473 : decode cL_law 473 = .ok (.iconst 0, 1) := by decide +kernel
theorem dL_law_474 : decode cL_law 474 = .ok (.ireturn, 1) := by decide +kernel
theorem dL_law_475 : decode cL_law 475 = .ok (.aload_n 1, 1) := by decide +kernel
theorem dL_law_476 : decode cL_law 476 = .ok (.aload_n 0, 1) := by decide +kernel
theorem dL_law_477 : decode cL_law 477 = .ok (.iload_n 3, 1) := by decide +kernel
theorem dL_law_478 : decode cL_law 478 = .ok (.iconst 1, 1) := by decide +kernel
theorem dL_law_479 : decode cL_law 479 = .ok (.iadd, 1) := by decide +kernel
theorem dL_law_480 : decode cL_law 480 = .ok (.iaload, 1) := by decide +kernel
theorem dL_law_481 : decode cL_law 481 = .ok (.aload_n 0, 1) := by decide +kernel
theorem dL_law_482 : decode cL_law 482 = .ok (.iload_n 3, 1) := by decide +kernel
theorem dL_law_483 : decode cL_law 483 = .ok (.iconst 2, 1) := by decide +kernel
theorem dL_law_484 : decode cL_law 484 = .ok (.iadd, 1) := by decide +kernel
theorem dL_law_485 : decode cL_law 485 = .ok (.iaload, 1) := by decide +kernel
theorem dL_law_486 : decode cL_law 486 = .ok (.invokevirtual 59, 3) := by decide +kernel
theorem dL_law_489 : decode cL_law 489 = .ok (.aload_n 2, 1) := by decide +kernel
theorem dL_law_490 : decode cL_law 490 = .ok (.aload_n 0, 1) := by decide +kernel
theorem dL_law_491 : decode cL_law 491 = .ok (.iload_n 3, 1) := by decide +kernel
theorem dL_law_492 : decode cL_law 492 = .ok (.iconst 1, 1) := by decide +kernel
theorem dL_law_493 : decode cL_law 493 = .ok (.iadd, 1) := by decide +kernel
theorem dL_law_494 : decode cL_law 494 = .ok (.iaload, 1) := by decide +kernel
theorem dL_law_495 : decode cL_law 495 = .ok (.aload_n 0, 1) := by decide +kernel
theorem dL_law_496 : decode cL_law 496 = .ok (.iload_n 3, 1) := by decide +kernel
theorem dL_law_497 : decode cL_law 497 = .ok (.iconst 2, 1) := by decide +kernel
theorem dL_law_498 : decode cL_law 498 = .ok (.iadd, 1) := by decide +kernel
theorem dL_law_499 : decode cL_law 499 = .ok (.iaload, 1) := by decide +kernel
theorem dL_law_500 : decode cL_law 500 = .ok (.invokevirtual 62, 3) := by decide +kernel
theorem dL_law_503 : decode cL_law 503 = .ok (.if_icmp .eq 629, 3) := by decide +kernel
theorem dL_law_506 : decode cL_law 506 = .ok (.iconst 0, 1) := by decide +kernel
theorem dL_law_507 : decode cL_law 507 = .ok (.ireturn, 1) := by decide +kernel
theorem dL_law_508 : decode cL_law 508 = .ok (.aload_n 1, 1) := by decide +kernel
theorem dL_law_509 : decode cL_law 509 = .ok (.aload_n 0, 1) := by decide +kernel
theorem dL_law_510 : decode cL_law 510 = .ok (.iload_n 3, 1) := by decide +kernel
theorem dL_law_511 : decode cL_law 511 = .ok (.iconst 1, 1) := by decide +kernel
theorem dL_law_512 : decode cL_law 512 = .ok (.iadd, 1) := by decide +kernel
theorem dL_law_513 : decode cL_law 513 = .ok (.iaload, 1) := by decide +kernel
theorem dL_law_514 : decode cL_law 514 = .ok (.invokevirtual 63, 3) := by decide +kernel
theorem dL_law_517 : decode cL_law 517 = .ok (.aload_n 2, 1) := by decide +kernel
theorem dL_law_518 : decode cL_law 518 = .ok (.aload_n 0, 1) := by decide +kernel
theorem dL_law_519 : decode cL_law 519 = .ok (.iload_n 3, 1) := by decide +kernel
theorem dL_law_520 : decode cL_law 520 = .ok (.iconst 1, 1) := by decide +kernel
theorem dL_law_521 : decode cL_law 521 = .ok (.iadd, 1) := by decide +kernel
theorem dL_law_522 : decode cL_law 522 = .ok (.iaload, 1) := by decide +kernel
theorem dL_law_523 : decode cL_law 523 = .ok (.invokevirtual 66, 3) := by decide +kernel
theorem dL_law_526 : decode cL_law 526 = .ok (.if_icmp .eq 606, 3) := by decide +kernel
theorem dL_law_529 : decode cL_law 529 = .ok (.iconst 0, 1) := by decide +kernel
theorem dL_law_530 : decode cL_law 530 = .ok (.ireturn, 1) := by decide +kernel
theorem dL_law_531 : decode cL_law 531 = .ok (.aload_n 1, 1) := by decide +kernel
theorem dL_law_532 : decode cL_law 532 = .ok (.invokevirtual 67, 3) := by decide +kernel
theorem dL_law_535 : decode cL_law 535 = .ok (.aload_n 2, 1) := by decide +kernel
theorem dL_law_536 : decode cL_law 536 = .ok (.invokevirtual 71, 3) := by decide +kernel
theorem dL_law_539 : decode cL_law 539 = .ok (.if_icmp .eq 593, 3) := by decide +kernel
theorem dL_law_542 : decode cL_law 542 = .ok (.iconst 0, 1) := by decide +kernel
theorem dL_law_543 : decode cL_law 543 = .ok (.ireturn, 1) := by decide +kernel
theorem dL_law_544 : decode cL_law 544 = .ok (.aload_n 1, 1) := by decide +kernel
theorem dL_law_545 : decode cL_law 545 = .ok (.invokevirtual 72, 3) := by decide +kernel
theorem dL_law_548 : decode cL_law 548 = .ok (.aload_n 2, 1) := by decide +kernel
theorem dL_law_549 : decode cL_law 549 = .ok (.invokevirtual 75, 3) := by decide +kernel
theorem dL_law_552 : decode cL_law 552 = .ok (.if_icmp .eq 580, 3) := by decide +kernel
theorem dL_law_555 : decode cL_law 555 = .ok (.iconst 0, 1) := by decide +kernel
theorem dL_law_556 : decode cL_law 556 = .ok (.ireturn, 1) := by decide +kernel
theorem dL_law_557 : decode cL_law 557 = .ok (.aload_n 1, 1) := by decide +kernel
theorem dL_law_558 : decode cL_law 558 = .ok (.invokevirtual 76, 3) := by decide +kernel
theorem dL_law_561 : decode cL_law 561 = .ok (.aload_n 2, 1) := by decide +kernel
theorem dL_law_562 : decode cL_law 562 = .ok (.invokevirtual 79, 3) := by decide +kernel
theorem dL_law_565 : decode cL_law 565 = .ok (.if_icmp .eq 567, 3) := by decide +kernel
theorem dL_law_568 : decode cL_law 568 = .ok (.iconst 0, 1) := by decide +kernel
theorem dL_law_569 : decode cL_law 569 = .ok (.ireturn, 1) := by decide +kernel
theorem dL_law_570 : decode cL_law 570 = .ok (.aload_n 1, 1) := by decide +kernel
theorem dL_law_571 : decode cL_law 571 = .ok (.invokevirtual 80, 3) := by decide +kernel
theorem dL_law_574 : decode cL_law 574 = .ok (.aload_n 2, 1) := by decide +kernel
theorem dL_law_575 : decode cL_law 575 = .ok (.invokevirtual 83, 3) := by decide +kernel
theorem dL_law_578 : decode cL_law 578 = .ok (.if_icmp .eq 554, 3) := by decide +kernel
theorem dL_law_581 : decode cL_law 581 = .ok (.iconst 0, 1) := by decide +kernel
theorem dL_law_582 : decode cL_law 582 = .ok (.ireturn, 1) := by decide +kernel
theorem dL_law_583 : decode cL_law 583 = .ok (.aload_n 1, 1) := by decide +kernel
theorem dL_law_584 : decode cL_law 584 = .ok (.aload_n 0, 1) := by decide +kernel
theorem dL_law_585 : decode cL_law 585 = .ok (.iload_n 3, 1) := by decide +kernel
theorem dL_law_586 : decode cL_law 586 = .ok (.iconst 1, 1) := by decide +kernel
theorem dL_law_587 : decode cL_law 587 = .ok (.iadd, 1) := by decide +kernel
theorem dL_law_588 : decode cL_law 588 = .ok (.iaload, 1) := by decide +kernel
theorem dL_law_589 : decode cL_law 589 = .ok (.invokevirtual 84, 3) := by decide +kernel
theorem dL_law_592 : decode cL_law 592 = .ok (.aload_n 2, 1) := by decide +kernel
theorem dL_law_593 : decode cL_law 593 = .ok (.aload_n 0, 1) := by decide +kernel
theorem dL_law_594 : decode cL_law 594 = .ok (.iload_n 3, 1) := by decide +kernel
theorem dL_law_595 : decode cL_law 595 = .ok (.iconst 1, 1) := by decide +kernel
theorem dL_law_596 : decode cL_law 596 = .ok (.iadd, 1) := by decide +kernel
theorem dL_law_597 : decode cL_law 597 = .ok (.iaload, 1) := by decide +kernel
theorem dL_law_598 : decode cL_law 598 = .ok (.invokevirtual 87, 3) := by decide +kernel
theorem dL_law_601 : decode cL_law 601 = .ok (.if_icmp .eq 531, 3) := by decide +kernel
theorem dL_law_604 : decode cL_law 604 = .ok (.iconst 0, 1) := by decide +kernel
theorem dL_law_605 : decode cL_law 605 = .ok (.ireturn, 1) := by decide +kernel
theorem dL_law_606 : decode cL_law 606 = .ok (.aload_n 1, 1) := by decide +kernel
theorem dL_law_607 : decode cL_law 607 = .ok (.aload_n 0, 1) := by decide +kernel
theorem dL_law_608 : decode cL_law 608 = .ok (.iload_n 3, 1) := by decide +kernel
theorem dL_law_609 : decode cL_law 609 = .ok (.iconst 1, 1) := by decide +kernel
theorem dL_law_610 : decode cL_law 610 = .ok (.iadd, 1) := by decide +kernel
theorem dL_law_611 : decode cL_law 611 = .ok (.iaload, 1) := by decide +kernel
theorem dL_law_612 : decode cL_law 612 = .ok (.invokevirtual 88, 3) := by decide +kernel
theorem dL_law_615 : decode cL_law 615 = .ok (.aload_n 2, 1) := by decide +kernel
theorem dL_law_616 : decode cL_law 616 = .ok (.aload_n 0, 1) := by decide +kernel
theorem dL_law_617 : decode cL_law 617 = .ok (.iload_n 3, 1) := by decide +kernel
theorem dL_law_618 : decode cL_law 618 = .ok (.iconst 1, 1) := by decide +kernel
theorem dL_law_619 : decode cL_law 619 = .ok (.iadd, 1) := by decide +kernel
theorem dL_law_620 : decode cL_law 620 = .ok (.iaload, 1) := by decide +kernel
theorem dL_law_621 : decode cL_law 621 = .ok (.invokevirtual 91, 3) := by decide +kernel
theorem dL_law_624 : decode cL_law 624 = .ok (.if_icmp .eq 508, 3) := by decide +kernel
theorem dL_law_627 : decode cL_law 627 = .ok (.iconst 0, 1) := by decide +kernel
theorem dL_law_628 : decode cL_law 628 = .ok (.ireturn, 1) := by decide +kernel
theorem dL_law_629 : decode cL_law 629 = .ok (.aload_n 1, 1) := by decide +kernel
theorem dL_law_630 : decode cL_law 630 = .ok (.invokevirtual 92, 3) := by decide +kernel
theorem dL_law_633 : decode cL_law 633 = .ok (.aload_n 2, 1) := by decide +kernel
theorem dL_law_634 : decode cL_law 634 = .ok (.invokevirtual 95, 3) := by decide +kernel
theorem dL_law_637 : decode cL_law 637 = .ok (.if_icmp .eq 495, 3) := by decide +kernel
theorem dL_law_640 : decode cL_law 640 = .ok (.iconst 0, 1) := by decide +kernel
theorem dL_law_641 : decode cL_law 641 = .ok (.ireturn, 1) := by decide +kernel
theorem dL_law_642 : decode cL_law 642 = .ok (.aload_n 1, 1) := by decide +kernel
theorem dL_law_643 : decode cL_law 643 = .ok (.aload_n 0, 1) := by decide +kernel
theorem dL_law_644 : decode cL_law 644 = .ok (.iload_n 3, 1) := by decide +kernel
theorem dL_law_645 : decode cL_law 645 = .ok (.iconst 1, 1) := by decide +kernel
theorem dL_law_646 : decode cL_law 646 = .ok (.iadd, 1) := by decide +kernel
theorem dL_law_647 : decode cL_law 647 = .ok (.iaload, 1) := by decide +kernel
theorem dL_law_648 : decode cL_law 648 = .ok (.invokevirtual 96, 3) := by decide +kernel
theorem dL_law_651 : decode cL_law 651 = .ok (.aload_n 2, 1) := by decide +kernel
theorem dL_law_652 : decode cL_law 652 = .ok (.aload_n 0, 1) := by decide +kernel
theorem dL_law_653 : decode cL_law 653 = .ok (.iload_n 3, 1) := by decide +kernel
theorem dL_law_654 : decode cL_law 654 = .ok (.iconst 1, 1) := by decide +kernel
theorem dL_law_655 : decode cL_law 655 = .ok (.iadd, 1) := by decide +kernel
theorem dL_law_656 : decode cL_law 656 = .ok (.iaload, 1) := by decide +kernel
theorem dL_law_657 : decode cL_law 657 = .ok (.invokevirtual 99, 3) := by decide +kernel
theorem dL_law_660 : decode cL_law 660 = .ok (.if_icmp .eq 472, 3) := by decide +kernel
theorem dL_law_663 : decode cL_law 663 = .ok (.iconst 0, 1) := by decide +kernel
theorem dL_law_664 : decode cL_law 664 = .ok (.ireturn, 1) := by decide +kernel
theorem dL_law_665 : decode cL_law 665 = .ok (.aload_n 1, 1) := by decide +kernel
theorem dL_law_666 : decode cL_law 666 = .ok (.aload_n 0, 1) := by decide +kernel
theorem dL_law_667 : decode cL_law 667 = .ok (.iload_n 3, 1) := by decide +kernel
theorem dL_law_668 : decode cL_law 668 = .ok (.iconst 1, 1) := by decide +kernel
theorem dL_law_669 : decode cL_law 669 = .ok (.iadd, 1) := by decide +kernel
theorem dL_law_670 : decode cL_law 670 = .ok (.iaload, 1) := by decide +kernel
theorem dL_law_671 : decode cL_law 671 = .ok (.aload_n 0, 1) := by decide +kernel
theorem dL_law_672 : decode cL_law 672 = .ok (.iload_n 3, 1) := by decide +kernel
theorem dL_law_673 : decode cL_law 673 = .ok (.iconst 2, 1) := by decide +kernel
theorem dL_law_674 : decode cL_law 674 = .ok (.iadd, 1) := by decide +kernel
theorem dL_law_675 : decode cL_law 675 = .ok (.iaload, 1) := by decide +kernel
theorem dL_law_676 : decode cL_law 676 = .ok (.invokevirtual 100, 3) := by decide +kernel
theorem dL_law_679 : decode cL_law 679 = .ok (.aload_n 2, 1) := by decide +kernel
theorem dL_law_680 : decode cL_law 680 = .ok (.aload_n 0, 1) := by decide +kernel
theorem dL_law_681 : decode cL_law 681 = .ok (.iload_n 3, 1) := by decide +kernel
theorem dL_law_682 : decode cL_law 682 = .ok (.iconst 1, 1) := by decide +kernel
theorem dL_law_683 : decode cL_law 683 = .ok (.iadd, 1) := by decide +kernel
theorem dL_law_684 : decode cL_law 684 = .ok (.iaload, 1) := by decide +kernel
theorem dL_law_685 : decode cL_law 685 = .ok (.aload_n 0, 1) := by decide +kernel
theorem dL_law_686 : decode cL_law 686 = .ok (.iload_n 3, 1) := by decide +kernel
theorem dL_law_687 : decode cL_law 687 = .ok (.iconst 2, 1) := by decide +kernel
theorem dL_law_688 : decode cL_law 688 = .ok (.iadd, 1) := by decide +kernel
theorem dL_law_689 : decode cL_law 689 = .ok (.iaload, 1) := by decide +kernel
theorem dL_law_690 : decode cL_law 690 = .ok (.invokevirtual 103, 3) := by decide +kernel
theorem dL_law_693 : decode cL_law 693 = .ok (.if_icmp .eq 439, 3) := by decide +kernel
theorem dL_law_696 : decode cL_law 696 = .ok (.iconst 0, 1) := by decide +kernel
theorem dL_law_697 : decode cL_law 697 = .ok (.ireturn, 1) := by decide +kernel
theorem dL_law_698 : decode cL_law 698 = .ok (.aload_n 1, 1) := by decide +kernel
theorem dL_law_699 : decode cL_law 699 = .ok (.invokevirtual 104, 3) := by decide +kernel
theorem dL_law_702 : decode cL_law 702 = .ok (.aload_n 2, 1) := by decide +kernel
theorem dL_law_703 : decode cL_law 703 = .ok (.invokevirtual 107, 3) := by decide +kernel
theorem dL_law_706 : decode cL_law 706 = .ok (.if_icmp .eq 426, 3) := by decide +kernel
theorem dL_law_709 : decode cL_law 709 = .ok (.iconst 0, 1) := by decide +kernel
theorem dL_law_710 : decode cL_law 710 = .ok (.ireturn, 1) := by decide +kernel
theorem dL_law_711 : decode cL_law 711 = .ok (.aload_n 1, 1) := by decide +kernel
theorem dL_law_712 : decode cL_law 712 = .ok (.invokevirtual 108, 3) := by decide +kernel
theorem dL_law_715 : decode cL_law 715 = .ok (.aload_n 2, 1) := by decide +kernel
theorem dL_law_716 : decode cL_law 716 = .ok (.invokevirtual 111, 3) := by decide +kernel
theorem dL_law_719 : decode cL_law 719 = .ok (.if_icmp .eq 413, 3) := by decide +kernel
theorem dL_law_722 : decode cL_law 722 = .ok (.iconst 0, 1) := by decide +kernel
theorem dL_law_723 : decode cL_law 723 = .ok (.ireturn, 1) := by decide +kernel
theorem dL_law_724 : decode cL_law 724 = .ok (.aload_n 1, 1) := by decide +kernel
theorem dL_law_725 : decode cL_law 725 = .ok (.aload_n 0, 1) := by decide +kernel
theorem dL_law_726 : decode cL_law 726 = .ok (.iload_n 3, 1) := by decide +kernel
theorem dL_law_727 : decode cL_law 727 = .ok (.iconst 1, 1) := by decide +kernel
theorem dL_law_728 : decode cL_law 728 = .ok (.iadd, 1) := by decide +kernel
theorem dL_law_729 : decode cL_law 729 = .ok (.iaload, 1) := by decide +kernel
theorem dL_law_730 : decode cL_law 730 = .ok (.invokevirtual 112, 3) := by decide +kernel
theorem dL_law_733 : decode cL_law 733 = .ok (.aload_n 2, 1) := by decide +kernel
theorem dL_law_734 : decode cL_law 734 = .ok (.aload_n 0, 1) := by decide +kernel
theorem dL_law_735 : decode cL_law 735 = .ok (.iload_n 3, 1) := by decide +kernel
theorem dL_law_736 : decode cL_law 736 = .ok (.iconst 1, 1) := by decide +kernel
theorem dL_law_737 : decode cL_law 737 = .ok (.iadd, 1) := by decide +kernel
theorem dL_law_738 : decode cL_law 738 = .ok (.iaload, 1) := by decide +kernel
theorem dL_law_739 : decode cL_law 739 = .ok (.invokevirtual 115, 3) := by decide +kernel
theorem dL_law_742 : decode cL_law 742 = .ok (.if_icmp .eq 390, 3) := by decide +kernel
theorem dL_law_745 : decode cL_law 745 = .ok (.iconst 0, 1) := by decide +kernel
theorem dL_law_746 : decode cL_law 746 = .ok (.ireturn, 1) := by decide +kernel
theorem dL_law_747 : decode cL_law 747 = .ok (.aload_n 1, 1) := by decide +kernel
theorem dL_law_748 : decode cL_law 748 = .ok (.invokevirtual 116, 3) := by decide +kernel
theorem dL_law_751 : decode cL_law 751 = .ok (.aload_n 2, 1) := by decide +kernel
theorem dL_law_752 : decode cL_law 752 = .ok (.invokevirtual 119, 3) := by decide +kernel
theorem dL_law_755 : decode cL_law 755 = .ok (.if_icmp .eq 377, 3) := by decide +kernel
theorem dL_law_758 : decode cL_law 758 = .ok (.iconst 0, 1) := by decide +kernel
theorem dL_law_759 : decode cL_law 759 = .ok (.ireturn, 1) := by decide +kernel
theorem dL_law_760 : decode cL_law 760 = .ok (.aload_n 1, 1) := by decide +kernel
theorem dL_law_761 : decode cL_law 761 = .ok (.aload_n 0, 1) := by decide +kernel
theorem dL_law_762 : decode cL_law 762 = .ok (.iload_n 3, 1) := by decide +kernel
theorem dL_law_763 : decode cL_law 763 = .ok (.iconst 1, 1) := by decide +kernel
theorem dL_law_764 : decode cL_law 764 = .ok (.iadd, 1) := by decide +kernel
theorem dL_law_765 : decode cL_law 765 = .ok (.iaload, 1) := by decide +kernel
theorem dL_law_766 : decode cL_law 766 = .ok (.aload_n 0, 1) := by decide +kernel
theorem dL_law_767 : decode cL_law 767 = .ok (.iload_n 3, 1) := by decide +kernel
theorem dL_law_768 : decode cL_law 768 = .ok (.iconst 2, 1) := by decide +kernel
theorem dL_law_769 : decode cL_law 769 = .ok (.iadd, 1) := by decide +kernel
theorem dL_law_770 : decode cL_law 770 = .ok (.iaload, 1) := by decide +kernel
theorem dL_law_771 : decode cL_law 771 = .ok (.aload_n 0, 1) := by decide +kernel
theorem dL_law_772 : decode cL_law 772 = .ok (.iload_n 3, 1) := by decide +kernel
theorem dL_law_773 : decode cL_law 773 = .ok (.iconst 3, 1) := by decide +kernel
theorem dL_law_774 : decode cL_law 774 = .ok (.iadd, 1) := by decide +kernel
theorem dL_law_775 : decode cL_law 775 = .ok (.iaload, 1) := by decide +kernel
theorem dL_law_776 : decode cL_law 776 = .ok (.invokevirtual 120, 3) := by decide +kernel
theorem dL_law_779 : decode cL_law 779 = .ok (.aload_n 2, 1) := by decide +kernel
theorem dL_law_780 : decode cL_law 780 = .ok (.aload_n 0, 1) := by decide +kernel
theorem dL_law_781 : decode cL_law 781 = .ok (.iload_n 3, 1) := by decide +kernel
theorem dL_law_782 : decode cL_law 782 = .ok (.iconst 1, 1) := by decide +kernel
theorem dL_law_783 : decode cL_law 783 = .ok (.iadd, 1) := by decide +kernel
theorem dL_law_784 : decode cL_law 784 = .ok (.iaload, 1) := by decide +kernel
theorem dL_law_785 : decode cL_law 785 = .ok (.aload_n 0, 1) := by decide +kernel
theorem dL_law_786 : decode cL_law 786 = .ok (.iload_n 3, 1) := by decide +kernel
theorem dL_law_787 : decode cL_law 787 = .ok (.iconst 2, 1) := by decide +kernel
theorem dL_law_788 : decode cL_law 788 = .ok (.iadd, 1) := by decide +kernel
theorem dL_law_789 : decode cL_law 789 = .ok (.iaload, 1) := by decide +kernel
theorem dL_law_790 : decode cL_law 790 = .ok (.aload_n 0, 1) := by decide +kernel
theorem dL_law_791 : decode cL_law 791 = .ok (.iload_n 3, 1) := by decide +kernel
theorem dL_law_792 : decode cL_law 792 = .ok (.iconst 3, 1) := by decide +kernel
theorem dL_law_793 : decode cL_law 793 = .ok (.iadd, 1) := by decide +kernel
theorem dL_law_794 : decode cL_law 794 = .ok (.iaload, 1) := by decide +kernel
theorem dL_law_795 : decode cL_law 795 = .ok (.invokevirtual 124, 3) := by decide +kernel
theorem dL_law_798 : decode cL_law 798 = .ok (.lcmp, 1) := by decide +kernel
theorem dL_law_799 : decode cL_law 799 = .ok (.ifCond .eq 333, 3) := by decide +kernel
theorem dL_law_802 : decode cL_law 802 = .ok (.iconst 0, 1) := by decide +kernel
theorem dL_law_803 : decode cL_law 803 = .ok (.ireturn, 1) := by decide +kernel
theorem dL_law_804 : decode cL_law 804 = .ok (.aload_n 1, 1) := by decide +kernel
theorem dL_law_805 : decode cL_law 805 = .ok (.aload_n 0, 1) := by decide +kernel
theorem dL_law_806 : decode cL_law 806 = .ok (.iload_n 3, 1) := by decide +kernel
theorem dL_law_807 : decode cL_law 807 = .ok (.iconst 1, 1) := by decide +kernel
theorem dL_law_808 : decode cL_law 808 = .ok (.iadd, 1) := by decide +kernel
theorem dL_law_809 : decode cL_law 809 = .ok (.iaload, 1) := by decide +kernel
theorem dL_law_810 : decode cL_law 810 = .ok (.aload_n 0, 1) := by decide +kernel
theorem dL_law_811 : decode cL_law 811 = .ok (.iload_n 3, 1) := by decide +kernel
theorem dL_law_812 : decode cL_law 812 = .ok (.iconst 2, 1) := by decide +kernel
theorem dL_law_813 : decode cL_law 813 = .ok (.iadd, 1) := by decide +kernel
theorem dL_law_814 : decode cL_law 814 = .ok (.iaload, 1) := by decide +kernel
theorem dL_law_815 : decode cL_law 815 = .ok (.aload_n 0, 1) := by decide +kernel
theorem dL_law_816 : decode cL_law 816 = .ok (.iload_n 3, 1) := by decide +kernel
theorem dL_law_817 : decode cL_law 817 = .ok (.iconst 3, 1) := by decide +kernel
theorem dL_law_818 : decode cL_law 818 = .ok (.iadd, 1) := by decide +kernel
theorem dL_law_819 : decode cL_law 819 = .ok (.iaload, 1) := by decide +kernel
theorem dL_law_820 : decode cL_law 820 = .ok (.invokevirtual 125, 3) := by decide +kernel
theorem dL_law_823 : decode cL_law 823 = .ok (.aload_n 2, 1) := by decide +kernel
theorem dL_law_824 : decode cL_law 824 = .ok (.aload_n 0, 1) := by decide +kernel
theorem dL_law_825 : decode cL_law 825 = .ok (.iload_n 3, 1) := by decide +kernel
theorem dL_law_826 : decode cL_law 826 = .ok (.iconst 1, 1) := by decide +kernel
theorem dL_law_827 : decode cL_law 827 = .ok (.iadd, 1) := by decide +kernel
theorem dL_law_828 : decode cL_law 828 = .ok (.iaload, 1) := by decide +kernel
theorem dL_law_829 : decode cL_law 829 = .ok (.aload_n 0, 1) := by decide +kernel
theorem dL_law_830 : decode cL_law 830 = .ok (.iload_n 3, 1) := by decide +kernel
theorem dL_law_831 : decode cL_law 831 = .ok (.iconst 2, 1) := by decide +kernel
theorem dL_law_832 : decode cL_law 832 = .ok (.iadd, 1) := by decide +kernel
theorem dL_law_833 : decode cL_law 833 = .ok (.iaload, 1) := by decide +kernel
theorem dL_law_834 : decode cL_law 834 = .ok (.aload_n 0, 1) := by decide +kernel
theorem dL_law_835 : decode cL_law 835 = .ok (.iload_n 3, 1) := by decide +kernel
theorem dL_law_836 : decode cL_law 836 = .ok (.iconst 3, 1) := by decide +kernel
theorem dL_law_837 : decode cL_law 837 = .ok (.iadd, 1) := by decide +kernel
theorem dL_law_838 : decode cL_law 838 = .ok (.iaload, 1) := by decide +kernel
theorem dL_law_839 : decode cL_law 839 = .ok (.invokevirtual 129, 3) := by decide +kernel
theorem dL_law_842 : decode cL_law 842 = .ok (.if_icmp .eq 290, 3) := by decide +kernel
theorem dL_law_845 : decode cL_law 845 = .ok (.iconst 0, 1) := by decide +kernel
theorem dL_law_846 : decode cL_law 846 = .ok (.ireturn, 1) := by decide +kernel
theorem dL_law_847 : decode cL_law 847 = .ok (.aload_n 1, 1) := by decide +kernel
theorem dL_law_848 : decode cL_law 848 = .ok (.aload_n 0, 1) := by decide +kernel
theorem dL_law_849 : decode cL_law 849 = .ok (.iload_n 3, 1) := by decide +kernel
theorem dL_law_850 : decode cL_law 850 = .ok (.iconst 1, 1) := by decide +kernel
theorem dL_law_851 : decode cL_law 851 = .ok (.iadd, 1) := by decide +kernel
theorem dL_law_852 : decode cL_law 852 = .ok (.iaload, 1) := by decide +kernel
theorem dL_law_853 : decode cL_law 853 = .ok (.aload_n 0, 1) := by decide +kernel
theorem dL_law_854 : decode cL_law 854 = .ok (.iload_n 3, 1) := by decide +kernel
theorem dL_law_855 : decode cL_law 855 = .ok (.iconst 2, 1) := by decide +kernel
theorem dL_law_856 : decode cL_law 856 = .ok (.iadd, 1) := by decide +kernel
theorem dL_law_857 : decode cL_law 857 = .ok (.iaload, 1) := by decide +kernel
theorem dL_law_858 : decode cL_law 858 = .ok (.aload_n 0, 1) := by decide +kernel
theorem dL_law_859 : decode cL_law 859 = .ok (.iload_n 3, 1) := by decide +kernel
theorem dL_law_860 : decode cL_law 860 = .ok (.iconst 3, 1) := by decide +kernel
theorem dL_law_861 : decode cL_law 861 = .ok (.iadd, 1) := by decide +kernel
theorem dL_law_862 : decode cL_law 862 = .ok (.iaload, 1) := by decide +kernel
theorem dL_law_863 : decode cL_law 863 = .ok (.invokevirtual 130, 3) := by decide +kernel
theorem dL_law_866 : decode cL_law 866 = .ok (.aload_n 2, 1) := by decide +kernel
theorem dL_law_867 : decode cL_law 867 = .ok (.aload_n 0, 1) := by decide +kernel
theorem dL_law_868 : decode cL_law 868 = .ok (.iload_n 3, 1) := by decide +kernel
theorem dL_law_869 : decode cL_law 869 = .ok (.iconst 1, 1) := by decide +kernel
theorem dL_law_870 : decode cL_law 870 = .ok (.iadd, 1) := by decide +kernel
theorem dL_law_871 : decode cL_law 871 = .ok (.iaload, 1) := by decide +kernel
theorem dL_law_872 : decode cL_law 872 = .ok (.aload_n 0, 1) := by decide +kernel
theorem dL_law_873 : decode cL_law 873 = .ok (.iload_n 3, 1) := by decide +kernel
theorem dL_law_874 : decode cL_law 874 = .ok (.iconst 2, 1) := by decide +kernel
theorem dL_law_875 : decode cL_law 875 = .ok (.iadd, 1) := by decide +kernel
theorem dL_law_876 : decode cL_law 876 = .ok (.iaload, 1) := by decide +kernel
theorem dL_law_877 : decode cL_law 877 = .ok (.aload_n 0, 1) := by decide +kernel
theorem dL_law_878 : decode cL_law 878 = .ok (.iload_n 3, 1) := by decide +kernel
theorem dL_law_879 : decode cL_law 879 = .ok (.iconst 3, 1) := by decide +kernel
theorem dL_law_880 : decode cL_law 880 = .ok (.iadd, 1) := by decide +kernel
theorem dL_law_881 : decode cL_law 881 = .ok (.iaload, 1) := by decide +kernel
theorem dL_law_882 : decode cL_law 882 = .ok (.invokevirtual 133, 3) := by decide +kernel
theorem dL_law_885 : decode cL_law 885 = .ok (.if_icmp .eq 247, 3) := by decide +kernel
theorem dL_law_888 : decode cL_law 888 = .ok (.iconst 0, 1) := by decide +kernel
theorem dL_law_889 : decode cL_law 889 = .ok (.ireturn, 1) := by decide +kernel
theorem dL_law_890 : decode cL_law 890 = .ok (.aload_n 1, 1) := by decide +kernel
theorem dL_law_891 : decode cL_law 891 = .ok (.aload_n 0, 1) := by decide +kernel
theorem dL_law_892 : decode cL_law 892 = .ok (.iload_n 3, 1) := by decide +kernel
theorem dL_law_893 : decode cL_law 893 = .ok (.iconst 1, 1) := by decide +kernel
theorem dL_law_894 : decode cL_law 894 = .ok (.iadd, 1) := by decide +kernel
theorem dL_law_895 : decode cL_law 895 = .ok (.iaload, 1) := by decide +kernel
theorem dL_law_896 : decode cL_law 896 = .ok (.invokevirtual 134, 3) := by decide +kernel
theorem dL_law_899 : decode cL_law 899 = .ok (.aload_n 2, 1) := by decide +kernel
theorem dL_law_900 : decode cL_law 900 = .ok (.aload_n 0, 1) := by decide +kernel
theorem dL_law_901 : decode cL_law 901 = .ok (.iload_n 3, 1) := by decide +kernel
theorem dL_law_902 : decode cL_law 902 = .ok (.iconst 1, 1) := by decide +kernel
theorem dL_law_903 : decode cL_law 903 = .ok (.iadd, 1) := by decide +kernel
theorem dL_law_904 : decode cL_law 904 = .ok (.iaload, 1) := by decide +kernel
theorem dL_law_905 : decode cL_law 905 = .ok (.invokevirtual 137, 3) := by decide +kernel
theorem dL_law_908 : decode cL_law 908 = .ok (.if_icmp .eq 224, 3) := by decide +kernel
theorem dL_law_911 : decode cL_law 911 = .ok (.iconst 0, 1) := by decide +kernel
theorem dL_law_912 : decode cL_law 912 = .ok (.ireturn, 1) := by decide +kernel
theorem dL_law_913 : decode cL_law 913 = .ok (.aload_n 1, 1) := by decide +kernel
theorem dL_law_914 : decode cL_law 914 = .ok (.aload_n 0, 1) := by decide +kernel
theorem dL_law_915 : decode cL_law 915 = .ok (.iload_n 3, 1) := by decide +kernel
theorem dL_law_916 : decode cL_law 916 = .ok (.iconst 1, 1) := by decide +kernel
theorem dL_law_917 : decode cL_law 917 = .ok (.iadd, 1) := by decide +kernel
theorem dL_law_918 : decode cL_law 918 = .ok (.iaload, 1) := by decide +kernel
theorem dL_law_919 : decode cL_law 919 = .ok (.aload_n 0, 1) := by decide +kernel
theorem dL_law_920 : decode cL_law 920 = .ok (.iload_n 3, 1) := by decide +kernel
theorem dL_law_921 : decode cL_law 921 = .ok (.iconst 2, 1) := by decide +kernel
theorem dL_law_922 : decode cL_law 922 = .ok (.iadd, 1) := by decide +kernel
theorem dL_law_923 : decode cL_law 923 = .ok (.iaload, 1) := by decide +kernel
theorem dL_law_924 : decode cL_law 924 = .ok (.aload_n 0, 1) := by decide +kernel
theorem dL_law_925 : decode cL_law 925 = .ok (.iload_n 3, 1) := by decide +kernel
theorem dL_law_926 : decode cL_law 926 = .ok (.iconst 3, 1) := by decide +kernel
theorem dL_law_927 : decode cL_law 927 = .ok (.iadd, 1) := by decide +kernel
theorem dL_law_928 : decode cL_law 928 = .ok (.iaload, 1) := by decide +kernel
theorem dL_law_929 : decode cL_law 929 = .ok (.aload_n 0, 1) := by decide +kernel
theorem dL_law_930 : decode cL_law 930 = .ok (.iload_n 3, 1) := by decide +kernel
theorem dL_law_931 : decode cL_law 931 = .ok (.iconst 4, 1) := by decide +kernel
theorem dL_law_932 : decode cL_law 932 = .ok (.iadd, 1) := by decide +kernel
theorem dL_law_933 : decode cL_law 933 = .ok (.iaload, 1) := by decide +kernel
theorem dL_law_934 : decode cL_law 934 = .ok (.invokevirtual 138, 3) := by decide +kernel
theorem dL_law_937 : decode cL_law 937 = .ok (.aload_n 2, 1) := by decide +kernel
theorem dL_law_938 : decode cL_law 938 = .ok (.aload_n 0, 1) := by decide +kernel
theorem dL_law_939 : decode cL_law 939 = .ok (.iload_n 3, 1) := by decide +kernel
theorem dL_law_940 : decode cL_law 940 = .ok (.iconst 1, 1) := by decide +kernel
theorem dL_law_941 : decode cL_law 941 = .ok (.iadd, 1) := by decide +kernel
theorem dL_law_942 : decode cL_law 942 = .ok (.iaload, 1) := by decide +kernel
theorem dL_law_943 : decode cL_law 943 = .ok (.aload_n 0, 1) := by decide +kernel
theorem dL_law_944 : decode cL_law 944 = .ok (.iload_n 3, 1) := by decide +kernel
theorem dL_law_945 : decode cL_law 945 = .ok (.iconst 2, 1) := by decide +kernel
theorem dL_law_946 : decode cL_law 946 = .ok (.iadd, 1) := by decide +kernel
theorem dL_law_947 : decode cL_law 947 = .ok (.iaload, 1) := by decide +kernel
theorem dL_law_948 : decode cL_law 948 = .ok (.aload_n 0, 1) := by decide +kernel
theorem dL_law_949 : decode cL_law 949 = .ok (.iload_n 3, 1) := by decide +kernel
theorem dL_law_950 : decode cL_law 950 = .ok (.iconst 3, 1) := by decide +kernel
theorem dL_law_951 : decode cL_law 951 = .ok (.iadd, 1) := by decide +kernel
theorem dL_law_952 : decode cL_law 952 = .ok (.iaload, 1) := by decide +kernel
theorem dL_law_953 : decode cL_law 953 = .ok (.aload_n 0, 1) := by decide +kernel
theorem dL_law_954 : decode cL_law 954 = .ok (.iload_n 3, 1) := by decide +kernel
theorem dL_law_955 : decode cL_law 955 = .ok (.iconst 4, 1) := by decide +kernel
theorem dL_law_956 : decode cL_law 956 = .ok (.iadd, 1) := by decide +kernel
theorem dL_law_957 : decode cL_law 957 = .ok (.iaload, 1) := by decide +kernel
theorem dL_law_958 : decode cL_law 958 = .ok (.invokevirtual 142, 3) := by decide +kernel
theorem dL_law_961 : decode cL_law 961 = .ok (.if_icmp .eq 171, 3) := by decide +kernel
theorem dL_law_964 : decode cL_law 964 = .ok (.iconst 0, 1) := by decide +kernel
theorem dL_law_965 : decode cL_law 965 = .ok (.ireturn, 1) := by decide +kernel
theorem dL_law_966 : decode cL_law 966 = .ok (.aload_n 1, 1) := by decide +kernel
theorem dL_law_967 : decode cL_law 967 = .ok (.aload_n 0, 1) := by decide +kernel
theorem dL_law_968 : decode cL_law 968 = .ok (.iload_n 3, 1) := by decide +kernel
theorem dL_law_969 : decode cL_law 969 = .ok (.iconst 1, 1) := by decide +kernel
theorem dL_law_970 : decode cL_law 970 = .ok (.iadd, 1) := by decide +kernel
theorem dL_law_971 : decode cL_law 971 = .ok (.iaload, 1) := by decide +kernel
theorem dL_law_972 : decode cL_law 972 = .ok (.aload_n 0, 1) := by decide +kernel
theorem dL_law_973 : decode cL_law 973 = .ok (.iload_n 3, 1) := by decide +kernel
theorem dL_law_974 : decode cL_law 974 = .ok (.iconst 2, 1) := by decide +kernel
theorem dL_law_975 : decode cL_law 975 = .ok (.iadd, 1) := by decide +kernel
theorem dL_law_976 : decode cL_law 976 = .ok (.iaload, 1) := by decide +kernel
theorem dL_law_977 : decode cL_law 977 = .ok (.aload_n 0, 1) := by decide +kernel
theorem dL_law_978 : decode cL_law 978 = .ok (.iload_n 3, 1) := by decide +kernel
theorem dL_law_979 : decode cL_law 979 = .ok (.iconst 3, 1) := by decide +kernel
theorem dL_law_980 : decode cL_law 980 = .ok (.iadd, 1) := by decide +kernel
theorem dL_law_981 : decode cL_law 981 = .ok (.iaload, 1) := by decide +kernel
theorem dL_law_982 : decode cL_law 982 = .ok (.invokevirtual 143, 3) := by decide +kernel
theorem dL_law_985 : decode cL_law 985 = .ok (.aload_n 2, 1) := by decide +kernel
theorem dL_law_986 : decode cL_law 986 = .ok (.aload_n 0, 1) := by decide +kernel
theorem dL_law_987 : decode cL_law 987 = .ok (.iload_n 3, 1) := by decide +kernel
theorem dL_law_988 : decode cL_law 988 = .ok (.iconst 1, 1) := by decide +kernel
theorem dL_law_989 : decode cL_law 989 = .ok (.iadd, 1) := by decide +kernel
theorem dL_law_990 : decode cL_law 990 = .ok (.iaload, 1) := by decide +kernel
theorem dL_law_991 : decode cL_law 991 = .ok (.aload_n 0, 1) := by decide +kernel
theorem dL_law_992 : decode cL_law 992 = .ok (.iload_n 3, 1) := by decide +kernel
theorem dL_law_993 : decode cL_law 993 = .ok (.iconst 2, 1) := by decide +kernel
theorem dL_law_994 : decode cL_law 994 = .ok (.iadd, 1) := by decide +kernel
theorem dL_law_995 : decode cL_law 995 = .ok (.iaload, 1) := by decide +kernel
theorem dL_law_996 : decode cL_law 996 = .ok (.aload_n 0, 1) := by decide +kernel
theorem dL_law_997 : decode cL_law 997 = .ok (.iload_n 3, 1) := by decide +kernel
theorem dL_law_998 : decode cL_law 998 = .ok (.iconst 3, 1) := by decide +kernel
theorem dL_law_999 : decode cL_law 999 = .ok (.iadd, 1) := by decide +kernel
theorem dL_law_1000 : decode cL_law 1000 = .ok (.iaload, 1) := by decide +kernel
theorem dL_law_1001 : decode cL_law 1001 = .ok (.invokevirtual 146, 3) := by decide +kernel
theorem dL_law_1004 : decode cL_law 1004 = .ok (.if_icmp .eq 128, 3) := by decide +kernel
theorem dL_law_1007 : decode cL_law 1007 = .ok (.iconst 0, 1) := by decide +kernel
theorem dL_law_1008 : decode cL_law 1008 = .ok (.ireturn, 1) := by decide +kernel
theorem dL_law_1009 : decode cL_law 1009 = .ok (.aload_n 1, 1) := by decide +kernel
theorem dL_law_1010 : decode cL_law 1010 = .ok (.aload_n 0, 1) := by decide +kernel
theorem dL_law_1011 : decode cL_law 1011 = .ok (.iload_n 3, 1) := by decide +kernel
theorem dL_law_1012 : decode cL_law 1012 = .ok (.iconst 1, 1) := by decide +kernel
theorem dL_law_1013 : decode cL_law 1013 = .ok (.iadd, 1) := by decide +kernel
theorem dL_law_1014 : decode cL_law 1014 = .ok (.iaload, 1) := by decide +kernel
theorem dL_law_1015 : decode cL_law 1015 = .ok (.aload_n 0, 1) := by decide +kernel
theorem dL_law_1016 : decode cL_law 1016 = .ok (.iload_n 3, 1) := by decide +kernel
theorem dL_law_1017 : decode cL_law 1017 = .ok (.iconst 2, 1) := by decide +kernel
theorem dL_law_1018 : decode cL_law 1018 = .ok (.iadd, 1) := by decide +kernel
theorem dL_law_1019 : decode cL_law 1019 = .ok (.iaload, 1) := by decide +kernel
theorem dL_law_1020 : decode cL_law 1020 = .ok (.aload_n 0, 1) := by decide +kernel
theorem dL_law_1021 : decode cL_law 1021 = .ok (.iload_n 3, 1) := by decide +kernel
theorem dL_law_1022 : decode cL_law 1022 = .ok (.iconst 3, 1) := by decide +kernel
theorem dL_law_1023 : decode cL_law 1023 = .ok (.iadd, 1) := by decide +kernel
theorem dL_law_1024 : decode cL_law 1024 = .ok (.iaload, 1) := by decide +kernel
theorem dL_law_1025 : decode cL_law 1025 = .ok (.aload_n 0, 1) := by decide +kernel
theorem dL_law_1026 : decode cL_law 1026 = .ok (.iload_n 3, 1) := by decide +kernel
theorem dL_law_1027 : decode cL_law 1027 = .ok (.iconst 4, 1) := by decide +kernel
theorem dL_law_1028 : decode cL_law 1028 = .ok (.iadd, 1) := by decide +kernel
theorem dL_law_1029 : decode cL_law 1029 = .ok (.iaload, 1) := by decide +kernel
theorem dL_law_1030 : decode cL_law 1030 = .ok (.aload_n 0, 1) := by decide +kernel
theorem dL_law_1031 : decode cL_law 1031 = .ok (.iload_n 3, 1) := by decide +kernel
theorem dL_law_1032 : decode cL_law 1032 = .ok (.iconst 5, 1) := by decide +kernel
theorem dL_law_1033 : decode cL_law 1033 = .ok (.iadd, 1) := by decide +kernel
theorem dL_law_1034 : decode cL_law 1034 = .ok (.iaload, 1) := by decide +kernel
theorem dL_law_1035 : decode cL_law 1035 = .ok (.invokevirtual 147, 3) := by decide +kernel
theorem dL_law_1038 : decode cL_law 1038 = .ok (.aload_n 2, 1) := by decide +kernel
theorem dL_law_1039 : decode cL_law 1039 = .ok (.aload_n 0, 1) := by decide +kernel
theorem dL_law_1040 : decode cL_law 1040 = .ok (.iload_n 3, 1) := by decide +kernel
theorem dL_law_1041 : decode cL_law 1041 = .ok (.iconst 1, 1) := by decide +kernel
theorem dL_law_1042 : decode cL_law 1042 = .ok (.iadd, 1) := by decide +kernel
theorem dL_law_1043 : decode cL_law 1043 = .ok (.iaload, 1) := by decide +kernel
theorem dL_law_1044 : decode cL_law 1044 = .ok (.aload_n 0, 1) := by decide +kernel
theorem dL_law_1045 : decode cL_law 1045 = .ok (.iload_n 3, 1) := by decide +kernel
theorem dL_law_1046 : decode cL_law 1046 = .ok (.iconst 2, 1) := by decide +kernel
theorem dL_law_1047 : decode cL_law 1047 = .ok (.iadd, 1) := by decide +kernel
theorem dL_law_1048 : decode cL_law 1048 = .ok (.iaload, 1) := by decide +kernel
theorem dL_law_1049 : decode cL_law 1049 = .ok (.aload_n 0, 1) := by decide +kernel
theorem dL_law_1050 : decode cL_law 1050 = .ok (.iload_n 3, 1) := by decide +kernel
theorem dL_law_1051 : decode cL_law 1051 = .ok (.iconst 3, 1) := by decide +kernel
theorem dL_law_1052 : decode cL_law 1052 = .ok (.iadd, 1) := by decide +kernel
theorem dL_law_1053 : decode cL_law 1053 = .ok (.iaload, 1) := by decide +kernel
theorem dL_law_1054 : decode cL_law 1054 = .ok (.aload_n 0, 1) := by decide +kernel
theorem dL_law_1055 : decode cL_law 1055 = .ok (.iload_n 3, 1) := by decide +kernel
theorem dL_law_1056 : decode cL_law 1056 = .ok (.iconst 4, 1) := by decide +kernel
theorem dL_law_1057 : decode cL_law 1057 = .ok (.iadd, 1) := by decide +kernel
theorem dL_law_1058 : decode cL_law 1058 = .ok (.iaload, 1) := by decide +kernel
theorem dL_law_1059 : decode cL_law 1059 = .ok (.aload_n 0, 1) := by decide +kernel
theorem dL_law_1060 : decode cL_law 1060 = .ok (.iload_n 3, 1) := by decide +kernel
theorem dL_law_1061 : decode cL_law 1061 = .ok (.iconst 5, 1) := by decide +kernel
theorem dL_law_1062 : decode cL_law 1062 = .ok (.iadd, 1) := by decide +kernel
theorem dL_law_1063 : decode cL_law 1063 = .ok (.iaload, 1) := by decide +kernel
theorem dL_law_1064 : decode cL_law 1064 = .ok (.invokevirtual 151, 3) := by decide +kernel
theorem dL_law_1067 : decode cL_law 1067 = .ok (.if_icmp .eq 65, 3) := by decide +kernel
theorem dL_law_1070 : decode cL_law 1070 = .ok (.iconst 0, 1) := by decide +kernel
theorem dL_law_1071 : decode cL_law 1071 = .ok (.ireturn, 1) := by decide +kernel
theorem dL_law_1072 : decode cL_law 1072 = .ok (.aload_n 1, 1) := by decide +kernel
theorem dL_law_1073 : decode cL_law 1073 = .ok (.aload_n 0, 1) := by decide +kernel
theorem dL_law_1074 : decode cL_law 1074 = .ok (.iload_n 3, 1) := by decide +kernel
theorem dL_law_1075 : decode cL_law 1075 = .ok (.iconst 1, 1) := by decide +kernel
theorem dL_law_1076 : decode cL_law 1076 = .ok (.iadd, 1) := by decide +kernel
theorem dL_law_1077 : decode cL_law 1077 = .ok (.iaload, 1) := by decide +kernel
theorem dL_law_1078 : decode cL_law 1078 = .ok (.invokevirtual 152, 3) := by decide +kernel
theorem dL_law_1081 : decode cL_law 1081 = .ok (.aload_n 2, 1) := by decide +kernel
theorem dL_law_1082 : decode cL_law 1082 = .ok (.aload_n 0, 1) := by decide +kernel
theorem dL_law_1083 : decode cL_law 1083 = .ok (.iload_n 3, 1) := by decide +kernel
theorem dL_law_1084 : decode cL_law 1084 = .ok (.iconst 1, 1) := by decide +kernel
theorem dL_law_1085 : decode cL_law 1085 = .ok (.iadd, 1) := by decide +kernel
theorem dL_law_1086 : decode cL_law 1086 = .ok (.iaload, 1) := by decide +kernel
theorem dL_law_1087 : decode cL_law 1087 = .ok (.invokevirtual 155, 3) := by decide +kernel
theorem dL_law_1090 : decode cL_law 1090 = .ok (.if_icmp .eq 42, 3) := by decide +kernel
theorem dL_law_1093 : decode cL_law 1093 = .ok (.iconst 0, 1) := by decide +kernel
theorem dL_law_1094 : decode cL_law 1094 = .ok (.ireturn, 1) := by decide +kernel
theorem dL_law_1095 : decode cL_law 1095 = .ok (.aload_n 1, 1) := by decide +kernel
theorem dL_law_1096 : decode cL_law 1096 = .ok (.aload_n 0, 1) := by decide +kernel
theorem dL_law_1097 : decode cL_law 1097 = .ok (.iload_n 3, 1) := by decide +kernel
theorem dL_law_1098 : decode cL_law 1098 = .ok (.iconst 1, 1) := by decide +kernel
theorem dL_law_1099 : decode cL_law 1099 = .ok (.iadd, 1) := by decide +kernel
theorem dL_law_1100 : decode cL_law 1100 = .ok (.iaload, 1) := by decide +kernel
theorem dL_law_1101 : decode cL_law 1101 = .ok (.invokevirtual 156, 3) := by decide +kernel
theorem dL_law_1104 : decode cL_law 1104 = .ok (.aload_n 2, 1) := by decide +kernel
theorem dL_law_1105 : decode cL_law 1105 = .ok (.aload_n 0, 1) := by decide +kernel
theorem dL_law_1106 : decode cL_law 1106 = .ok (.iload_n 3, 1) := by decide +kernel
theorem dL_law_1107 : decode cL_law 1107 = .ok (.iconst 1, 1) := by decide +kernel
theorem dL_law_1108 : decode cL_law 1108 = .ok (.iadd, 1) := by decide +kernel
theorem dL_law_1109 : decode cL_law 1109 = .ok (.iaload, 1) := by decide +kernel
theorem dL_law_1110 : decode cL_law 1110 = .ok (.invokevirtual 159, 3) := by decide +kernel
theorem dL_law_1113 : decode cL_law 1113 = .ok (.if_icmp .eq 19, 3) := by decide +kernel
theorem dL_law_1116 : decode cL_law 1116 = .ok (.iconst 0, 1) := by decide +kernel
theorem dL_law_1117 : decode cL_law 1117 = .ok (.ireturn, 1) := by decide +kernel
theorem dL_law_1118 : decode cL_law 1118 = .ok (.aload_n 1, 1) := by decide +kernel
theorem dL_law_1119 : decode cL_law 1119 = .ok (.invokevirtual 160, 3) := by decide +kernel
theorem dL_law_1122 : decode cL_law 1122 = .ok (.aload_n 2, 1) := by decide +kernel
theorem dL_law_1123 : decode cL_law 1123 = .ok (.invokevirtual 164, 3) := by decide +kernel
theorem dL_law_1126 : decode cL_law 1126 = .ok (.lcmp, 1) := by decide +kernel
theorem dL_law_1127 : decode cL_law 1127 = .ok (.ifCond .eq 5, 3) := by decide +kernel
theorem dL_law_1130 : decode cL_law 1130 = .ok (.iconst 0, 1) := by decide +kernel
theorem dL_law_1131 : decode cL_law 1131 = .ok (.ireturn, 1) := by decide +kernel
theorem dL_law_1132 : decode cL_law 1132 = .ok (.iinc 3 6, 3) := by decide +kernel
theorem dL_law_1135 : decode cL_law 1135 = .ok (.goto (-1117), 3) := by decide +kernel
theorem dL_law_1138 : decode cL_law 1138 = .ok (.iconst 1, 1) := by decide +kernel
theorem dL_law_1139 : decode cL_law 1139 = .ok (.ireturn, 1) := by decide +kernel
end
section
/-! the system's memory as numbers, and a judgement over it -/
abbrev tm_M : Type := Nat → Nat → Int
def tm_i (z : Int) : Value := .int (Int32.ofInt z)
def tm_l (z : Int) : Value := .long (Int64.ofInt z)
abbrev tm_Ev : Type := va_G × (Nat → Nat) × (Nat → ClassId) × (Nat → Nat) × Nat
/-- what lies at each place: (0, its class in vwCl, its fields: none a number, some q the place q), (1, length, []) a row of ints, 2 of longs, 3 of booleans, 4 on of places -/
def tm_tm : List (Nat × Nat × List (Option Nat)) := [
  (0, 7, [some 1, some 6, some 8, some 10, some 12, some 14, none, some 23, some 28, some 29, some 35, some 43, some 49, some 57, some 72, some 73, none, none, none]),
  (4, 2, [some 2, some 4]),
  (0, 2, [some 3, none]),
  (1, 40, []),
  (0, 2, [some 5, none]),
  (1, 47, []),
  (0, 2, [some 7, none]),
  (1, 6, []),
  (0, 2, [some 9, none]),
  (1, 6, []),
  (0, 2, [some 11, none]),
  (1, 8, []),
  (0, 2, [some 13, none]),
  (1, 8, []),
  (6, 4, [some 15, some 17, some 19, some 21]),
  (0, 6, [some 16, none, none]),
  (1, 60, []),
  (0, 6, [some 18, none, none]),
  (1, 60, []),
  (0, 6, [some 20, none, none]),
  (1, 60, []),
  (0, 6, [some 22, none, none]),
  (1, 60, []),
  (0, 1, [some 24, some 25, some 26, some 27, none]),
  (1, 8, []),
  (1, 8, []),
  (1, 8, []),
  (1, 8, []),
  (1, 5, []),
  (0, 0, [some 23, some 30, some 31, some 32, some 33, some 34, none]),
  (1, 5, []),
  (1, 40, []),
  (1, 40, []),
  (1, 40, []),
  (1, 8, []),
  (0, 5, [some 36, some 37, some 38, some 39, some 40, some 41, some 42, none]),
  (0, 4, [none, none, none, none]),
  (1, 40, []),
  (1, 40, []),
  (1, 40, []),
  (1, 40, []),
  (1, 40, []),
  (1, 8, []),
  (0, 0, [some 23, some 44, some 45, some 46, some 47, some 48, none]),
  (1, 5, []),
  (1, 40, []),
  (1, 40, []),
  (1, 40, []),
  (1, 8, []),
  (0, 5, [some 50, some 51, some 52, some 53, some 54, some 55, some 56, none]),
  (0, 4, [none, none, none, none]),
  (1, 40, []),
  (1, 40, []),
  (1, 40, []),
  (1, 40, []),
  (1, 40, []),
  (1, 8, []),
  (0, 3, [some 58, some 59, some 60, some 61, some 62, none]),
  (5, 9, [some 63, some 64, some 65, some 66, some 67, some 68, some 69, some 70, some 71]),
  (1, 8, []),
  (1, 8, []),
  (1, 1021, []),
  (1, 1021, []),
  (0, 4, [none, none, none, none]),
  (0, 4, [none, none, none, none]),
  (0, 4, [none, none, none, none]),
  (0, 4, [none, none, none, none]),
  (0, 4, [none, none, none, none]),
  (0, 4, [none, none, none, none]),
  (0, 4, [none, none, none, none]),
  (0, 4, [none, none, none, none]),
  (0, 4, [none, none, none, none]),
  (2, 8, []),
  (1, 840, []),
  (0, 8, [some 75, some 76, none, some 77, none, some 78, some 79, some 80, some 81, some 82, none, some 83, none, some 84, some 85, none, none, none, some 86, none, none, none, none, none, none, none, none, none, some 87, some 88, some 89, some 90, some 91, some 92, some 93, none, some 94, some 95, some 96, some 97, some 98, some 99, some 100, some 101, none]),
  (1, 2, []),
  (1, 94, []),
  (1, 40, []),
  (1, 9, []),
  (1, 9, []),
  (1, 9, []),
  (1, 9, []),
  (1, 5, []),
  (1, 6, []),
  (1, 7, []),
  (1, 40, []),
  (1, 8, []),
  (1, 40, []),
  (1, 40, []),
  (1, 40, []),
  (1, 40, []),
  (1, 40, []),
  (1, 8, []),
  (1, 8, []),
  (1, 8, []),
  (1, 8, []),
  (1, 840, []),
  (3, 4, []),
  (1, 4, []),
  (1, 4, []),
  (1, 240, []),
  (1, 60, [])]
def tm_F (ad : Nat → Nat) (f : Nat → Int) : Nat → List (Option Nat) → List Value
  | _, [] => []
  | j, none :: r => tm_i (f j) :: tm_F ad f (j + 1) r
  | j, some q :: r => .ref (ad q) :: tm_F ad f (j + 1) r
def tm_e (ad : Nat → Nat) (cy : Nat → ClassId) (f : Nat → Int) (t : Nat × Nat × List (Option Nat)) : va_E :=
  match t with
  | (0, n, fs) => .inr (n, tm_F ad f 0 fs)
  | (1, n, _) => .inl (cy 0, n, .inl (fun j => Int32.ofInt (f j)))
  | (2, n, _) => .inl (cy 1, n, .inr (.inl (fun j => Int64.ofInt (f j))))
  | (3, n, _) => .inl (cy 2, n, .inl (fun j => Int32.ofInt (f j)))
  | (r + 4, n, fs) => .inl (cy (r + 3), n, .inr (.inr (.inr (.inr (fun j => (fs.getD j none).map ad)))))
def tm_E (E : tm_Ev) (k : Nat) (f : Nat → Int) : va_E := tm_e E.2.1 E.2.2.1 f (tm_tm.getD k (0, 0, []))
def tm_ws (E : tm_Ev) (μ : tm_M) : va_W := (List.range 102).map (fun k => (E.2.1 k, tm_E E k (μ k)))
def tm_A (E : tm_Ev) : Nat → Prop := fun q => E.2.2.2.2 ≤ q
def tm_tys (E : tm_Ev) : List (ClassId × FieldType) := [(E.2.2.1 0, .int), (E.2.2.1 1, .long), (E.2.2.1 2, .boolean), (E.2.2.1 3, .object RX2), (E.2.2.1 4, .object RX4), (E.2.2.1 5, .object RX6)]
def tm_up (μ : tm_M) (k j : Nat) (z : Int) : tm_M := fun a b => if a = k then (if b = j then z else μ a b) else μ a b
theorem tm_us {μ : tm_M} {k j : Nat} {z : Int} : tm_up μ k j z k j = z := by simp [tm_up]
theorem tm_uk {μ : tm_M} {k j a b : Nat} {z : Int} (h : a ≠ k) : tm_up μ k j z a b = μ a b := by simp [tm_up, h]
theorem tm_uj {μ : tm_M} {k j a b : Nat} {z : Int} (h : b ≠ j) : tm_up μ k j z a b = μ a b := by
  unfold tm_up
  by_cases ha : a = k
  · rw [if_pos ha, if_neg h]
  · rw [if_neg ha]
theorem tm_uf {μ : tm_M} {k j a : Nat} {z : Int} (h : a ≠ k) : tm_up μ k j z a = μ a := by funext b; exact tm_uk h
theorem tm_len : tm_tm.length = 102 := by decide +kernel
theorem tm_lt {k : Nat} {t : Nat × Nat × List (Option Nat)} (h : tm_tm[k]? = some t) : k < 102 := by
  have := (List.getElem?_eq_some_iff.mp h).1
  rwa [tm_len] at this
theorem tm_Ek {E : tm_Ev} {k : Nat} {f : Nat → Int} {t : Nat × Nat × List (Option Nat)} (h : tm_tm[k]? = some t) : tm_E E k f = tm_e E.2.1 E.2.2.1 f t := by
  unfold tm_E
  rw [List.getD_eq_getElem?_getD, h]
  rfl
theorem tm_ws_at {E : tm_Ev} {μ : tm_M} {k : Nat} {t : Nat × Nat × List (Option Nat)} (h : tm_tm[k]? = some t) : (tm_ws E μ)[k]? = some (E.2.1 k, tm_e E.2.1 E.2.2.1 (μ k) t) := by
  have hk := tm_lt h
  simp [tm_ws, hk, tm_Ek h]
theorem tm_ws_set {E : tm_Ev} {μ μ' : tm_M} {k : Nat} {e : va_E} {t : Nat × Nat × List (Option Nat)} (h : tm_tm[k]? = some t) (he : tm_e E.2.1 E.2.2.1 (μ' k) t = e) (ho : ∀ a, a ≠ k → μ' a = μ a) : (tm_ws E μ).set k (E.2.1 k, e) = tm_ws E μ' := by
  apply List.ext_getElem?
  intro i
  by_cases hi : i = k
  · subst hi
    rw [List.getElem?_set_self (by simp [tm_ws]; exact tm_lt h), tm_ws_at h, he]
  · rw [List.getElem?_set_ne (Ne.symm hi)]
    simp only [tm_ws, List.getElem?_map]
    cases hr : (List.range 102)[i]? with
    | none => rfl
    | some x =>
      have hx : x = i := by
        have := List.getElem?_eq_some_iff.mp hr
        obtain ⟨h1, h2⟩ := this
        rw [← h2]; simp
      subst hx
      simp only [Option.map_some]
      rw [ho x hi]
theorem tm_F_at {ad : Nat → Nat} {f : Nat → Int} : ∀ (fs : List (Option Nat)) (j0 j : Nat), (tm_F ad f j0 fs)[j]? = (fs[j]?).map (fun o => match o with | none => tm_i (f (j0 + j)) | some q => .ref (ad q)) := by
  intro fs
  induction fs with
  | nil => intro j0 j; simp [tm_F]
  | cons o r ih =>
    intro j0 j
    cases o <;> cases j with
    | zero => simp [tm_F]
    | succ j => simp [tm_F, ih]; congr 1; funext o; cases o <;> simp; congr 1; congr 1; omega
theorem tm_F_len {ad : Nat → Nat} {f : Nat → Int} : ∀ (fs : List (Option Nat)) (j0 : Nat), (tm_F ad f j0 fs).length = fs.length := by
  intro fs
  induction fs with
  | nil => intro j0; rfl
  | cons o r ih => intro j0; cases o <;> simp [tm_F, ih]
theorem tm_F_set {ad : Nat → Nat} {f g : Nat → Int} {fs : List (Option Nat)} {j : Nat} {z : Int} (hj : fs[j]? = some none) (hz : g j = z) (ho : ∀ b, b ≠ j → g b = f b) : (tm_F ad f 0 fs).set j (tm_i z) = tm_F ad g 0 fs := by
  apply List.ext_getElem?
  intro i
  have hl := (List.getElem?_eq_some_iff.mp hj).1
  by_cases hi : i = j
  · subst hi
    rw [List.getElem?_set_self (by rw [tm_F_len]; exact hl), tm_F_at, hj]
    simp [hz]
  · rw [List.getElem?_set_ne (Ne.symm hi), tm_F_at, tm_F_at]
    cases fs[i]? with
    | none => rfl
    | some o => cases o <;> simp [ho i hi]
/-! words -/
def tm_tbl : List Cond := lw_tbl.filter goodWord
theorem tm_mem {w : Cond} (i : Nat) (h : lw_tbl[i]? = some w) (hg : goodWord w = true) : w ∈ tm_tbl := List.mem_filter.mpr ⟨List.mem_of_getElem? h, hg⟩
theorem tm_good {y : MethodName} {cc : ByteArray} {nL : Nat} {ret : Option FieldType} (h : Cond.code y cc nL ret ∈ tm_tbl) : GoodIn tm_tbl (.code y cc nL ret :: tm_tbl) := by
  intro w hw
  have hm : w ∈ tm_tbl := (List.mem_cons.mp hw).elim (fun e => e ▸ h) id
  exact ⟨hm, good_of_word (List.mem_filter.mp hm).2⟩
def tm_nst : List Cond := [.methodLinkNest RX1 28 yX7_orderFault RX7, .methodLinkNest RX0 31 yX7_tideFault RX7, .fieldLinkNest RX4 48 RX7 "GRAIN_WANTS" "[I" RX7, .fieldLinkNest RX4 55 RX7 "GRAIN_TAKES" "[I" RX7]
def tm_sn (j : Nat) : String := match j with | 0 => "DIAL_LEAST" | 1 => "DIAL_MOST" | 2 => "DIAL_FIRST" | 3 => "GRAIN_WANTS" | _ => "GRAIN_TAKES"
def tm_sl (j : Nat) : Nat := match j with | 0 => 5 | 1 => 5 | 2 => 5 | 3 => 3 | _ => 3
def tm_sv (j : Nat) : List Int := match j with | 0 => [0, 1, 0, 0, 1] | 1 => [20, 9, 9, 9, 9] | 2 => [10, 4, 0, 2, 5] | 3 => [2, 1, 0] | _ => [3, 2, 1]
def tm_K (E : tm_Ev) (U : State) : Prop :=
  va_K E.1 vwCl (tm_tys E) U ∧ (∀ k, k < 102 → E.2.2.2.2 ≤ E.2.1 k) ∧ (∀ i j, i < 102 → j < 102 → E.2.1 i = E.2.1 j → i = j) ∧
  (∀ j, j < 5 → va_Z RX7 (tm_sn j) "[I" (.ref (E.2.2.2.1 j)) (tm_A E) U U.heap ∧ va_T .int (E.2.2.2.1 j) (tm_sl j) (fun i => tm_i ((tm_sv j).getD i 0)) (tm_A E) U U.heap) ∧
  ∀ w ∈ tm_nst, va_Nw w U
theorem tm_K_step {E : tm_Ev} {s U : State} {H : Heap} {locs : List Loc} (h : tm_K E s) (hS : va_S (tm_A E) s.heap H locs) (hU : U.heap = H) (hW : s.WarmedH U.vm) : tm_K E U := by
  obtain ⟨h1, h2, h3, h4, h5⟩ := h
  refine ⟨va_K.moved hW.alike h1, h2, h3, fun j hj => ?_, fun w hw => ?_⟩
  · rw [hU]
    exact ⟨(va_Z.moved hW.alike (h4 j hj).1).kept hS.2.1, (va_T.moved hW.alike (h4 j hj).2).kept hS.2.1⟩
  · have h6 := h5 w hw
    simp only [tm_nst, List.mem_cons, List.not_mem_nil, or_false] at hw
    rcases hw with rfl | rfl | rfl | rfl
    · exact va_Nw.warmM hW h6
    · exact va_Nw.warmM hW h6
    · exact va_Nw.warmF hW h6
    · exact va_Nw.warmF hW h6
theorem tm_K_call {E : tm_Ev} {U : State} {g : JFrame} {mk : MethodId} {a : Array Value} (h : tm_K E U) : tm_K E (U.calling g mk a) := by
  obtain ⟨h1, h2, h3, h4, h5⟩ := h
  refine ⟨va_K.moved (u := U) (U := U.calling g mk a) (Vm.Alike.refl U.vm) h1, h2, h3, fun j hj => ?_, fun w hw => ?_⟩
  · exact ⟨va_Z.moved (u := U) (U := U.calling g mk a) (Vm.Alike.refl U.vm) (h4 j hj).1, va_T.moved (u := U) (U := U.calling g mk a) (Vm.Alike.refl U.vm) (h4 j hj).2⟩
  · have h6 := h5 w hw
    simp only [tm_nst, List.mem_cons, List.not_mem_nil, or_false] at hw
    rcases hw with rfl | rfl | rfl | rfl <;> exact va_Nw.same rfl (u := U) (U := U.calling g mk a) rfl h6
theorem tm_D {E : tm_Ev} {s : State} (K : tm_K E s) (μ : tm_M) : va_D (tm_A E) (tm_ws E μ) := by
  obtain ⟨-, h2, h3, -⟩ := K
  have key : ∀ (k : Nat) (q : Nat × va_E), (tm_ws E μ)[k]? = some q → k < 102 ∧ q.1 = E.2.1 k := by
    intro k q hk
    simp only [tm_ws, List.getElem?_map] at hk
    cases hr : (List.range 102)[k]? with
    | none => rw [hr] at hk; cases hk
    | some x =>
      rw [hr] at hk
      obtain ⟨a1, a2⟩ := List.getElem?_eq_some_iff.mp hr
      have hx : x = k := by rw [← a2]; simp
      subst hx
      simp at a1
      cases hk
      exact ⟨a1, rfl⟩
  refine ⟨fun i j p q hi hj hpq => ?_, fun k q hk => ?_⟩
  · obtain ⟨a1, a2⟩ := key i p hi
    obtain ⟨b1, b2⟩ := key j q hj
    exact h3 i j a1 b1 (by rw [← a2, ← b2]; exact hpq)
  · obtain ⟨a1, a2⟩ := key k q hk
    rw [a2]; exact h2 k a1
abbrev tm_X : Type := Program × Launch × Env × Room × State × MethodId × Array Value × List Frame × Method × Code
def tm_V (E : tm_Ev) (X : tm_X) (Q : State → Prop) (nL pc : Nat) (lv : List (Nat × Value)) (st : List Value) (μ : tm_M) : Prop :=
  ∀ (ls : Array Slot) (H : Heap) (locs : List Loc), lv_has ls nL lv → va_P E.1 vwCl (tm_ws E μ) H → va_S (tm_A E) X.2.2.2.2.1.heap H locs →
    W X.1 X.2.1 X.2.2.1 X.2.2.2.1 X.2.2.2.2.1 X.2.2.2.2.2.1 X.2.2.2.2.2.2.1 X.2.2.2.2.2.2.2.1 X.2.2.2.2.2.2.2.2.1 X.2.2.2.2.2.2.2.2.2 H locs 0 0 Q (F0 X.2.2.2.2.2.1 pc ls st)
def tm_rm (d : Nat) : Room := { frames := d, cells := 0, slots := 0, locals := 40 * d }
def tm_C (E : tm_Ev) (X : tm_X) (own : String) (cc : ByteArray) (nL : Nat) (ret : Option FieldType) (d : Nat) : Prop :=
  X.1.tables.exec = Jvm.exec ∧ X.2.2.2.2.2.2.2.2.2.code = cc ∧ X.2.2.2.2.2.2.2.2.2.maxLocals = nL ∧ X.2.2.2.2.1.vm.findClass own = some X.2.2.2.2.2.1.cls ∧ (∀ w ∈ tm_tbl, w.before X.2.2.2.2.2.2.1 X.2.2.2.2.1 = true) ∧ tm_K E X.2.2.2.2.1 ∧ X.2.2.2.1 = tm_rm d ∧ X.2.2.2.2.2.2.2.2.1.sig.returnType = ret ∧ X.2.2.2.2.2.2.2.2.1.locks = false
def tm_Qc (E : tm_Ev) (post : Option Value → tm_M → Prop) : Array Value → State → Outcome → State → Prop := fun _ st oc t => (∃ (v : Option Value) (μ' : tm_M), oc = .returned v ∧ post v μ' ∧ va_P E.1 vwCl (tm_ws E μ') t.heap) ∧ va_F (tm_A E) st t
def tm_Q (E : tm_Ev) (X : tm_X) (post : Option Value → tm_M → Prop) : State → Prop := MQ X.2.2.2.2.2.2.2.1 (tm_Qc E post) X.2.2.2.2.2.2.1 X.2.2.2.2.1 0 0 (tm_A E)
def tm_Met (E : tm_Ev) (l : Launch) (y : MethodName) (cc : ByteArray) (nL : Nat) (ret : Option FieldType) (d : Nat) (As : List Value) (μ : tm_M) (post : Option Value → tm_M → Prop) : Prop :=
  Met l y (.code y cc nL ret :: tm_tbl) (tm_rm d) (va_Pc As (fun U => va_P E.1 vwCl (tm_ws E μ) U.heap ∧ tm_K E U)) (tm_Qc E post) 0 0 (tm_A E)
theorem tm_blind {E : tm_Ev} {As : List Value} {μ : tm_M} : FrameBlind (va_Pc As (fun U => va_P E.1 vwCl (tm_ws E μ) U.heap ∧ tm_K E U)) := by
  intro a U g mk h
  exact ⟨h.1, h.2.1, tm_K_call h.2.2⟩
theorem tm_intro {E : tm_Ev} {l : Launch} {y : MethodName} {cc : ByteArray} {nL : Nat} {ret : Option FieldType} {d : Nat} {As : List Value} {μ : tm_M} {post : Option Value → tm_M → Prop} (lv : List (Nat × Value)) (hlv : lv_args 0 As = lv) (hy : plainName y.cls = true) (hn : (lg_sl As).length ≤ nL)
    (h : ∀ X : tm_X, X.2.1 = l → tm_C E X y.cls cc nL ret d → tm_V E X (tm_Q E X post) nL 0 lv [] μ) : tm_Met E l y cc nL ret d As μ post := by
  subst hlv
  refine Met.ofW (cc := cc) (maxL := nL) (ret := ret) hy rfl ?_
  intro p e s m args below meth c s₁ B hml hv
  obtain ⟨rfl, hP, hK⟩ := hv
  have hts := atoms_spec (ws := .code y cc nL ret :: tm_tbl) B.pre
  have hC : tm_C E (p, l, e, tm_rm d, s, m, As.toArray, below, meth, c) y.cls cc nL ret d := ⟨B.exec, B.bytes, hml, findClass_of_methodNamed B.named, fun w h => hts w (List.mem_cons_of_mem _ h), hK, rfl, B.returns, B.notSynchronized⟩
  have h2 := h _ rfl hC _ s.heap [] (lv_entry As hn) hP va_S.rf
  rw [lg_entry_eq]
  exact h2
/-! numbers -/
theorem tm_lti {a b : Int} (ha : -2147483648 ≤ a ∧ a ≤ 2147483647) (hb : -2147483648 ≤ b ∧ b ≤ 2147483647) : Int32.ofInt a < Int32.ofInt b ↔ a < b := Int32.ofInt_lt_iff_lt ha.1 ha.2 hb.1 hb.2
theorem tm_lei {a b : Int} (ha : -2147483648 ≤ a ∧ a ≤ 2147483647) (hb : -2147483648 ≤ b ∧ b ≤ 2147483647) : Int32.ofInt a ≤ Int32.ofInt b ↔ a ≤ b := Int32.ofInt_le_iff_le ha.1 ha.2 hb.1 hb.2
theorem tm_ti {a : Int} (ha : -2147483648 ≤ a ∧ a ≤ 2147483647) : (Int32.ofInt a).toInt = a := Int32.toInt_ofInt_of_le (by omega) (by omega)
theorem tm_eqi {a b : Int} (ha : -2147483648 ≤ a ∧ a ≤ 2147483647) (hb : -2147483648 ≤ b ∧ b ≤ 2147483647) : Int32.ofInt a = Int32.ofInt b ↔ a = b := by
  constructor
  · intro h
    have h2 := congrArg Int32.toInt h
    rwa [tm_ti ha, tm_ti hb] at h2
  · intro h; rw [h]
theorem tm_cl {a : Int} (ha : 0 ≤ a ∧ a ≤ 2147483647) : (Int32.ofInt a).toNatClampNeg = a.toNat := by
  show (Int32.ofInt a).toInt.toNat = a.toNat
  rw [tm_ti (by omega)]
theorem tm_in {a : Int} {n : Nat} (hn : (n : Int) ≤ 2147483647) (h : 0 ≤ a ∧ a < n) : vp_in (Int32.ofInt a) n := by
  rw [vp_in_iff, tm_ti (by omega)]
  exact h
theorem tm_i0 (z : Int) : tm_i z = .int (Int32.ofInt z) := rfl
theorem tm_toI (x : Int32) : Value.int x = tm_i x.toInt := by unfold tm_i; rw [Int32.ofInt_toInt]
end
section
theorem tv_iadd {E : tm_Ev} {X : tm_X} {Q : State → Prop} {own : String} {cc : ByteArray} {nL : Nat} {ret : Option FieldType} {d pc : Nat} {lv : List (Nat × Value)} {st : List Value} {μ : tm_M} {a b : Int} (C : tm_C E X own cc nL ret d) (hd : decode cc pc = .ok (.iadd, 1)) (k : tm_V E X Q nL (pc + 1) lv (tm_i (a + b) :: st) μ) : tm_V E X Q nL (pc) lv (tm_i b :: tm_i a :: st) μ := by
  intro ls H locs hl hP hS
  have k := k ls H locs hl hP hS
  unfold tm_i at k ⊢
  rw [Int32.ofInt_add] at k
  exact lv_iadd C.1 C.2.1 hd k
theorem tv_isub {E : tm_Ev} {X : tm_X} {Q : State → Prop} {own : String} {cc : ByteArray} {nL : Nat} {ret : Option FieldType} {d pc : Nat} {lv : List (Nat × Value)} {st : List Value} {μ : tm_M} {a b : Int} (C : tm_C E X own cc nL ret d) (hd : decode cc pc = .ok (.isub, 1)) (k : tm_V E X Q nL (pc + 1) lv (tm_i (a - b) :: st) μ) : tm_V E X Q nL (pc) lv (tm_i b :: tm_i a :: st) μ := by
  intro ls H locs hl hP hS
  have k := k ls H locs hl hP hS
  unfold tm_i at k ⊢
  rw [Int32.ofInt_sub] at k
  exact lv_isub C.1 C.2.1 hd k
theorem tv_imul {E : tm_Ev} {X : tm_X} {Q : State → Prop} {own : String} {cc : ByteArray} {nL : Nat} {ret : Option FieldType} {d pc : Nat} {lv : List (Nat × Value)} {st : List Value} {μ : tm_M} {a b : Int} (C : tm_C E X own cc nL ret d) (hd : decode cc pc = .ok (.imul, 1)) (k : tm_V E X Q nL (pc + 1) lv (tm_i (a * b) :: st) μ) : tm_V E X Q nL (pc) lv (tm_i b :: tm_i a :: st) μ := by
  intro ls H locs hl hP hS
  have k := k ls H locs hl hP hS
  unfold tm_i at k ⊢
  rw [Int32.ofInt_mul] at k
  exact lv_imul C.1 C.2.1 hd k
theorem tv_ladd {E : tm_Ev} {X : tm_X} {Q : State → Prop} {own : String} {cc : ByteArray} {nL : Nat} {ret : Option FieldType} {d pc : Nat} {lv : List (Nat × Value)} {st : List Value} {μ : tm_M} {a b : Int} (C : tm_C E X own cc nL ret d) (hd : decode cc pc = .ok (.ladd, 1)) (k : tm_V E X Q nL (pc + 1) lv (tm_l (a + b) :: st) μ) : tm_V E X Q nL (pc) lv (tm_l b :: tm_l a :: st) μ := by
  intro ls H locs hl hP hS
  have k := k ls H locs hl hP hS
  unfold tm_l at k ⊢
  rw [Int64.ofInt_add] at k
  exact lv_ladd C.1 C.2.1 hd k
theorem tv_lsub {E : tm_Ev} {X : tm_X} {Q : State → Prop} {own : String} {cc : ByteArray} {nL : Nat} {ret : Option FieldType} {d pc : Nat} {lv : List (Nat × Value)} {st : List Value} {μ : tm_M} {a b : Int} (C : tm_C E X own cc nL ret d) (hd : decode cc pc = .ok (.lsub, 1)) (k : tm_V E X Q nL (pc + 1) lv (tm_l (a - b) :: st) μ) : tm_V E X Q nL (pc) lv (tm_l b :: tm_l a :: st) μ := by
  intro ls H locs hl hP hS
  have k := k ls H locs hl hP hS
  unfold tm_l at k ⊢
  rw [Int64.ofInt_sub] at k
  exact lv_lsub C.1 C.2.1 hd k
theorem tv_lmul {E : tm_Ev} {X : tm_X} {Q : State → Prop} {own : String} {cc : ByteArray} {nL : Nat} {ret : Option FieldType} {d pc : Nat} {lv : List (Nat × Value)} {st : List Value} {μ : tm_M} {a b : Int} (C : tm_C E X own cc nL ret d) (hd : decode cc pc = .ok (.lmul, 1)) (k : tm_V E X Q nL (pc + 1) lv (tm_l (a * b) :: st) μ) : tm_V E X Q nL (pc) lv (tm_l b :: tm_l a :: st) μ := by
  intro ls H locs hl hP hS
  have k := k ls H locs hl hP hS
  unfold tm_l at k ⊢
  rw [Int64.ofInt_mul] at k
  exact lv_lmul C.1 C.2.1 hd k
theorem tv_iand {E : tm_Ev} {X : tm_X} {Q : State → Prop} {own : String} {cc : ByteArray} {nL : Nat} {ret : Option FieldType} {d pc : Nat} {lv : List (Nat × Value)} {st : List Value} {μ : tm_M} {a b z : Int} (C : tm_C E X own cc nL ret d) (hd : decode cc pc = .ok (.iand, 1)) (hz : Int32.ofInt a &&& Int32.ofInt b = Int32.ofInt z) (k : tm_V E X Q nL (pc + 1) lv (tm_i z :: st) μ) : tm_V E X Q nL (pc) lv (tm_i b :: tm_i a :: st) μ := by
  intro ls H locs hl hP hS
  have k := k ls H locs hl hP hS
  unfold tm_i at k ⊢
  rw [← hz] at k
  exact lv_iand C.1 C.2.1 hd k
theorem tv_ior {E : tm_Ev} {X : tm_X} {Q : State → Prop} {own : String} {cc : ByteArray} {nL : Nat} {ret : Option FieldType} {d pc : Nat} {lv : List (Nat × Value)} {st : List Value} {μ : tm_M} {a b z : Int} (C : tm_C E X own cc nL ret d) (hd : decode cc pc = .ok (.ior, 1)) (hz : Int32.ofInt a ||| Int32.ofInt b = Int32.ofInt z) (k : tm_V E X Q nL (pc + 1) lv (tm_i z :: st) μ) : tm_V E X Q nL (pc) lv (tm_i b :: tm_i a :: st) μ := by
  intro ls H locs hl hP hS
  have k := k ls H locs hl hP hS
  unfold tm_i at k ⊢
  rw [← hz] at k
  exact lv_ior C.1 C.2.1 hd k
theorem tv_ishl {E : tm_Ev} {X : tm_X} {Q : State → Prop} {own : String} {cc : ByteArray} {nL : Nat} {ret : Option FieldType} {d pc : Nat} {lv : List (Nat × Value)} {st : List Value} {μ : tm_M} {a b z : Int} (C : tm_C E X own cc nL ret d) (hd : decode cc pc = .ok (.ishl, 1)) (hz : Int32.ofInt a <<< (Int32.ofInt b &&& 31) = Int32.ofInt z) (k : tm_V E X Q nL (pc + 1) lv (tm_i z :: st) μ) : tm_V E X Q nL (pc) lv (tm_i b :: tm_i a :: st) μ := by
  intro ls H locs hl hP hS
  have k := k ls H locs hl hP hS
  unfold tm_i at k ⊢
  rw [← hz] at k
  exact lv_ishl C.1 C.2.1 hd k
theorem tv_ishr {E : tm_Ev} {X : tm_X} {Q : State → Prop} {own : String} {cc : ByteArray} {nL : Nat} {ret : Option FieldType} {d pc : Nat} {lv : List (Nat × Value)} {st : List Value} {μ : tm_M} {a b z : Int} (C : tm_C E X own cc nL ret d) (hd : decode cc pc = .ok (.ishr, 1)) (hz : Int32.ofInt a >>> (Int32.ofInt b &&& 31) = Int32.ofInt z) (k : tm_V E X Q nL (pc + 1) lv (tm_i z :: st) μ) : tm_V E X Q nL (pc) lv (tm_i b :: tm_i a :: st) μ := by
  intro ls H locs hl hP hS
  have k := k ls H locs hl hP hS
  unfold tm_i at k ⊢
  rw [← hz] at k
  exact lv_ishr C.1 C.2.1 hd k
theorem tv_iushr {E : tm_Ev} {X : tm_X} {Q : State → Prop} {own : String} {cc : ByteArray} {nL : Nat} {ret : Option FieldType} {d pc : Nat} {lv : List (Nat × Value)} {st : List Value} {μ : tm_M} {a b z : Int} (C : tm_C E X own cc nL ret d) (hd : decode cc pc = .ok (.iushr, 1)) (hz : ((Int32.ofInt a).toUInt32 >>> ((Int32.ofInt b).toUInt32 &&& Int32.toUInt32 31)).toInt32 = Int32.ofInt z) (k : tm_V E X Q nL (pc + 1) lv (tm_i z :: st) μ) : tm_V E X Q nL (pc) lv (tm_i b :: tm_i a :: st) μ := by
  intro ls H locs hl hP hS
  exact lv_iushr C.1 C.2.1 hd hz (k ls H locs hl hP hS)
theorem tv_lshl {E : tm_Ev} {X : tm_X} {Q : State → Prop} {own : String} {cc : ByteArray} {nL : Nat} {ret : Option FieldType} {d pc : Nat} {lv : List (Nat × Value)} {st : List Value} {μ : tm_M} {a b z : Int} (C : tm_C E X own cc nL ret d) (hd : decode cc pc = .ok (.lshl, 1)) (hz : Int64.ofInt a <<< ((Int32.ofInt b).toInt64 &&& 63) = Int64.ofInt z) (k : tm_V E X Q nL (pc + 1) lv (tm_l z :: st) μ) : tm_V E X Q nL (pc) lv (tm_i b :: tm_l a :: st) μ := by
  intro ls H locs hl hP hS
  exact lv_lshl C.1 C.2.1 hd hz (k ls H locs hl hP hS)
theorem tv_idiv {E : tm_Ev} {X : tm_X} {Q : State → Prop} {own : String} {cc : ByteArray} {nL : Nat} {ret : Option FieldType} {d pc : Nat} {lv : List (Nat × Value)} {st : List Value} {μ : tm_M} {a b : Int} (C : tm_C E X own cc nL ret d) (hd : decode cc pc = .ok (.idiv, 1)) (ha : 0 ≤ a ∧ a ≤ 2147483647) (hb : 0 < b ∧ b ≤ 2147483647) (k : tm_V E X Q nL (pc + 1) lv (tm_i (a / b) :: st) μ) : tm_V E X Q nL (pc) lv (tm_i b :: tm_i a :: st) μ := by
  intro ls H locs hl hP hS
  have k := k ls H locs hl hP hS
  unfold tm_i at k ⊢
  have e : Int32.ofInt (a / b) = Int32.ofInt a / Int32.ofInt b := by
    rw [← Int32.ofInt_tdiv (show (-2147483648 : Int) ≤ a by omega) (show a ≤ 2147483647 by omega) (show (-2147483648 : Int) ≤ b by omega) (show b ≤ 2147483647 by omega), Int.tdiv_eq_ediv_of_nonneg ha.1]
  rw [e] at k
  exact lv_idiv C.1 C.2.1 hd (fun q => by
    have := (tm_eqi (a := b) (b := 0) (by omega) (by omega)).mp q
    omega) k
theorem tv_irem {E : tm_Ev} {X : tm_X} {Q : State → Prop} {own : String} {cc : ByteArray} {nL : Nat} {ret : Option FieldType} {d pc : Nat} {lv : List (Nat × Value)} {st : List Value} {μ : tm_M} {a b : Int} (C : tm_C E X own cc nL ret d) (hd : decode cc pc = .ok (.irem, 1)) (ha : 0 ≤ a ∧ a ≤ 2147483647) (hb : 0 < b ∧ b ≤ 2147483647) (k : tm_V E X Q nL (pc + 1) lv (tm_i (a % b) :: st) μ) : tm_V E X Q nL (pc) lv (tm_i b :: tm_i a :: st) μ := by
  intro ls H locs hl hP hS
  have k := k ls H locs hl hP hS
  unfold tm_i at k ⊢
  have e : Int32.ofInt (a % b) = Int32.ofInt a - Int32.ofInt a / Int32.ofInt b * Int32.ofInt b := by
    rw [← Int32.ofInt_tdiv (show (-2147483648 : Int) ≤ a by omega) (show a ≤ 2147483647 by omega) (show (-2147483648 : Int) ≤ b by omega) (show b ≤ 2147483647 by omega), Int.tdiv_eq_ediv_of_nonneg ha.1, ← Int32.ofInt_mul, ← Int32.ofInt_sub, Int.emod_def, Int.mul_comm]
  rw [e] at k
  exact lv_irem C.1 C.2.1 hd (fun q => by
    have := (tm_eqi (a := b) (b := 0) (by omega) (by omega)).mp q
    omega) k
theorem tv_ldiv {E : tm_Ev} {X : tm_X} {Q : State → Prop} {own : String} {cc : ByteArray} {nL : Nat} {ret : Option FieldType} {d pc : Nat} {lv : List (Nat × Value)} {st : List Value} {μ : tm_M} {a b : Int} (C : tm_C E X own cc nL ret d) (hd : decode cc pc = .ok (.ldiv, 1)) (ha : 0 ≤ a ∧ a ≤ 9223372036854775807) (hb : 0 < b ∧ b ≤ 9223372036854775807) (k : tm_V E X Q nL (pc + 1) lv (tm_l (a / b) :: st) μ) : tm_V E X Q nL (pc) lv (tm_l b :: tm_l a :: st) μ := by
  intro ls H locs hl hP hS
  have k := k ls H locs hl hP hS
  unfold tm_l at k ⊢
  have e : Int64.ofInt (a / b) = Int64.ofInt a / Int64.ofInt b := by
    rw [← Int64.ofInt_tdiv (show (-9223372036854775808 : Int) ≤ a by omega) (show a ≤ 9223372036854775807 by omega) (show (-9223372036854775808 : Int) ≤ b by omega) (show b ≤ 9223372036854775807 by omega), Int.tdiv_eq_ediv_of_nonneg ha.1]
  rw [e] at k
  exact lv_ldiv C.1 C.2.1 hd (fun q => by
    have h2 := congrArg Int64.toInt q
    rw [Int64.toInt_ofInt_of_le (by omega) (by omega)] at h2
    have h3 : b = 0 := h2
    omega) k
theorem tv_lrem {E : tm_Ev} {X : tm_X} {Q : State → Prop} {own : String} {cc : ByteArray} {nL : Nat} {ret : Option FieldType} {d pc : Nat} {lv : List (Nat × Value)} {st : List Value} {μ : tm_M} {a b : Int} (C : tm_C E X own cc nL ret d) (hd : decode cc pc = .ok (.lrem, 1)) (ha : 0 ≤ a ∧ a ≤ 9223372036854775807) (hb : 0 < b ∧ b ≤ 9223372036854775807) (k : tm_V E X Q nL (pc + 1) lv (tm_l (a % b) :: st) μ) : tm_V E X Q nL (pc) lv (tm_l b :: tm_l a :: st) μ := by
  intro ls H locs hl hP hS
  have k := k ls H locs hl hP hS
  unfold tm_l at k ⊢
  have e : Int64.ofInt (a % b) = Int64.ofInt a - Int64.ofInt a / Int64.ofInt b * Int64.ofInt b := by
    rw [← Int64.ofInt_tdiv (show (-9223372036854775808 : Int) ≤ a by omega) (show a ≤ 9223372036854775807 by omega) (show (-9223372036854775808 : Int) ≤ b by omega) (show b ≤ 9223372036854775807 by omega), Int.tdiv_eq_ediv_of_nonneg ha.1, ← Int64.ofInt_mul, ← Int64.ofInt_sub, Int.emod_def, Int.mul_comm]
  rw [e] at k
  exact lv_lrem C.1 C.2.1 hd (fun q => by
    have h2 := congrArg Int64.toInt q
    rw [Int64.toInt_ofInt_of_le (by omega) (by omega)] at h2
    have h3 : b = 0 := h2
    omega) k
theorem tv_i2l {E : tm_Ev} {X : tm_X} {Q : State → Prop} {own : String} {cc : ByteArray} {nL : Nat} {ret : Option FieldType} {d pc : Nat} {lv : List (Nat × Value)} {st : List Value} {μ : tm_M} {a : Int} (C : tm_C E X own cc nL ret d) (hd : decode cc pc = .ok (.i2l, 1)) (ha : -2147483648 ≤ a ∧ a ≤ 2147483647) (k : tm_V E X Q nL (pc + 1) lv (tm_l a :: st) μ) : tm_V E X Q nL (pc) lv (tm_i a :: st) μ := by
  intro ls H locs hl hP hS
  exact lv_i2l C.1 C.2.1 hd (Int32.toInt64_ofInt ha.1 ha.2) (k ls H locs hl hP hS)
theorem tv_i2b {E : tm_Ev} {X : tm_X} {Q : State → Prop} {own : String} {cc : ByteArray} {nL : Nat} {ret : Option FieldType} {d pc : Nat} {lv : List (Nat × Value)} {st : List Value} {μ : tm_M} {a z : Int} (C : tm_C E X own cc nL ret d) (hd : decode cc pc = .ok (.i2b, 1)) (hz : (Int32.ofInt a).toInt8.toInt32 = Int32.ofInt z) (k : tm_V E X Q nL (pc + 1) lv (tm_i z :: st) μ) : tm_V E X Q nL (pc) lv (tm_i a :: st) μ := by
  intro ls H locs hl hP hS
  exact lv_i2b C.1 C.2.1 hd hz (k ls H locs hl hP hS)
theorem tv_i2s {E : tm_Ev} {X : tm_X} {Q : State → Prop} {own : String} {cc : ByteArray} {nL : Nat} {ret : Option FieldType} {d pc : Nat} {lv : List (Nat × Value)} {st : List Value} {μ : tm_M} {a z : Int} (C : tm_C E X own cc nL ret d) (hd : decode cc pc = .ok (.i2s, 1)) (hz : (Int32.ofInt a).toInt16.toInt32 = Int32.ofInt z) (k : tm_V E X Q nL (pc + 1) lv (tm_i z :: st) μ) : tm_V E X Q nL (pc) lv (tm_i a :: st) μ := by
  intro ls H locs hl hP hS
  exact lv_i2s C.1 C.2.1 hd hz (k ls H locs hl hP hS)
theorem tv_iconst {E : tm_Ev} {X : tm_X} {Q : State → Prop} {own : String} {cc : ByteArray} {nL : Nat} {ret : Option FieldType} {d pc : Nat} {lv : List (Nat × Value)} {st : List Value} {μ : tm_M} {n : Int} (C : tm_C E X own cc nL ret d) (hd : decode cc pc = .ok (.iconst n, 1)) (k : tm_V E X Q nL (pc + 1) lv (tm_i n :: st) μ) : tm_V E X Q nL (pc) lv st μ := by
  intro ls H locs hl hP hS
  exact lv_iconst C.1 C.2.1 hd rfl (k ls H locs hl hP hS)
theorem tv_bipush {E : tm_Ev} {X : tm_X} {Q : State → Prop} {own : String} {cc : ByteArray} {nL : Nat} {ret : Option FieldType} {d pc : Nat} {lv : List (Nat × Value)} {st : List Value} {μ : tm_M} {n : Int} (C : tm_C E X own cc nL ret d) (hd : decode cc pc = .ok (.bipush n, 2)) (hn : (Int8.ofInt n).toInt32 = Int32.ofInt n) (k : tm_V E X Q nL (pc + 2) lv (tm_i n :: st) μ) : tm_V E X Q nL (pc) lv st μ := by
  intro ls H locs hl hP hS
  exact lv_bipush C.1 C.2.1 hd hn (k ls H locs hl hP hS)
theorem tv_sipush {E : tm_Ev} {X : tm_X} {Q : State → Prop} {own : String} {cc : ByteArray} {nL : Nat} {ret : Option FieldType} {d pc : Nat} {lv : List (Nat × Value)} {st : List Value} {μ : tm_M} {n : Int} (C : tm_C E X own cc nL ret d) (hd : decode cc pc = .ok (.sipush n, 3)) (hn : (Int16.ofInt n).toInt32 = Int32.ofInt n) (k : tm_V E X Q nL (pc + 3) lv (tm_i n :: st) μ) : tm_V E X Q nL (pc) lv st μ := by
  intro ls H locs hl hP hS
  exact lv_sipush C.1 C.2.1 hd hn (k ls H locs hl hP hS)
theorem tv_lconst {E : tm_Ev} {X : tm_X} {Q : State → Prop} {own : String} {cc : ByteArray} {nL : Nat} {ret : Option FieldType} {d pc : Nat} {lv : List (Nat × Value)} {st : List Value} {μ : tm_M} {n : Fin 2} {z : Int} (C : tm_C E X own cc nL ret d) (hd : decode cc pc = .ok (.lconst n, 1)) (hz : Int64.ofNat (n : Nat) = Int64.ofInt z) (k : tm_V E X Q nL (pc + 1) lv (tm_l z :: st) μ) : tm_V E X Q nL (pc) lv st μ := by
  intro ls H locs hl hP hS
  exact lv_lconst C.1 C.2.1 hd hz (k ls H locs hl hP hS)
theorem tv_ldcw {E : tm_Ev} {X : tm_X} {Q : State → Prop} {own : String} {cc : ByteArray} {nL : Nat} {ret : Option FieldType} {d pc : Nat} {lv : List (Nat × Value)} {st : List Value} {μ : tm_M} {ix : Nat} {v : Int32} {z : Int} (C : tm_C E X own cc nL ret d) (hc : Cond.constant own ix v ∈ tm_tbl) (hd : decode cc pc = .ok (.ldc_w ix, 3)) (hz : v = Int32.ofInt z) (k : tm_V E X Q nL (pc + 3) lv (tm_i z :: st) μ) : tm_V E X Q nL (pc) lv st μ := by
  intro ls H locs hl hP hS
  subst hz
  exact lv_ldcw C.1 C.2.1 C.2.2.2.1 (C.2.2.2.2.1 _ hc) hd (k ls H locs hl hP hS)
theorem tv_ldc {E : tm_Ev} {X : tm_X} {Q : State → Prop} {own : String} {cc : ByteArray} {nL : Nat} {ret : Option FieldType} {d pc : Nat} {lv : List (Nat × Value)} {st : List Value} {μ : tm_M} {ix : Nat} {v : Int32} {z : Int} (C : tm_C E X own cc nL ret d) (hc : Cond.constant own ix v ∈ tm_tbl) (hd : decode cc pc = .ok (.ldc ix, 2)) (hz : v = Int32.ofInt z) (k : tm_V E X Q nL (pc + 2) lv (tm_i z :: st) μ) : tm_V E X Q nL (pc) lv st μ := by
  intro ls H locs hl hP hS
  subst hz
  exact lv_ldc C.1 C.2.1 C.2.2.2.1 (C.2.2.2.2.1 _ hc) hd (k ls H locs hl hP hS)
theorem tv_ldc2 {E : tm_Ev} {X : tm_X} {Q : State → Prop} {own : String} {cc : ByteArray} {nL : Nat} {ret : Option FieldType} {d pc : Nat} {lv : List (Nat × Value)} {st : List Value} {μ : tm_M} {ix : Nat} {v : Int64} {z : Int} (C : tm_C E X own cc nL ret d) (hc : Cond.constantLong own ix v ∈ tm_tbl) (hd : decode cc pc = .ok (.ldc2_w ix, 3)) (hz : v = Int64.ofInt z) (k : tm_V E X Q nL (pc + 3) lv (tm_l z :: st) μ) : tm_V E X Q nL (pc) lv st μ := by
  intro ls H locs hl hP hS
  subst hz
  exact lv_ldc2 C.1 C.2.1 C.2.2.2.1 (C.2.2.2.2.1 _ hc) hd (k ls H locs hl hP hS)
theorem tv_iload_n {E : tm_Ev} {X : tm_X} {Q : State → Prop} {own : String} {cc : ByteArray} {nL : Nat} {ret : Option FieldType} {d pc : Nat} {lv : List (Nat × Value)} {st : List Value} {μ : tm_M} {k : Fin 4} {i : Nat} {z : Int} (q : Nat) (C : tm_C E X own cc nL ret d) (hd : decode cc pc = .ok (.iload_n k, 1)) (hi : (k : Nat) = i) (hq : lv[q]? = some (i, tm_i z)) (kk : tm_V E X Q nL (pc + 1) lv (tm_i z :: st) μ) : tm_V E X Q nL (pc) lv st μ := by
  intro ls H locs hl hP hS
  exact lv_iload_n C.1 C.2.1 hd hi (lv_at hl q hq) (kk ls H locs hl hP hS)
theorem tv_iload {E : tm_Ev} {X : tm_X} {Q : State → Prop} {own : String} {cc : ByteArray} {nL : Nat} {ret : Option FieldType} {d pc : Nat} {lv : List (Nat × Value)} {st : List Value} {μ : tm_M} {i : Nat} {z : Int} (q : Nat) (C : tm_C E X own cc nL ret d) (hd : decode cc pc = .ok (.iload i, 2)) (hq : lv[q]? = some (i, tm_i z)) (kk : tm_V E X Q nL (pc + 2) lv (tm_i z :: st) μ) : tm_V E X Q nL (pc) lv st μ := by
  intro ls H locs hl hP hS
  exact lv_iload C.1 C.2.1 hd (lv_at hl q hq) (kk ls H locs hl hP hS)
theorem tv_lload_n {E : tm_Ev} {X : tm_X} {Q : State → Prop} {own : String} {cc : ByteArray} {nL : Nat} {ret : Option FieldType} {d pc : Nat} {lv : List (Nat × Value)} {st : List Value} {μ : tm_M} {k : Fin 4} {i : Nat} {z : Int} (q : Nat) (C : tm_C E X own cc nL ret d) (hd : decode cc pc = .ok (.lload_n k, 1)) (hi : (k : Nat) = i) (hq : lv[q]? = some (i, tm_l z)) (kk : tm_V E X Q nL (pc + 1) lv (tm_l z :: st) μ) : tm_V E X Q nL (pc) lv st μ := by
  intro ls H locs hl hP hS
  exact lv_lload_n C.1 C.2.1 hd hi (lv_at hl q hq) (kk ls H locs hl hP hS)
theorem tv_lload {E : tm_Ev} {X : tm_X} {Q : State → Prop} {own : String} {cc : ByteArray} {nL : Nat} {ret : Option FieldType} {d pc : Nat} {lv : List (Nat × Value)} {st : List Value} {μ : tm_M} {i : Nat} {z : Int} (q : Nat) (C : tm_C E X own cc nL ret d) (hd : decode cc pc = .ok (.lload i, 2)) (hq : lv[q]? = some (i, tm_l z)) (kk : tm_V E X Q nL (pc + 2) lv (tm_l z :: st) μ) : tm_V E X Q nL (pc) lv st μ := by
  intro ls H locs hl hP hS
  exact lv_lload C.1 C.2.1 hd (lv_at hl q hq) (kk ls H locs hl hP hS)
theorem tv_aload_n {E : tm_Ev} {X : tm_X} {Q : State → Prop} {own : String} {cc : ByteArray} {nL : Nat} {ret : Option FieldType} {d pc : Nat} {lv : List (Nat × Value)} {st : List Value} {μ : tm_M} {k : Fin 4} {i : Nat} {z : Nat} (q : Nat) (C : tm_C E X own cc nL ret d) (hd : decode cc pc = .ok (.aload_n k, 1)) (hi : (k : Nat) = i) (hq : lv[q]? = some (i, .ref z)) (kk : tm_V E X Q nL (pc + 1) lv (.ref z :: st) μ) : tm_V E X Q nL (pc) lv st μ := by
  intro ls H locs hl hP hS
  exact lv_aload_n C.1 C.2.1 hd hi (lv_at hl q hq) (kk ls H locs hl hP hS)
theorem tv_aload {E : tm_Ev} {X : tm_X} {Q : State → Prop} {own : String} {cc : ByteArray} {nL : Nat} {ret : Option FieldType} {d pc : Nat} {lv : List (Nat × Value)} {st : List Value} {μ : tm_M} {i : Nat} {z : Nat} (q : Nat) (C : tm_C E X own cc nL ret d) (hd : decode cc pc = .ok (.aload i, 2)) (hq : lv[q]? = some (i, .ref z)) (kk : tm_V E X Q nL (pc + 2) lv (.ref z :: st) μ) : tm_V E X Q nL (pc) lv st μ := by
  intro ls H locs hl hP hS
  exact lv_aload C.1 C.2.1 hd (lv_at hl q hq) (kk ls H locs hl hP hS)
theorem tv_istore_n {E : tm_Ev} {X : tm_X} {Q : State → Prop} {own : String} {cc : ByteArray} {nL : Nat} {ret : Option FieldType} {d pc : Nat} {lv : List (Nat × Value)} {st : List Value} {μ : tm_M} {k : Fin 4} {i : Nat} {z : Int} (lv1 : List (Nat × Value)) (C : tm_C E X own cc nL ret d) (hd : decode cc pc = .ok (.istore_n k, 1)) (hi : (k : Nat) = i) (hn : i < nL) (hv : (i, tm_i z) :: lv.filter (fun q => !(q.1 == i) && !(q.1 + 1 == i && q.2.category == 2)) = lv1) (kk : tm_V E X Q nL (pc + 1) lv1 st μ) : tm_V E X Q nL (pc) lv (tm_i z :: st) μ := by
  intro ls H locs hl hP hS
  exact lv_istore_n C.1 C.2.1 hd hi hl hn hv (fun ls hl => kk ls H locs hl hP hS)
theorem tv_istore {E : tm_Ev} {X : tm_X} {Q : State → Prop} {own : String} {cc : ByteArray} {nL : Nat} {ret : Option FieldType} {d pc : Nat} {lv : List (Nat × Value)} {st : List Value} {μ : tm_M} {i : Nat} {z : Int} (lv1 : List (Nat × Value)) (C : tm_C E X own cc nL ret d) (hd : decode cc pc = .ok (.istore i, 2)) (hn : i < nL) (hv : (i, tm_i z) :: lv.filter (fun q => !(q.1 == i) && !(q.1 + 1 == i && q.2.category == 2)) = lv1) (kk : tm_V E X Q nL (pc + 2) lv1 st μ) : tm_V E X Q nL (pc) lv (tm_i z :: st) μ := by
  intro ls H locs hl hP hS
  exact lv_istore C.1 C.2.1 hd hl hn hv (fun ls hl => kk ls H locs hl hP hS)
theorem tv_lstore_n {E : tm_Ev} {X : tm_X} {Q : State → Prop} {own : String} {cc : ByteArray} {nL : Nat} {ret : Option FieldType} {d pc : Nat} {lv : List (Nat × Value)} {st : List Value} {μ : tm_M} {k : Fin 4} {i : Nat} {z : Int} (lv1 : List (Nat × Value)) (C : tm_C E X own cc nL ret d) (hd : decode cc pc = .ok (.lstore_n k, 1)) (hi : (k : Nat) = i) (hn : i + 1 < nL) (hv : (i, tm_l z) :: lv.filter (fun q => !(q.1 == i) && (!(q.1 == i + 1) && !(q.1 + 1 == i && q.2.category == 2))) = lv1) (kk : tm_V E X Q nL (pc + 1) lv1 st μ) : tm_V E X Q nL (pc) lv (tm_l z :: st) μ := by
  intro ls H locs hl hP hS
  exact lv_lstore_n C.1 C.2.1 hd hi hl hn hv (fun ls hl => kk ls H locs hl hP hS)
theorem tv_lstore {E : tm_Ev} {X : tm_X} {Q : State → Prop} {own : String} {cc : ByteArray} {nL : Nat} {ret : Option FieldType} {d pc : Nat} {lv : List (Nat × Value)} {st : List Value} {μ : tm_M} {i : Nat} {z : Int} (lv1 : List (Nat × Value)) (C : tm_C E X own cc nL ret d) (hd : decode cc pc = .ok (.lstore i, 2)) (hn : i + 1 < nL) (hv : (i, tm_l z) :: lv.filter (fun q => !(q.1 == i) && (!(q.1 == i + 1) && !(q.1 + 1 == i && q.2.category == 2))) = lv1) (kk : tm_V E X Q nL (pc + 2) lv1 st μ) : tm_V E X Q nL (pc) lv (tm_l z :: st) μ := by
  intro ls H locs hl hP hS
  exact lv_lstore C.1 C.2.1 hd hl hn hv (fun ls hl => kk ls H locs hl hP hS)
theorem tv_astore_n {E : tm_Ev} {X : tm_X} {Q : State → Prop} {own : String} {cc : ByteArray} {nL : Nat} {ret : Option FieldType} {d pc : Nat} {lv : List (Nat × Value)} {st : List Value} {μ : tm_M} {k : Fin 4} {i : Nat} {z : Nat} (lv1 : List (Nat × Value)) (C : tm_C E X own cc nL ret d) (hd : decode cc pc = .ok (.astore_n k, 1)) (hi : (k : Nat) = i) (hn : i < nL) (hv : (i, Value.ref z) :: lv.filter (fun q => !(q.1 == i) && !(q.1 + 1 == i && q.2.category == 2)) = lv1) (kk : tm_V E X Q nL (pc + 1) lv1 st μ) : tm_V E X Q nL (pc) lv (Value.ref z :: st) μ := by
  intro ls H locs hl hP hS
  exact lv_astore_n C.1 C.2.1 hd hi hl hn hv (fun ls hl => kk ls H locs hl hP hS)
theorem tv_astore {E : tm_Ev} {X : tm_X} {Q : State → Prop} {own : String} {cc : ByteArray} {nL : Nat} {ret : Option FieldType} {d pc : Nat} {lv : List (Nat × Value)} {st : List Value} {μ : tm_M} {i : Nat} {z : Nat} (lv1 : List (Nat × Value)) (C : tm_C E X own cc nL ret d) (hd : decode cc pc = .ok (.astore i, 2)) (hn : i < nL) (hv : (i, Value.ref z) :: lv.filter (fun q => !(q.1 == i) && !(q.1 + 1 == i && q.2.category == 2)) = lv1) (kk : tm_V E X Q nL (pc + 2) lv1 st μ) : tm_V E X Q nL (pc) lv (Value.ref z :: st) μ := by
  intro ls H locs hl hP hS
  exact lv_astore C.1 C.2.1 hd hl hn hv (fun ls hl => kk ls H locs hl hP hS)
theorem tv_iinc {E : tm_Ev} {X : tm_X} {Q : State → Prop} {own : String} {cc : ByteArray} {nL : Nat} {ret : Option FieldType} {d pc : Nat} {lv : List (Nat × Value)} {st : List Value} {μ : tm_M} {i : Nat} {n z : Int} (q : Nat) (lv1 : List (Nat × Value)) (C : tm_C E X own cc nL ret d) (hd : decode cc pc = .ok (.iinc i n, 3)) (hq : lv[q]? = some (i, tm_i z)) (hn : i < nL) (hv : (i, tm_i (z + n)) :: lv.filter (fun q => !(q.1 == i) && !(q.1 + 1 == i && q.2.category == 2)) = lv1) (kk : tm_V E X Q nL (pc + 3) lv1 st μ) : tm_V E X Q nL (pc) lv st μ := by
  intro ls H locs hl hP hS
  exact lv_iinc C.1 C.2.1 hd hl hq (v := Int32.ofInt (z + n)) (Int32.ofInt_add z n).symm hn hv (fun ls hl => kk ls H locs hl hP hS)
theorem tv_dup {E : tm_Ev} {X : tm_X} {Q : State → Prop} {own : String} {cc : ByteArray} {nL : Nat} {ret : Option FieldType} {d pc : Nat} {lv : List (Nat × Value)} {st : List Value} {μ : tm_M} {v : Value} (C : tm_C E X own cc nL ret d) (hd : decode cc pc = .ok (.dup, 1)) (hv : v.category = 1) (k : tm_V E X Q nL (pc + 1) lv (v :: v :: st) μ) : tm_V E X Q nL (pc) lv (v :: st) μ := by
  intro ls H locs hl hP hS
  exact lv_dup C.1 C.2.1 hd hv (k ls H locs hl hP hS)
theorem tv_dup2 {E : tm_Ev} {X : tm_X} {Q : State → Prop} {own : String} {cc : ByteArray} {nL : Nat} {ret : Option FieldType} {d pc : Nat} {lv : List (Nat × Value)} {st : List Value} {μ : tm_M} {v w : Value} (C : tm_C E X own cc nL ret d) (hd : decode cc pc = .ok (.dup2, 1)) (hv : v.category = 1) (hw : w.category = 1) (k : tm_V E X Q nL (pc + 1) lv (v :: w :: v :: w :: st) μ) : tm_V E X Q nL (pc) lv (v :: w :: st) μ := by
  intro ls H locs hl hP hS
  exact lv_dup2_11 C.1 C.2.1 hd hv hw (k ls H locs hl hP hS)
theorem tv_icmp_eq {E : tm_Ev} {X : tm_X} {Q : State → Prop} {own : String} {cc : ByteArray} {nL : Nat} {ret : Option FieldType} {d pc : Nat} {lv : List (Nat × Value)} {st : List Value} {μ : tm_M} {a b off : Int} (tgt : Nat) (C : tm_C E X own cc nL ret d) (hd : decode cc pc = .ok (.if_icmp .eq off, 3)) (ht : (pc : Int) + off = (tgt : Int)) (ha : -2147483648 ≤ a ∧ a ≤ 2147483647) (hb : -2147483648 ≤ b ∧ b ≤ 2147483647) (kt : a = b → tm_V E X Q nL (tgt) lv st μ) (kf : ¬ a = b → tm_V E X Q nL (pc + 3) lv st μ) : tm_V E X Q nL (pc) lv (tm_i b :: tm_i a :: st) μ := by
  intro ls H locs hl hP hS
  exact lv_icmp_eq C.1 C.2.1 hd ht (fun q => kt ((tm_eqi ha hb).mp q) ls H locs hl hP hS) (fun q => kf (fun z => q ((tm_eqi ha hb).mpr z)) ls H locs hl hP hS)
theorem tv_icmp_ne {E : tm_Ev} {X : tm_X} {Q : State → Prop} {own : String} {cc : ByteArray} {nL : Nat} {ret : Option FieldType} {d pc : Nat} {lv : List (Nat × Value)} {st : List Value} {μ : tm_M} {a b off : Int} (tgt : Nat) (C : tm_C E X own cc nL ret d) (hd : decode cc pc = .ok (.if_icmp .ne off, 3)) (ht : (pc : Int) + off = (tgt : Int)) (ha : -2147483648 ≤ a ∧ a ≤ 2147483647) (hb : -2147483648 ≤ b ∧ b ≤ 2147483647) (kt : ¬ a = b → tm_V E X Q nL (tgt) lv st μ) (kf : a = b → tm_V E X Q nL (pc + 3) lv st μ) : tm_V E X Q nL (pc) lv (tm_i b :: tm_i a :: st) μ := by
  intro ls H locs hl hP hS
  exact lv_icmp_ne C.1 C.2.1 hd ht (fun q => kt (fun z => q ((tm_eqi ha hb).mpr z)) ls H locs hl hP hS) (fun q => kf ((tm_eqi ha hb).mp q) ls H locs hl hP hS)
theorem tv_icmp_lt {E : tm_Ev} {X : tm_X} {Q : State → Prop} {own : String} {cc : ByteArray} {nL : Nat} {ret : Option FieldType} {d pc : Nat} {lv : List (Nat × Value)} {st : List Value} {μ : tm_M} {a b off : Int} (tgt : Nat) (C : tm_C E X own cc nL ret d) (hd : decode cc pc = .ok (.if_icmp .lt off, 3)) (ht : (pc : Int) + off = (tgt : Int)) (ha : -2147483648 ≤ a ∧ a ≤ 2147483647) (hb : -2147483648 ≤ b ∧ b ≤ 2147483647) (kt : a < b → tm_V E X Q nL (tgt) lv st μ) (kf : b ≤ a → tm_V E X Q nL (pc + 3) lv st μ) : tm_V E X Q nL (pc) lv (tm_i b :: tm_i a :: st) μ := by
  intro ls H locs hl hP hS
  exact lv_icmp_lt C.1 C.2.1 hd ht (fun q => kt ((tm_lti ha hb).mp q) ls H locs hl hP hS) (fun q => kf (Int.not_lt.mp fun z => q ((tm_lti ha hb).mpr z)) ls H locs hl hP hS)
theorem tv_icmp_ge {E : tm_Ev} {X : tm_X} {Q : State → Prop} {own : String} {cc : ByteArray} {nL : Nat} {ret : Option FieldType} {d pc : Nat} {lv : List (Nat × Value)} {st : List Value} {μ : tm_M} {a b off : Int} (tgt : Nat) (C : tm_C E X own cc nL ret d) (hd : decode cc pc = .ok (.if_icmp .ge off, 3)) (ht : (pc : Int) + off = (tgt : Int)) (ha : -2147483648 ≤ a ∧ a ≤ 2147483647) (hb : -2147483648 ≤ b ∧ b ≤ 2147483647) (kt : b ≤ a → tm_V E X Q nL (tgt) lv st μ) (kf : a < b → tm_V E X Q nL (pc + 3) lv st μ) : tm_V E X Q nL (pc) lv (tm_i b :: tm_i a :: st) μ := by
  intro ls H locs hl hP hS
  exact lv_icmp_ge C.1 C.2.1 hd ht (fun q => kt ((tm_lei hb ha).mp q) ls H locs hl hP hS) (fun q => kf (Int.not_le.mp fun z => q ((tm_lei hb ha).mpr z)) ls H locs hl hP hS)
theorem tv_icmp_gt {E : tm_Ev} {X : tm_X} {Q : State → Prop} {own : String} {cc : ByteArray} {nL : Nat} {ret : Option FieldType} {d pc : Nat} {lv : List (Nat × Value)} {st : List Value} {μ : tm_M} {a b off : Int} (tgt : Nat) (C : tm_C E X own cc nL ret d) (hd : decode cc pc = .ok (.if_icmp .gt off, 3)) (ht : (pc : Int) + off = (tgt : Int)) (ha : -2147483648 ≤ a ∧ a ≤ 2147483647) (hb : -2147483648 ≤ b ∧ b ≤ 2147483647) (kt : b < a → tm_V E X Q nL (tgt) lv st μ) (kf : a ≤ b → tm_V E X Q nL (pc + 3) lv st μ) : tm_V E X Q nL (pc) lv (tm_i b :: tm_i a :: st) μ := by
  intro ls H locs hl hP hS
  exact lv_icmp_gt C.1 C.2.1 hd ht (fun q => kt ((tm_lti hb ha).mp q) ls H locs hl hP hS) (fun q => kf (Int.not_lt.mp fun z => q ((tm_lti hb ha).mpr z)) ls H locs hl hP hS)
theorem tv_icmp_le {E : tm_Ev} {X : tm_X} {Q : State → Prop} {own : String} {cc : ByteArray} {nL : Nat} {ret : Option FieldType} {d pc : Nat} {lv : List (Nat × Value)} {st : List Value} {μ : tm_M} {a b off : Int} (tgt : Nat) (C : tm_C E X own cc nL ret d) (hd : decode cc pc = .ok (.if_icmp .le off, 3)) (ht : (pc : Int) + off = (tgt : Int)) (ha : -2147483648 ≤ a ∧ a ≤ 2147483647) (hb : -2147483648 ≤ b ∧ b ≤ 2147483647) (kt : a ≤ b → tm_V E X Q nL (tgt) lv st μ) (kf : b < a → tm_V E X Q nL (pc + 3) lv st μ) : tm_V E X Q nL (pc) lv (tm_i b :: tm_i a :: st) μ := by
  intro ls H locs hl hP hS
  exact lv_icmp_le C.1 C.2.1 hd ht (fun q => kt ((tm_lei ha hb).mp q) ls H locs hl hP hS) (fun q => kf (Int.not_le.mp fun z => q ((tm_lei ha hb).mpr z)) ls H locs hl hP hS)
theorem tv_if_eq {E : tm_Ev} {X : tm_X} {Q : State → Prop} {own : String} {cc : ByteArray} {nL : Nat} {ret : Option FieldType} {d pc : Nat} {lv : List (Nat × Value)} {st : List Value} {μ : tm_M} {a off : Int} (tgt : Nat) (C : tm_C E X own cc nL ret d) (hd : decode cc pc = .ok (.ifCond .eq off, 3)) (ht : (pc : Int) + off = (tgt : Int)) (ha : -2147483648 ≤ a ∧ a ≤ 2147483647) (kt : a = 0 → tm_V E X Q nL (tgt) lv st μ) (kf : ¬ a = 0 → tm_V E X Q nL (pc + 3) lv st μ) : tm_V E X Q nL (pc) lv (tm_i a :: st) μ := by
  intro ls H locs hl hP hS
  have hb : -2147483648 ≤ (0 : Int) ∧ (0 : Int) ≤ 2147483647 := by omega
  exact lv_if_eq C.1 C.2.1 hd ht (fun q => kt ((tm_eqi ha hb).mp q) ls H locs hl hP hS) (fun q => kf (fun z => q ((tm_eqi ha hb).mpr z)) ls H locs hl hP hS)
theorem tv_if_ne {E : tm_Ev} {X : tm_X} {Q : State → Prop} {own : String} {cc : ByteArray} {nL : Nat} {ret : Option FieldType} {d pc : Nat} {lv : List (Nat × Value)} {st : List Value} {μ : tm_M} {a off : Int} (tgt : Nat) (C : tm_C E X own cc nL ret d) (hd : decode cc pc = .ok (.ifCond .ne off, 3)) (ht : (pc : Int) + off = (tgt : Int)) (ha : -2147483648 ≤ a ∧ a ≤ 2147483647) (kt : ¬ a = 0 → tm_V E X Q nL (tgt) lv st μ) (kf : a = 0 → tm_V E X Q nL (pc + 3) lv st μ) : tm_V E X Q nL (pc) lv (tm_i a :: st) μ := by
  intro ls H locs hl hP hS
  have hb : -2147483648 ≤ (0 : Int) ∧ (0 : Int) ≤ 2147483647 := by omega
  exact lv_if_ne C.1 C.2.1 hd ht (fun q => kt (fun z => q ((tm_eqi ha hb).mpr z)) ls H locs hl hP hS) (fun q => kf ((tm_eqi ha hb).mp q) ls H locs hl hP hS)
theorem tv_if_lt {E : tm_Ev} {X : tm_X} {Q : State → Prop} {own : String} {cc : ByteArray} {nL : Nat} {ret : Option FieldType} {d pc : Nat} {lv : List (Nat × Value)} {st : List Value} {μ : tm_M} {a off : Int} (tgt : Nat) (C : tm_C E X own cc nL ret d) (hd : decode cc pc = .ok (.ifCond .lt off, 3)) (ht : (pc : Int) + off = (tgt : Int)) (ha : -2147483648 ≤ a ∧ a ≤ 2147483647) (kt : a < 0 → tm_V E X Q nL (tgt) lv st μ) (kf : 0 ≤ a → tm_V E X Q nL (pc + 3) lv st μ) : tm_V E X Q nL (pc) lv (tm_i a :: st) μ := by
  intro ls H locs hl hP hS
  have hb : -2147483648 ≤ (0 : Int) ∧ (0 : Int) ≤ 2147483647 := by omega
  exact lv_if_lt C.1 C.2.1 hd ht (fun q => kt ((tm_lti ha hb).mp q) ls H locs hl hP hS) (fun q => kf (Int.not_lt.mp fun z => q ((tm_lti ha hb).mpr z)) ls H locs hl hP hS)
theorem tv_if_ge {E : tm_Ev} {X : tm_X} {Q : State → Prop} {own : String} {cc : ByteArray} {nL : Nat} {ret : Option FieldType} {d pc : Nat} {lv : List (Nat × Value)} {st : List Value} {μ : tm_M} {a off : Int} (tgt : Nat) (C : tm_C E X own cc nL ret d) (hd : decode cc pc = .ok (.ifCond .ge off, 3)) (ht : (pc : Int) + off = (tgt : Int)) (ha : -2147483648 ≤ a ∧ a ≤ 2147483647) (kt : 0 ≤ a → tm_V E X Q nL (tgt) lv st μ) (kf : a < 0 → tm_V E X Q nL (pc + 3) lv st μ) : tm_V E X Q nL (pc) lv (tm_i a :: st) μ := by
  intro ls H locs hl hP hS
  have hb : -2147483648 ≤ (0 : Int) ∧ (0 : Int) ≤ 2147483647 := by omega
  exact lv_if_ge C.1 C.2.1 hd ht (fun q => kt ((tm_lei hb ha).mp q) ls H locs hl hP hS) (fun q => kf (Int.not_le.mp fun z => q ((tm_lei hb ha).mpr z)) ls H locs hl hP hS)
theorem tv_if_gt {E : tm_Ev} {X : tm_X} {Q : State → Prop} {own : String} {cc : ByteArray} {nL : Nat} {ret : Option FieldType} {d pc : Nat} {lv : List (Nat × Value)} {st : List Value} {μ : tm_M} {a off : Int} (tgt : Nat) (C : tm_C E X own cc nL ret d) (hd : decode cc pc = .ok (.ifCond .gt off, 3)) (ht : (pc : Int) + off = (tgt : Int)) (ha : -2147483648 ≤ a ∧ a ≤ 2147483647) (kt : 0 < a → tm_V E X Q nL (tgt) lv st μ) (kf : a ≤ 0 → tm_V E X Q nL (pc + 3) lv st μ) : tm_V E X Q nL (pc) lv (tm_i a :: st) μ := by
  intro ls H locs hl hP hS
  have hb : -2147483648 ≤ (0 : Int) ∧ (0 : Int) ≤ 2147483647 := by omega
  exact lv_if_gt C.1 C.2.1 hd ht (fun q => kt ((tm_lti hb ha).mp q) ls H locs hl hP hS) (fun q => kf (Int.not_lt.mp fun z => q ((tm_lti hb ha).mpr z)) ls H locs hl hP hS)
theorem tv_if_le {E : tm_Ev} {X : tm_X} {Q : State → Prop} {own : String} {cc : ByteArray} {nL : Nat} {ret : Option FieldType} {d pc : Nat} {lv : List (Nat × Value)} {st : List Value} {μ : tm_M} {a off : Int} (tgt : Nat) (C : tm_C E X own cc nL ret d) (hd : decode cc pc = .ok (.ifCond .le off, 3)) (ht : (pc : Int) + off = (tgt : Int)) (ha : -2147483648 ≤ a ∧ a ≤ 2147483647) (kt : a ≤ 0 → tm_V E X Q nL (tgt) lv st μ) (kf : 0 < a → tm_V E X Q nL (pc + 3) lv st μ) : tm_V E X Q nL (pc) lv (tm_i a :: st) μ := by
  intro ls H locs hl hP hS
  have hb : -2147483648 ≤ (0 : Int) ∧ (0 : Int) ≤ 2147483647 := by omega
  exact lv_if_le C.1 C.2.1 hd ht (fun q => kt ((tm_lei ha hb).mp q) ls H locs hl hP hS) (fun q => kf (Int.not_le.mp fun z => q ((tm_lei ha hb).mpr z)) ls H locs hl hP hS)
theorem tv_ifeqB {E : tm_Ev} {X : tm_X} {Q : State → Prop} {own : String} {cc : ByteArray} {nL : Nat} {ret : Option FieldType} {d pc : Nat} {lv : List (Nat × Value)} {st : List Value} {μ : tm_M} {p : Prop} [Decidable p] {off : Int} (tgt : Nat) (C : tm_C E X own cc nL ret d) (hd : decode cc pc = .ok (.ifCond .eq off, 3)) (ht : (pc : Int) + off = (tgt : Int)) (kt : ¬ p → tm_V E X Q nL (tgt) lv st μ) (kf : p → tm_V E X Q nL (pc + 3) lv st μ) : tm_V E X Q nL (pc) lv (tm_i (if p then 1 else 0) :: st) μ := by
  by_cases hp : p
  · rw [if_pos hp]
    exact tv_if_eq tgt C hd ht (by omega) (fun h => absurd h (by decide)) (fun _ => kf hp)
  · rw [if_neg hp]
    exact tv_if_eq tgt C hd ht (by omega) (fun _ => kt hp) (fun h => absurd rfl h)
theorem tv_ifneB {E : tm_Ev} {X : tm_X} {Q : State → Prop} {own : String} {cc : ByteArray} {nL : Nat} {ret : Option FieldType} {d pc : Nat} {lv : List (Nat × Value)} {st : List Value} {μ : tm_M} {p : Prop} [Decidable p] {off : Int} (tgt : Nat) (C : tm_C E X own cc nL ret d) (hd : decode cc pc = .ok (.ifCond .ne off, 3)) (ht : (pc : Int) + off = (tgt : Int)) (kt : p → tm_V E X Q nL (tgt) lv st μ) (kf : ¬ p → tm_V E X Q nL (pc + 3) lv st μ) : tm_V E X Q nL (pc) lv (tm_i (if p then 1 else 0) :: st) μ := by
  by_cases hp : p
  · rw [if_pos hp]
    exact tv_if_ne tgt C hd ht (by omega) (fun _ => kt hp) (fun h => absurd h (by decide))
  · rw [if_neg hp]
    exact tv_if_ne tgt C hd ht (by omega) (fun h => absurd rfl h) (fun _ => kf hp)
theorem tv_goto {E : tm_Ev} {X : tm_X} {Q : State → Prop} {own : String} {cc : ByteArray} {nL : Nat} {ret : Option FieldType} {d pc : Nat} {lv : List (Nat × Value)} {st : List Value} {μ : tm_M} {off : Int} (tgt : Nat) (C : tm_C E X own cc nL ret d) (hd : decode cc pc = .ok (.goto off, 3)) (ht : (pc : Int) + off = (tgt : Int)) (k : tm_V E X Q nL (tgt) lv st μ) : tm_V E X Q nL (pc) lv st μ := by
  intro ls H locs hl hP hS
  exact lv_goto C.1 C.2.1 hd ht (k ls H locs hl hP hS)
theorem tv_tabI {E : tm_Ev} {X : tm_X} {Q : State → Prop} {own : String} {cc : ByteArray} {nL : Nat} {ret : Option FieldType} {d pc : Nat} {lv : List (Nat × Value)} {st : List Value} {μ : tm_M} {a dflt lo hi off : Int} {offs : Array Int} {len : Nat} (tgt : Nat) (C : tm_C E X own cc nL ret d) (hd : decode cc pc = .ok (.tableswitch dflt lo hi offs, len)) (ha : -2147483648 ≤ a ∧ a ≤ 2147483647) (h1 : lo ≤ a ∧ a ≤ hi) (ho : offs[(a - lo).toNat]? = some off) (ht : (pc : Int) + off = (tgt : Int)) (k : tm_V E X Q nL (tgt) lv st μ) : tm_V E X Q nL (pc) lv (tm_i a :: st) μ := by
  intro ls H locs hl hP hS
  exact lv_tableIn C.1 C.2.1 hd (by rw [tm_ti ha]; omega) (by rw [tm_ti ha]; omega) (by rw [tm_ti ha]; exact ho) ht (k ls H locs hl hP hS)
theorem tv_tabO {E : tm_Ev} {X : tm_X} {Q : State → Prop} {own : String} {cc : ByteArray} {nL : Nat} {ret : Option FieldType} {d pc : Nat} {lv : List (Nat × Value)} {st : List Value} {μ : tm_M} {a dflt lo hi : Int} {offs : Array Int} {len : Nat} (tgt : Nat) (C : tm_C E X own cc nL ret d) (hd : decode cc pc = .ok (.tableswitch dflt lo hi offs, len)) (ha : -2147483648 ≤ a ∧ a ≤ 2147483647) (h1 : a < lo ∨ hi < a) (ht : (pc : Int) + dflt = (tgt : Int)) (k : tm_V E X Q nL (tgt) lv st μ) : tm_V E X Q nL (pc) lv (tm_i a :: st) μ := by
  intro ls H locs hl hP hS
  exact lv_tableOut C.1 C.2.1 hd (by rw [tm_ti ha]; exact h1) ht (k ls H locs hl hP hS)
theorem tv_iret {E : tm_Ev} {X : tm_X} {own : String} {cc : ByteArray} {nL : Nat} {d pc : Nat} {lv : List (Nat × Value)} {μ : tm_M} {post : Option Value → tm_M → Prop} {z : Int} (C : tm_C E X own cc nL (some .int) d) (hd : decode cc pc = .ok (.ireturn, 1)) (h : post (some (tm_i z)) μ) : tm_V E X (tm_Q E X post) nL pc lv [tm_i z] μ := by
  intro ls H locs hl hP hS
  exact W.iret C.1 C.2.1 C.2.2.2.2.2.2.2.1 (fun t ht hW => ⟨⟨_, μ, rfl, h, by rw [ht]; exact hP⟩, hS.F ht⟩) hS.2.2 hd C.2.2.2.2.2.2.2.2
theorem tv_zret {E : tm_Ev} {X : tm_X} {own : String} {cc : ByteArray} {nL : Nat} {d pc : Nat} {lv : List (Nat × Value)} {μ : tm_M} {post : Option Value → tm_M → Prop} {z : Int} (C : tm_C E X own cc nL (some .boolean) d) (hd : decode cc pc = .ok (.ireturn, 1)) (hz : z = 0 ∨ z = 1) (h : post (some (tm_i z)) μ) : tm_V E X (tm_Q E X post) nL pc lv [tm_i z] μ := by
  intro ls H locs hl hP hS
  exact W.zret C.1 C.2.1 C.2.2.2.2.2.2.2.1 (by rcases hz with rfl | rfl <;> rfl) (fun t ht hW => ⟨⟨_, μ, rfl, h, by rw [ht]; exact hP⟩, hS.F ht⟩) hS.2.2 hd C.2.2.2.2.2.2.2.2
theorem tv_lret {E : tm_Ev} {X : tm_X} {own : String} {cc : ByteArray} {nL : Nat} {d pc : Nat} {lv : List (Nat × Value)} {μ : tm_M} {post : Option Value → tm_M → Prop} {z : Int} (C : tm_C E X own cc nL (some .long) d) (hd : decode cc pc = .ok (.lreturn, 1)) (h : post (some (tm_l z)) μ) : tm_V E X (tm_Q E X post) nL pc lv [tm_l z] μ := by
  intro ls H locs hl hP hS
  exact W.lret C.1 C.2.1 C.2.2.2.2.2.2.2.1 (fun t ht hW => ⟨⟨_, μ, rfl, h, by rw [ht]; exact hP⟩, hS.F ht⟩) hS.2.2 hd C.2.2.2.2.2.2.2.2
theorem tv_vret {E : tm_Ev} {X : tm_X} {own : String} {cc : ByteArray} {nL : Nat} {d pc : Nat} {lv : List (Nat × Value)} {μ : tm_M} {post : Option Value → tm_M → Prop} (C : tm_C E X own cc nL none d) (hd : decode cc pc = .ok (.return_, 1)) (h : post none μ) : tm_V E X (tm_Q E X post) nL pc lv [] μ := by
  intro ls H locs hl hP hS
  exact W.vret C.1 C.2.1 C.2.2.2.2.2.2.2.1 (fun t ht hW => ⟨⟨_, μ, rfl, h, by rw [ht]; exact hP⟩, hS.F ht⟩) hS.2.2 hd C.2.2.2.2.2.2.2.2
end
section
/-! rows of the heap -/
def tm_cls (ci : Nat) (Cn : String) (T : u_T) (N : Nat) (ty : Nat → FieldType) : Prop := vwCl[ci]? = some (Cn, T, N) ∧ (∀ w ∈ u_ws Cn T N, w ∈ tm_tbl) ∧ (∀ k, k < N → parseFieldDescriptor (T k).2.2.1 = some (ty k)) ∧ (∀ a, a < N → ∀ b, b < N → a ≠ b → (T a).2.1 ≠ (T b).2.1)
def tm_fl (own : String) (ix ci j : Nat) : Prop := ∃ (Cn : String) (T : u_T) (N : Nat) (ty : Nat → FieldType), tm_cls ci Cn T N ty ∧ j < N ∧ Cond.fieldLink own ix (T j).1 (T j).2.1 (T j).2.2.1 ∈ tm_tbl
def tm_fp (own : String) (ix ci j : Nat) (t : FieldType) : Prop := ∃ (Cn : String) (T : u_T) (N : Nat) (ty : Nat → FieldType), tm_cls ci Cn T N ty ∧ j < N ∧ Cond.fieldLink own ix (T j).1 (T j).2.1 (T j).2.2.1 ∈ tm_tbl ∧ (T j).2.2.2 = false ∧ parseFieldDescriptor (T j).2.2.1 = some t
theorem tm_small : ∀ t ∈ tm_tm, t.2.1 ≤ 2000 := by decide +kernel
theorem tm_n {k r n : Nat} {fs : List (Option Nat)} (hk : tm_tm[k]? = some (r, n, fs)) : n ≤ 2000 := tm_small _ (List.mem_of_getElem? hk)
theorem tv_geti {E : tm_Ev} {X : tm_X} {Q : State → Prop} {own : String} {cc : ByteArray} {nL : Nat} {ret : Option FieldType} {d pc : Nat} {lv : List (Nat × Value)} {st : List Value} {μ : tm_M} {k ci j ix : Nat} {fs : List (Option Nat)} {z : Int} (C : tm_C E X own cc nL ret d) (hk : tm_tm[k]? = some (0, ci, fs)) (hj : fs[j]? = some none) (hf : tm_fl own ix ci j) (hd : decode cc pc = .ok (.getfield ix, 3)) (hz : μ k j = z) (kk : tm_V E X Q nL (pc + 3) lv (tm_i z :: st) μ) : tm_V E X Q nL pc lv (.ref (E.2.1 k) :: st) μ := by
  intro ls H locs hl hP hS
  obtain ⟨Cn, T, N, ty, ⟨h1, h2, h3, h4⟩, hjN, hlk⟩ := hf
  refine va_get (D := E.1) (ci := ci) (v := tm_i z) C.1 C.2.1 C.2.2.2.2.1 h2 C.2.2.2.1 C.2.2.2.2.2.1.1 hP k (tm_ws_at hk) h1 j hjN (C.2.2.2.2.1 _ hlk) (fun _ h => h) ?_ hd (kk ls H locs hl hP hS)
  rw [tm_F_at, hj]
  simp [hz]
theorem tv_getr {E : tm_Ev} {X : tm_X} {Q : State → Prop} {own : String} {cc : ByteArray} {nL : Nat} {ret : Option FieldType} {d pc : Nat} {lv : List (Nat × Value)} {st : List Value} {μ : tm_M} {k ci j ix q : Nat} {fs : List (Option Nat)} (C : tm_C E X own cc nL ret d) (hk : tm_tm[k]? = some (0, ci, fs)) (hj : fs[j]? = some (some q)) (hf : tm_fl own ix ci j) (hd : decode cc pc = .ok (.getfield ix, 3)) (kk : tm_V E X Q nL (pc + 3) lv (.ref (E.2.1 q) :: st) μ) : tm_V E X Q nL pc lv (.ref (E.2.1 k) :: st) μ := by
  intro ls H locs hl hP hS
  obtain ⟨Cn, T, N, ty, ⟨h1, h2, h3, h4⟩, hjN, hlk⟩ := hf
  refine va_get (D := E.1) (ci := ci) (v := .ref (E.2.1 q)) C.1 C.2.1 C.2.2.2.2.1 h2 C.2.2.2.1 C.2.2.2.2.2.1.1 hP k (tm_ws_at hk) h1 j hjN (C.2.2.2.2.1 _ hlk) (fun _ h => h) ?_ hd (kk ls H locs hl hP hS)
  rw [tm_F_at, hj]
  rfl
theorem tm_up_eq {μ : tm_M} {k j : Nat} {z : Int} : ∀ a, a ≠ k → tm_up μ k j z a = μ a := fun a h => tm_uf h
theorem tv_puti {E : tm_Ev} {X : tm_X} {Q : State → Prop} {own : String} {cc : ByteArray} {nL : Nat} {ret : Option FieldType} {d pc : Nat} {lv : List (Nat × Value)} {st : List Value} {μ : tm_M} {k ci j ix : Nat} {fs : List (Option Nat)} {z : Int} (C : tm_C E X own cc nL ret d) (hk : tm_tm[k]? = some (0, ci, fs)) (hj : fs[j]? = some none) (hf : tm_fp own ix ci j .int) (hd : decode cc pc = .ok (.putfield ix, 3)) (kk : tm_V E X Q nL (pc + 3) lv st (tm_up μ k j z)) : tm_V E X Q nL pc lv (tm_i z :: .ref (E.2.1 k) :: st) μ := by
  intro ls H locs hl hP hS
  obtain ⟨Cn, T, N, ty, ⟨h1, h2, h3, h4⟩, hjN, hlk, hfin, hde⟩ := hf
  refine va_put (D := E.1) (ci := ci) (v := tm_i z) (ty := .int) C.1 C.2.1 C.2.2.2.2.1 h2 ty h3 h4 C.2.2.2.1 C.2.2.2.2.2.1.1 hP (tm_D C.2.2.2.2.2.1 μ) hS k (tm_ws_at hk) h1 j hjN (C.2.2.2.2.1 _ hlk) (fun _ h => h) hfin hde rfl rfl (by rw [tm_F_len]; exact (List.getElem?_eq_some_iff.mp hj).1) hd (fun H1 locs1 hP1 _ hS1 => ?_)
  refine kk ls H1 locs1 hl ?_ hS1
  rw [← tm_ws_set (μ := μ) (μ' := tm_up μ k j z) hk rfl tm_up_eq]
  have e : tm_e E.2.1 E.2.2.1 (tm_up μ k j z k) (0, ci, fs) = .inr (ci, (tm_F E.2.1 (μ k) 0 fs).set j (tm_i z)) := by
    rw [tm_F_set (g := tm_up μ k j z k) hj tm_us (fun b hb => tm_uj hb)]
    rfl
  rw [e]
  exact hP1
theorem tv_putz {E : tm_Ev} {X : tm_X} {Q : State → Prop} {own : String} {cc : ByteArray} {nL : Nat} {ret : Option FieldType} {d pc : Nat} {lv : List (Nat × Value)} {st : List Value} {μ : tm_M} {k ci j ix : Nat} {fs : List (Option Nat)} {z : Int} (C : tm_C E X own cc nL ret d) (hk : tm_tm[k]? = some (0, ci, fs)) (hj : fs[j]? = some none) (hf : tm_fp own ix ci j .boolean) (hd : decode cc pc = .ok (.putfield ix, 3)) (hz : z = 0 ∨ z = 1) (kk : tm_V E X Q nL (pc + 3) lv st (tm_up μ k j z)) : tm_V E X Q nL pc lv (tm_i z :: .ref (E.2.1 k) :: st) μ := by
  intro ls H locs hl hP hS
  obtain ⟨Cn, T, N, ty, ⟨h1, h2, h3, h4⟩, hjN, hlk, hfin, hde⟩ := hf
  refine va_put (D := E.1) (ci := ci) (v := tm_i z) (ty := .boolean) C.1 C.2.1 C.2.2.2.2.1 h2 ty h3 h4 C.2.2.2.1 C.2.2.2.2.2.1.1 hP (tm_D C.2.2.2.2.2.1 μ) hS k (tm_ws_at hk) h1 j hjN (C.2.2.2.2.1 _ hlk) (fun _ h => h) hfin hde (by rcases hz with rfl | rfl <;> rfl) (by rcases hz with rfl | rfl <;> rfl) (by rw [tm_F_len]; exact (List.getElem?_eq_some_iff.mp hj).1) hd (fun H1 locs1 hP1 _ hS1 => ?_)
  refine kk ls H1 locs1 hl ?_ hS1
  rw [← tm_ws_set (μ := μ) (μ' := tm_up μ k j z) hk rfl tm_up_eq]
  have e : tm_e E.2.1 E.2.2.1 (tm_up μ k j z k) (0, ci, fs) = .inr (ci, (tm_F E.2.1 (μ k) 0 fs).set j (tm_i z)) := by
    rw [tm_F_set (g := tm_up μ k j z k) hj tm_us (fun b hb => tm_uj hb)]
    rfl
  rw [e]
  exact hP1
theorem tv_iald {E : tm_Ev} {X : tm_X} {Q : State → Prop} {own : String} {cc : ByteArray} {nL : Nat} {ret : Option FieldType} {d pc : Nat} {lv : List (Nat × Value)} {st : List Value} {μ : tm_M} {k n : Nat} {fs : List (Option Nat)} {i z : Int} {j : Nat} (C : tm_C E X own cc nL ret d) (hk : tm_tm[k]? = some (1, n, fs)) (hd : decode cc pc = .ok (.iaload, 1)) (hi : 0 ≤ i ∧ i < (n : Int)) (hj : i.toNat = j) (hz : μ k j = z) (kk : tm_V E X Q nL (pc + 1) lv (tm_i z :: st) μ) : tm_V E X Q nL pc lv (tm_i i :: .ref (E.2.1 k) :: st) μ := by
  intro ls H locs hl hP hS
  have hn := tm_n hk
  refine va_iald (D := E.1) C.1 C.2.1 C.2.2.2.2.2.1.1 hP k 0 (tm_ws_at hk) rfl (tm_in (by omega) hi) hd ?_
  show W _ _ _ _ _ _ _ _ _ _ _ _ _ _ _ (F0 _ _ _ (Value.int (Int32.ofInt (μ k (Int32.ofInt i).toNatClampNeg)) :: st))
  rw [tm_cl (by omega), hj, hz]
  exact kk ls H locs hl hP hS
theorem tv_zald {E : tm_Ev} {X : tm_X} {Q : State → Prop} {own : String} {cc : ByteArray} {nL : Nat} {ret : Option FieldType} {d pc : Nat} {lv : List (Nat × Value)} {st : List Value} {μ : tm_M} {k n : Nat} {fs : List (Option Nat)} {i z : Int} {j : Nat} (C : tm_C E X own cc nL ret d) (hk : tm_tm[k]? = some (3, n, fs)) (hd : decode cc pc = .ok (.baload, 1)) (hi : 0 ≤ i ∧ i < (n : Int)) (hj : i.toNat = j) (hz : μ k j = z) (kk : tm_V E X Q nL (pc + 1) lv (tm_i z :: st) μ) : tm_V E X Q nL pc lv (tm_i i :: .ref (E.2.1 k) :: st) μ := by
  intro ls H locs hl hP hS
  have hn := tm_n hk
  refine va_zald (D := E.1) C.1 C.2.1 C.2.2.2.2.2.1.1 hP k 2 (tm_ws_at hk) rfl (tm_in (by omega) hi) hd ?_
  show W _ _ _ _ _ _ _ _ _ _ _ _ _ _ _ (F0 _ _ _ (Value.int (Int32.ofInt (μ k (Int32.ofInt i).toNatClampNeg)) :: st))
  rw [tm_cl (by omega), hj, hz]
  exact kk ls H locs hl hP hS
theorem tv_lald {E : tm_Ev} {X : tm_X} {Q : State → Prop} {own : String} {cc : ByteArray} {nL : Nat} {ret : Option FieldType} {d pc : Nat} {lv : List (Nat × Value)} {st : List Value} {μ : tm_M} {k n : Nat} {fs : List (Option Nat)} {i z : Int} {j : Nat} (C : tm_C E X own cc nL ret d) (hk : tm_tm[k]? = some (2, n, fs)) (hd : decode cc pc = .ok (.laload, 1)) (hi : 0 ≤ i ∧ i < (n : Int)) (hj : i.toNat = j) (hz : μ k j = z) (kk : tm_V E X Q nL (pc + 1) lv (tm_l z :: st) μ) : tm_V E X Q nL pc lv (tm_i i :: .ref (E.2.1 k) :: st) μ := by
  intro ls H locs hl hP hS
  have hn := tm_n hk
  refine va_lald (D := E.1) C.1 C.2.1 C.2.2.2.2.2.1.1 hP k 1 (tm_ws_at hk) rfl (tm_in (by omega) hi) hd ?_
  show W _ _ _ _ _ _ _ _ _ _ _ _ _ _ _ (F0 _ _ _ (Value.long (Int64.ofInt (μ k (Int32.ofInt i).toNatClampNeg)) :: st))
  rw [tm_cl (by omega), hj, hz]
  exact kk ls H locs hl hP hS
theorem tv_aald {E : tm_Ev} {X : tm_X} {Q : State → Prop} {own : String} {cc : ByteArray} {nL : Nat} {ret : Option FieldType} {d pc : Nat} {lv : List (Nat × Value)} {st : List Value} {μ : tm_M} {k n r q : Nat} {fs : List (Option Nat)} {i : Int} {j : Nat} (Cn : String) (C : tm_C E X own cc nL ret d) (hk : tm_tm[k]? = some (r + 4, n, fs)) (ht : (tm_tys E)[r + 3]? = some (E.2.2.1 (r + 3), .object Cn)) (hd : decode cc pc = .ok (.aaload, 1)) (hi : 0 ≤ i ∧ i < (n : Int)) (hj : i.toNat = j) (hq : fs[j]? = some (some q)) (kk : tm_V E X Q nL (pc + 1) lv (.ref (E.2.1 q) :: st) μ) : tm_V E X Q nL pc lv (tm_i i :: .ref (E.2.1 k) :: st) μ := by
  intro ls H locs hl hP hS
  have hn := tm_n hk
  refine va_aldq (D := E.1) C.1 C.2.1 C.2.2.2.2.2.1.1 hP k (r + 3) (tm_ws_at hk) ht (tm_in (by omega) hi) hd ?_
  rw [tm_cl (by omega), hj, List.getD_eq_getElem?_getD, hq]
  exact kk ls H locs hl hP hS
theorem tv_alen {E : tm_Ev} {X : tm_X} {Q : State → Prop} {own : String} {cc : ByteArray} {nL : Nat} {ret : Option FieldType} {d pc : Nat} {lv : List (Nat × Value)} {st : List Value} {μ : tm_M} {k n r : Nat} {fs : List (Option Nat)} (t : Nat) {c1 : ClassId} {ty : FieldType} {x : vp_A} (C : tm_C E X own cc nL ret d) (hk : tm_tm[k]? = some (r, n, fs)) (hx : tm_e E.2.1 E.2.2.1 (μ k) (r, n, fs) = .inl (c1, x)) (ht : (tm_tys E)[t]? = some (c1, ty)) (hn : x.1 = n) (hd : decode cc pc = .ok (.arraylength, 1)) (kk : tm_V E X Q nL (pc + 1) lv (tm_i (n : Int) :: st) μ) : tm_V E X Q nL pc lv (.ref (E.2.1 k) :: st) μ := by
  intro ls H locs hl hP hS
  refine va_alen (D := E.1) (v := Int32.ofInt (n : Int)) C.1 C.2.1 C.2.2.2.2.2.1.1 hP k t ((tm_ws_at hk).trans (by rw [hx])) ht (by rw [hn]; exact Int32.ofInt_eq_ofNat.symm) hd (kk ls H locs hl hP hS)
theorem tv_iast {E : tm_Ev} {X : tm_X} {Q : State → Prop} {own : String} {cc : ByteArray} {nL : Nat} {ret : Option FieldType} {d pc : Nat} {lv : List (Nat × Value)} {st : List Value} {μ : tm_M} {k n : Nat} {fs : List (Option Nat)} {i z : Int} {j : Nat} (C : tm_C E X own cc nL ret d) (hk : tm_tm[k]? = some (1, n, fs)) (hd : decode cc pc = .ok (.iastore, 1)) (hi : 0 ≤ i ∧ i < (n : Int)) (hj : i.toNat = j) (kk : tm_V E X Q nL (pc + 1) lv st (tm_up μ k j z)) : tm_V E X Q nL pc lv (tm_i z :: tm_i i :: .ref (E.2.1 k) :: st) μ := by
  intro ls H locs hl hP hS
  have hn := tm_n hk
  refine va_iast (D := E.1) C.1 C.2.1 C.2.2.2.2.2.1.1 hP (tm_D C.2.2.2.2.2.1 μ) hS k 0 (tm_ws_at hk) rfl (tm_in (by omega) hi) hd (fun H1 locs1 hP1 _ hS1 => ?_)
  refine kk ls H1 locs1 hl ?_ hS1
  rw [← tm_ws_set (μ := μ) (μ' := tm_up μ k j z) hk rfl tm_up_eq]
  have e : tm_e E.2.1 E.2.2.1 (tm_up μ k j z k) (1, n, fs) = .inl (E.2.2.1 0, n, .inl (upd (fun j => Int32.ofInt (μ k j)) (Int32.ofInt i).toNatClampNeg (Int32.ofInt z))) := by
    rw [tm_cl (by omega), hj]
    show Sum.inl (E.2.2.1 0, n, Sum.inl fun b => Int32.ofInt (tm_up μ k j z k b)) = _
    congr 3
    congr 1
    funext b
    by_cases hb : b = j
    · subst hb
      simp [upd, tm_us]
    · simp [upd, tm_uj hb, hb]
  rw [e]
  exact hP1
theorem tv_last {E : tm_Ev} {X : tm_X} {Q : State → Prop} {own : String} {cc : ByteArray} {nL : Nat} {ret : Option FieldType} {d pc : Nat} {lv : List (Nat × Value)} {st : List Value} {μ : tm_M} {k n : Nat} {fs : List (Option Nat)} {i z : Int} {j : Nat} (C : tm_C E X own cc nL ret d) (hk : tm_tm[k]? = some (2, n, fs)) (hd : decode cc pc = .ok (.lastore, 1)) (hi : 0 ≤ i ∧ i < (n : Int)) (hj : i.toNat = j) (kk : tm_V E X Q nL (pc + 1) lv st (tm_up μ k j z)) : tm_V E X Q nL pc lv (tm_l z :: tm_i i :: .ref (E.2.1 k) :: st) μ := by
  intro ls H locs hl hP hS
  have hn := tm_n hk
  refine va_last (D := E.1) C.1 C.2.1 C.2.2.2.2.2.1.1 hP (tm_D C.2.2.2.2.2.1 μ) hS k 1 (tm_ws_at hk) rfl (tm_in (by omega) hi) hd (fun H1 locs1 hP1 _ hS1 => ?_)
  refine kk ls H1 locs1 hl ?_ hS1
  rw [← tm_ws_set (μ := μ) (μ' := tm_up μ k j z) hk rfl tm_up_eq]
  have e : tm_e E.2.1 E.2.2.1 (tm_up μ k j z k) (2, n, fs) = .inl (E.2.2.1 1, n, .inr (.inl (vp_updL (fun j => Int64.ofInt (μ k j)) (Int32.ofInt i).toNatClampNeg (Int64.ofInt z)))) := by
    rw [tm_cl (by omega), hj]
    show Sum.inl (E.2.2.1 1, n, Sum.inr (Sum.inl fun b => Int64.ofInt (tm_up μ k j z k b))) = _
    congr 4
    congr 1
    funext b
    by_cases hb : b = j
    · subst hb
      simp [vp_updL, tm_us]
    · simp [vp_updL, tm_uj hb, hb]
  rw [e]
  exact hP1
theorem tv_zast {E : tm_Ev} {X : tm_X} {Q : State → Prop} {own : String} {cc : ByteArray} {nL : Nat} {ret : Option FieldType} {d pc : Nat} {lv : List (Nat × Value)} {st : List Value} {μ : tm_M} {k n : Nat} {fs : List (Option Nat)} {i z : Int} {j : Nat} (C : tm_C E X own cc nL ret d) (hk : tm_tm[k]? = some (3, n, fs)) (hd : decode cc pc = .ok (.bastore, 1)) (hi : 0 ≤ i ∧ i < (n : Int)) (hj : i.toNat = j) (hz : z = 0 ∨ z = 1) (kk : tm_V E X Q nL (pc + 1) lv st (tm_up μ k j z)) : tm_V E X Q nL pc lv (tm_i z :: tm_i i :: .ref (E.2.1 k) :: st) μ := by
  intro ls H locs hl hP hS
  have hn := tm_n hk
  refine va_zast (D := E.1) C.1 C.2.1 C.2.2.2.2.2.1.1 hP (tm_D C.2.2.2.2.2.1 μ) hS k 2 (tm_ws_at hk) rfl (tm_in (by omega) hi) hd (fun H1 locs1 hP1 _ hS1 => ?_)
  refine kk ls H1 locs1 hl ?_ hS1
  rw [← tm_ws_set (μ := μ) (μ' := tm_up μ k j z) hk rfl tm_up_eq]
  have hnz : vp_nar .boolean (Int32.ofInt z) = Int32.ofInt z := by rcases hz with rfl | rfl <;> rfl
  have e : tm_e E.2.1 E.2.2.1 (tm_up μ k j z k) (3, n, fs) = .inl (E.2.2.1 2, n, .inl (upd (fun j => Int32.ofInt (μ k j)) (Int32.ofInt i).toNatClampNeg (vp_nar .boolean (Int32.ofInt z)))) := by
    rw [tm_cl (by omega), hj, hnz]
    show Sum.inl (E.2.2.1 2, n, Sum.inl fun b => Int32.ofInt (tm_up μ k j z k b)) = _
    congr 3
    congr 1
    funext b
    by_cases hb : b = j
    · subst hb
      simp [upd, tm_us]
    · simp [upd, tm_uj hb, hb]
  rw [e]
  exact hP1
/-! statics -/
theorem tv_gets {E : tm_Ev} {X : tm_X} {Q : State → Prop} {own : String} {cc : ByteArray} {nL : Nat} {ret : Option FieldType} {d pc : Nat} {lv : List (Nat × Value)} {st : List Value} {μ : tm_M} {ix : Nat} (j : Nat) (C : tm_C E X own cc nL ret d) (hj : j < 5) (hf : Cond.fieldLink own ix RX7 (tm_sn j) "[I" ∈ tm_tbl) (hd : decode cc pc = .ok (.getstatic ix, 3)) (kk : tm_V E X Q nL (pc + 3) lv (.ref (E.2.2.2.1 j) :: st) μ) : tm_V E X Q nL pc lv st μ := by
  intro ls H locs hl hP hS
  exact va_gets C.1 C.2.1 (C.2.2.2.2.2.1.2.2.2.1 j hj).1 hS C.2.2.2.1 (C.2.2.2.2.1 _ hf) (fun _ h => h) hd (kk ls H locs hl hP hS)
theorem tv_getsN {E : tm_Ev} {X : tm_X} {Q : State → Prop} {own : String} {cc : ByteArray} {nL : Nat} {ret : Option FieldType} {d pc : Nat} {lv : List (Nat × Value)} {st : List Value} {μ : tm_M} {ix : Nat} (j : Nat) (C : tm_C E X own cc nL ret d) (hj : j < 5) (hf : Cond.fieldLinkNest own ix RX7 (tm_sn j) "[I" RX7 ∈ tm_nst) (hd : decode cc pc = .ok (.getstatic ix, 3)) (kk : tm_V E X Q nL (pc + 3) lv (.ref (E.2.2.2.1 j) :: st) μ) : tm_V E X Q nL pc lv st μ := by
  intro ls H locs hl hP hS
  exact va_getsN C.1 C.2.1 (C.2.2.2.2.2.1.2.2.2.1 j hj).1 hS C.2.2.2.1 (va_Nw.use rfl (C.2.2.2.2.2.1.2.2.2.2 _ hf)) (fun _ h => h) hd (kk ls H locs hl hP hS)
theorem tv_sald {E : tm_Ev} {X : tm_X} {Q : State → Prop} {own : String} {cc : ByteArray} {nL : Nat} {ret : Option FieldType} {d pc : Nat} {lv : List (Nat × Value)} {st : List Value} {μ : tm_M} {i z : Int} (j : Nat) (C : tm_C E X own cc nL ret d) (hj : j < 5) (hd : decode cc pc = .ok (.iaload, 1)) (hi : 0 ≤ i ∧ i < (tm_sl j : Int)) (hz : (tm_sv j).getD i.toNat 0 = z) (kk : tm_V E X Q nL (pc + 1) lv (tm_i z :: st) μ) : tm_V E X Q nL pc lv (tm_i i :: .ref (E.2.2.2.1 j) :: st) μ := by
  intro ls H locs hl hP hS
  have hs : tm_sl j ≤ 5 := by unfold tm_sl; split <;> omega
  exact va_ti C.1 C.2.1 (C.2.2.2.2.2.1.2.2.2.1 j hj).2 hS (tm_in (by omega) hi) (v := tm_i z) (by rw [tm_cl (by omega), hz]) hd (kk ls H locs hl hP hS)
/-! System.arraycopy of ints -/
def tm_cp (μ : tm_M) (k0 k sp dp n : Nat) : tm_M := fun a b => if a = k then (if dp ≤ b ∧ b < dp + n then μ k0 (sp + (b - dp)) else μ a b) else μ a b
def tm_acp (own : String) (ix : Nat) : Prop := Cond.methodLink own ix arraycopyName ∈ tm_tbl ∧ Cond.native arraycopyName ∈ tm_tbl ∧ Cond.static arraycopyName ∈ tm_tbl ∧ Cond.initialized "java/lang/System" ∈ tm_tbl
theorem tv_acopy {E : tm_Ev} {X : tm_X} {Q : State → Prop} {own : String} {cc : ByteArray} {nL : Nat} {ret : Option FieldType} {d pc : Nat} {lv : List (Nat × Value)} {st : List Value} {μ : tm_M} {ix k0 k n0 n1 : Nat} {fs0 fs1 : List (Option Nat)} {sp dp n : Int} {sp' dp' n' : Nat} (C : tm_C E X own cc nL ret (d + 1)) (hf : tm_acp own ix) (hk0 : tm_tm[k0]? = some (1, n0, fs0)) (hk : tm_tm[k]? = some (1, n1, fs1)) (h1 : 0 ≤ sp ∧ 0 ≤ dp ∧ 0 ≤ n ∧ sp + n ≤ (n0 : Int) ∧ dp + n ≤ (n1 : Int)) (e1 : sp.toNat = sp') (e2 : dp.toNat = dp') (e3 : n.toNat = n') (hr : (st.map fun v => v.category).sum ≤ 8) (hd : decode cc pc = .ok (.invokestatic ix, 3)) (kk : tm_V E X Q nL (pc + 3) lv st (tm_cp μ k0 k sp' dp' n')) : tm_V E X Q nL pc lv (tm_i n :: tm_i dp :: .ref (E.2.1 k) :: tm_i sp :: .ref (E.2.1 k0) :: st) μ := by
  intro ls H locs hl hP hS
  obtain ⟨f1, f2, f3, f4⟩ := hf
  have hn0 := tm_n hk0
  have hn1 := tm_n hk
  have hT := C.2.2.2.2.1
  have c1 : (Int32.ofInt sp).toNatClampNeg = sp' := by rw [tm_cl (by omega)]; exact e1
  have c2 : (Int32.ofInt dp).toNatClampNeg = dp' := by rw [tm_cl (by omega)]; exact e2
  have c3 : (Int32.ofInt n).toNatClampNeg = n' := by rw [tm_cl (by omega)]; exact e3
  have ng : ∀ {x : Int}, 0 ≤ x → x ≤ 2147483647 → ¬ Int32.ofInt x < 0 := fun {x} a b h => by
    have := (tm_lti (a := x) (b := 0) (by omega) (by omega)).mp h
    omega
  refine va_copyi (D := E.1) C.1 C.2.1 (by rw [hl.1]; exact C.2.2.1) C.2.2.2.1 (hT _ f1) (hT _ f2) (hT _ f3) (hT _ f4) C.2.2.2.2.2.1.1 hP (tm_D C.2.2.2.2.2.1 μ) hS k0 k 0 0 (tm_ws_at hk0) (tm_ws_at hk) rfl rfl rfl (ng h1.1 (by omega)) (ng h1.2.1 (by omega)) (ng h1.2.2.1 (by omega)) (by rw [c1, c3]; omega) (by rw [c2, c3]; omega) (fun _ _ => rfl) (by rw [C.2.2.2.2.2.2.1]; exact Nat.le_add_left 1 d) (by rw [C.2.2.2.2.2.2.1]; show _ + (nativeFrameWords "java/lang/System" "arraycopy" 5 + 11) ≤ 40 * (d + 1); have : nativeFrameWords "java/lang/System" "arraycopy" 5 + 11 ≤ 30 := (by decide); omega) hd (fun H1 locs1 hP1 _ hS1 => ?_)
  refine kk ls H1 locs1 hl ?_ hS1
  have ho : ∀ a, a ≠ k → tm_cp μ k0 k sp' dp' n' a = μ a := fun a h => by funext b; simp [tm_cp, h]
  rw [← tm_ws_set (μ := μ) (μ' := tm_cp μ k0 k sp' dp' n') hk rfl ho]
  rw [c1, c2, c3] at hP1
  have e : tm_e E.2.1 E.2.2.1 (tm_cp μ k0 k sp' dp' n' k) (1, n1, fs1) = .inl (E.2.2.1 0, n1, .inl (va_cpy (fun j => Int32.ofInt (μ k0 j)) (fun j => Int32.ofInt (μ k j)) sp' dp' n')) := by
    show Sum.inl (E.2.2.1 0, n1, Sum.inl fun b => Int32.ofInt (tm_cp μ k0 k sp' dp' n' k b)) = _
    congr 3
    congr 1
    funext b
    by_cases hb : dp' ≤ b ∧ b < dp' + n'
    · simp [tm_cp, va_cpy, hb]
    · simp only [tm_cp, va_cpy, if_true, if_neg hb]
  rw [e]
  exact hP1
/-! calls -/
def tm_pi (P : Int → tm_M → Prop) : Option Value → tm_M → Prop := fun v μ => ∃ z : Int, v = some (tm_i z) ∧ P z μ
def tm_pl (P : Int → tm_M → Prop) : Option Value → tm_M → Prop := fun v μ => ∃ z : Int, v = some (tm_l z) ∧ P z μ
def tm_pv (P : tm_M → Prop) : Option Value → tm_M → Prop := fun v μ => v = none ∧ P μ
def tm_nm (y : MethodName) (n : Nat) : Prop := y.cls ≠ "java/lang/invoke/MethodHandle" ∧ y.cls ≠ "java/lang/invoke/VarHandle" ∧ (parseMethodDescriptor y.desc).map (fun d => d.parameters.length) = some n
def tm_cv (own : String) (ix : Nat) (y : MethodName) (cc : ByteArray) (nL : Nat) (ret : Option FieldType) (n : Nat) : Prop := Cond.methodLink own ix y ∈ tm_tbl ∧ Cond.instanceMethod y ∈ tm_tbl ∧ Cond.selects y.cls y y ∈ tm_tbl ∧ Cond.initialized y.cls ∈ tm_tbl ∧ Cond.code y cc nL ret ∈ tm_tbl ∧ tm_nm y n ∧ nL ≤ 20
def tm_cs (own : String) (ix : Nat) (y : MethodName) (cc : ByteArray) (nL : Nat) (ret : Option FieldType) (n : Nat) : Prop := Cond.methodLink own ix y ∈ tm_tbl ∧ Cond.static y ∈ tm_tbl ∧ Cond.initialized y.cls ∈ tm_tbl ∧ Cond.code y cc nL ret ∈ tm_tbl ∧ tm_nm y n ∧ nL ≤ 20
def tm_cn (own : String) (ix : Nat) (y : MethodName) (cc : ByteArray) (nL : Nat) (ret : Option FieldType) (n : Nat) : Prop := Cond.methodLinkNest own ix y RX7 ∈ tm_nst ∧ Cond.static y ∈ tm_tbl ∧ Cond.initialized y.cls ∈ tm_tbl ∧ Cond.code y cc nL ret ∈ tm_tbl ∧ tm_nm y n ∧ nL ≤ 20
theorem tv_after {E : tm_Ev} {post : Option Value → tm_M → Prop} {p : Program} {l : Launch} {e : Env} {R : Room} {s : State} {m : MethodId} {args a : Array Value} {below : List Frame} {meth : Method} {c : Code} {H : Heap} {locs : List Loc} {Q : State → Prop} {pc : Nat} {ls : Array Slot} {rest st0 : List Value}
    (hr : va_Run p l e R s m args below meth c H locs 0 0 0 0 (F0 m pc ls st0) rest (tm_Qc E post a) (tm_A E)) (hS : va_S (tm_A E) s.heap H locs)
    (kk : ∀ (v : Option Value) (μ' : tm_M), post v μ' → ∀ (H1 : Heap) (locs1 : List Loc), va_P E.1 vwCl (tm_ws E μ') H1 → va_S (tm_A E) s.heap H1 locs1 → W p l e R s m args below meth c H1 locs1 0 0 Q (F0 m (pc + 3) ls (v.toList ++ rest))) : W p l e R s m args below meth c H locs 0 0 Q (F0 m pc ls st0) := by
  intro T hT X
  obtain ⟨v, st₀, t, T', L, h0, X', hL, e1, e2, ⟨⟨v', μ', hv, hp, hb⟩, hz, hk⟩, st⟩ := hr T hT X
  cases hv
  rw [h0] at hz hk
  obtain ⟨t2, a1, b1⟩ := kk v μ' hp T'.heap (locs ++ L) (by rw [e1]; exact hb)
    ⟨Nat.le_trans hS.1 (by rw [e1]; exact hz), fun q h1 h2 => by rw [e1, hk q (Nat.lt_of_lt_of_le h1 hS.1) h2]; exact hS.2.1 q h1 h2, fun q hq => (List.mem_append.mp hq).elim (hS.2.2 q) (fun h => hL q h)⟩ T' rfl X'
  exact ⟨t2, st t2 a1, b1⟩
theorem tv_callV {E : tm_Ev} {X : tm_X} {Q : State → Prop} {own : String} {cc : ByteArray} {nL : Nat} {ret : Option FieldType} {d pc : Nat} {lv : List (Nat × Value)} {st : List Value} {μ : tm_M} {k ci ix n d' nL' N : Nat} {y : MethodName} {cc' : ByteArray} {ret' : Option FieldType} {T : u_T} {fs : List (Option Nat)} {post : Option Value → tm_M → Prop} (As rest : List Value) (C : tm_C E X own cc nL ret d) (hM : tm_Met E X.2.1 y cc' nL' ret' d' (.ref (E.2.1 k) :: As) μ post) (cw : tm_cv own ix y cc' nL' ret' n) (hk : tm_tm[k]? = some (0, ci, fs)) (hc : vwCl[ci]? = some (y.cls, T, N)) (hdd : d' < d) (hn : As.length = n) (hr : (rest.map fun v => v.category).sum ≤ 8) (hst : st = As.reverse ++ .ref (E.2.1 k) :: rest) (hd : decode cc pc = .ok (.invokevirtual ix, 3))
    (kk : ∀ (v : Option Value) (μ' : tm_M), post v μ' → tm_V E X Q nL (pc + 3) lv (v.toList ++ rest) μ') : tm_V E X Q nL pc lv st μ := by
  intro ls H locs hl hP hS
  subst hst
  obtain ⟨w1, w2, w3, w4, w5, w6, w7⟩ := cw
  have hT := C.2.2.2.2.1
  have hR : (tm_rm d').frames + 1 ≤ X.2.2.2.1.frames ∧ 8 + (nL' + 11) + (tm_rm d').locals ≤ X.2.2.2.1.locals := by
    rw [C.2.2.2.2.2.2.1]
    exact ⟨hdd, show 8 + (nL' + 11) + 40 * d' ≤ 40 * d by omega⟩
  refine tv_after (va_runV (As := As) (rest := rest) ⟨C.1, C.2.1, C.2.2.1, C.2.2.2.1, hT⟩ hM ⟨callB_of n hT (tm_good w5) rfl rfl rfl (hT _ w4) (hT _ w1) w6 hR, hT _ w2, hT _ w3⟩ ⟨tm_blind, va_recv C.2.2.2.2.2.1.1 hP hc (tm_ws_at hk), fun U hU hW => ⟨rfl, by rw [hU]; exact hP, tm_K_step C.2.2.2.2.2.1 hS hU hW⟩⟩ rfl hn hl.1 rfl (lv_room hr) hd ⟨Nat.zero_le _, Nat.zero_le _⟩) hS ?_
  intro v μ' hp H1 locs1 hP1 hS1
  exact kk v μ' hp ls H1 locs1 hl hP1 hS1
theorem tv_callS {E : tm_Ev} {X : tm_X} {Q : State → Prop} {own : String} {cc : ByteArray} {nL : Nat} {ret : Option FieldType} {d pc : Nat} {lv : List (Nat × Value)} {st : List Value} {μ : tm_M} {ix n d' nL' : Nat} {y : MethodName} {cc' : ByteArray} {ret' : Option FieldType} {post : Option Value → tm_M → Prop} (As rest : List Value) (C : tm_C E X own cc nL ret d) (hM : tm_Met E X.2.1 y cc' nL' ret' d' As μ post) (cw : tm_cs own ix y cc' nL' ret' n) (hdd : d' < d) (hn : As.length = n) (hr : (rest.map fun v => v.category).sum ≤ 8) (hst : st = As.reverse ++ rest) (hd : decode cc pc = .ok (.invokestatic ix, 3))
    (kk : ∀ (v : Option Value) (μ' : tm_M), post v μ' → tm_V E X Q nL (pc + 3) lv (v.toList ++ rest) μ') : tm_V E X Q nL pc lv st μ := by
  intro ls H locs hl hP hS
  subst hst
  obtain ⟨w1, w2, w4, w5, w6, w7⟩ := cw
  have hT := C.2.2.2.2.1
  have hR : (tm_rm d').frames + 1 ≤ X.2.2.2.1.frames ∧ 8 + (nL' + 11) + (tm_rm d').locals ≤ X.2.2.2.1.locals := by
    rw [C.2.2.2.2.2.2.1]
    exact ⟨hdd, show 8 + (nL' + 11) + 40 * d' ≤ 40 * d by omega⟩
  refine tv_after (va_runS (As := As) (rest := rest) ⟨C.1, C.2.1, C.2.2.1, C.2.2.2.1, hT⟩ hM ⟨callB_of n hT (tm_good w5) rfl rfl rfl (hT _ w4) (hT _ w1) w6 hR, hT _ w2⟩ ⟨tm_blind, fun U hU hW => ⟨rfl, by rw [hU]; exact hP, tm_K_step C.2.2.2.2.2.1 hS hU hW⟩⟩ rfl hn hl.1 rfl (lv_room hr) hd ⟨Nat.zero_le _, Nat.zero_le _⟩) hS ?_
  intro v μ' hp H1 locs1 hP1 hS1
  exact kk v μ' hp ls H1 locs1 hl hP1 hS1
theorem tv_callN {E : tm_Ev} {X : tm_X} {Q : State → Prop} {own : String} {cc : ByteArray} {nL : Nat} {ret : Option FieldType} {d pc : Nat} {lv : List (Nat × Value)} {st : List Value} {μ : tm_M} {ix n d' nL' : Nat} {y : MethodName} {cc' : ByteArray} {ret' : Option FieldType} {post : Option Value → tm_M → Prop} (As rest : List Value) (C : tm_C E X own cc nL ret d) (hM : tm_Met E X.2.1 y cc' nL' ret' d' As μ post) (cw : tm_cn own ix y cc' nL' ret' n) (hdd : d' < d) (hn : As.length = n) (hr : (rest.map fun v => v.category).sum ≤ 8) (hst : st = As.reverse ++ rest) (hd : decode cc pc = .ok (.invokestatic ix, 3))
    (kk : ∀ (v : Option Value) (μ' : tm_M), post v μ' → tm_V E X Q nL (pc + 3) lv (v.toList ++ rest) μ') : tm_V E X Q nL pc lv st μ := by
  intro ls H locs hl hP hS
  subst hst
  obtain ⟨w1, w2, w4, w5, w6, w7⟩ := cw
  have hT := C.2.2.2.2.1
  have hR : (tm_rm d').frames + 1 ≤ X.2.2.2.1.frames ∧ 8 + (nL' + 11) + (tm_rm d').locals ≤ X.2.2.2.1.locals := by
    rw [C.2.2.2.2.2.2.1]
    exact ⟨hdd, show 8 + (nL' + 11) + 40 * d' ≤ 40 * d by omega⟩
  refine tv_after (va_runSN (As := As) (rest := rest) ⟨C.1, C.2.1, C.2.2.1, C.2.2.2.1, hT⟩ hM ⟨va_cnB n hT (tm_good w5) rfl rfl rfl (C.2.2.2.2.2.1.2.2.2.2 _ w1) (hT _ w4) w6 hR, hT _ w2, trivial⟩ ⟨tm_blind, fun U hU hW => ⟨rfl, by rw [hU]; exact hP, tm_K_step C.2.2.2.2.2.1 hS hU hW⟩⟩ rfl hn hl.1 rfl (lv_room hr) hd ⟨Nat.zero_le _, Nat.zero_le _⟩) hS ?_
  intro v μ' hp H1 locs1 hP1 hS1
  exact kk v μ' hp ls H1 locs1 hl hP1 hS1
theorem tm_ki {E : tm_Ev} {X : tm_X} {Q : State → Prop} {nL pc : Nat} {lv : List (Nat × Value)} {rest : List Value} {P : Int → tm_M → Prop} (kk : ∀ (z : Int) (μ' : tm_M), P z μ' → tm_V E X Q nL pc lv (tm_i z :: rest) μ') : ∀ (v : Option Value) (μ' : tm_M), tm_pi P v μ' → tm_V E X Q nL pc lv (v.toList ++ rest) μ' := by
  rintro v μ' ⟨z, rfl, h⟩
  exact kk z μ' h
theorem tm_kp {E : tm_Ev} {X : tm_X} {Q : State → Prop} {nL pc : Nat} {lv : List (Nat × Value)} {rest : List Value} {f : Int} {μ : tm_M} (kk : tm_V E X Q nL pc lv (tm_i f :: rest) μ) : ∀ (v : Option Value) (μ' : tm_M), tm_pi (fun z μ' => z = f ∧ μ' = μ) v μ' → tm_V E X Q nL pc lv (v.toList ++ rest) μ' := by
  rintro v μ' ⟨z, rfl, rfl, rfl⟩
  exact kk
theorem tm_kq {E : tm_Ev} {X : tm_X} {Q : State → Prop} {nL pc : Nat} {lv : List (Nat × Value)} {rest : List Value} {μ : tm_M} (kk : tm_V E X Q nL pc lv rest μ) : ∀ (v : Option Value) (μ' : tm_M), tm_pv (fun μ' => μ' = μ) v μ' → tm_V E X Q nL pc lv (v.toList ++ rest) μ' := by
  rintro v μ' ⟨rfl, rfl⟩
  exact kk
theorem tm_kl {E : tm_Ev} {X : tm_X} {Q : State → Prop} {nL pc : Nat} {lv : List (Nat × Value)} {rest : List Value} {P : Int → tm_M → Prop} (kk : ∀ (z : Int) (μ' : tm_M), P z μ' → tm_V E X Q nL pc lv (tm_l z :: rest) μ') : ∀ (v : Option Value) (μ' : tm_M), tm_pl P v μ' → tm_V E X Q nL pc lv (v.toList ++ rest) μ' := by
  rintro v μ' ⟨z, rfl, h⟩
  exact kk z μ' h
theorem tm_kv {E : tm_Ev} {X : tm_X} {Q : State → Prop} {nL pc : Nat} {lv : List (Nat × Value)} {rest : List Value} {P : tm_M → Prop} (kk : ∀ (μ' : tm_M), P μ' → tm_V E X Q nL pc lv rest μ') : ∀ (v : Option Value) (μ' : tm_M), tm_pv P v μ' → tm_V E X Q nL pc lv (v.toList ++ rest) μ' := by
  rintro v μ' ⟨rfl, h⟩
  exact kk μ' h
end
section
set_option maxRecDepth 100000 in
theorem cls_0 : tm_cls 0 RX0 TX0 7 tyX0 := ⟨rfl, by decide +kernel, tyX0_ok, nmX0⟩
set_option maxRecDepth 100000 in
theorem cls_1 : tm_cls 1 RX1 TX1 5 tyX1 := ⟨rfl, by decide +kernel, tyX1_ok, nmX1⟩
set_option maxRecDepth 100000 in
theorem cls_2 : tm_cls 2 RX2 TX2 2 tyX2 := ⟨rfl, by decide +kernel, tyX2_ok, nmX2⟩
set_option maxRecDepth 100000 in
theorem cls_3 : tm_cls 3 RX3 TX3 6 tyX3 := ⟨rfl, by decide +kernel, tyX3_ok, nmX3⟩
set_option maxRecDepth 100000 in
theorem cls_4 : tm_cls 4 RX4 TX4 4 tyX4 := ⟨rfl, by decide +kernel, tyX4_ok, nmX4⟩
set_option maxRecDepth 100000 in
theorem cls_5 : tm_cls 5 RX5 TX5 8 tyX5 := ⟨rfl, by decide +kernel, tyX5_ok, nmX5⟩
set_option maxRecDepth 100000 in
theorem cls_6 : tm_cls 6 RX6 TX6 3 tyX6 := ⟨rfl, by decide +kernel, tyX6_ok, nmX6⟩
set_option maxRecDepth 100000 in
theorem cls_7 : tm_cls 7 RX7 TX7 19 tyX7 := ⟨rfl, by decide +kernel, tyX7_ok, nmX7⟩
set_option maxRecDepth 100000 in
theorem cls_8 : tm_cls 8 RX8 TX8 45 tyX8 := ⟨rfl, by decide +kernel, tyX8_ok, nmX8⟩
theorem fl_X7_14 : tm_fl RX7 14 7 0 := ⟨_, _, _, _, cls_7, by decide, tm_mem 302 (by decide +kernel) rfl⟩
theorem fl_X7_18 : tm_fl RX7 18 7 1 := ⟨_, _, _, _, cls_7, by decide, tm_mem 303 (by decide +kernel) rfl⟩
theorem fl_X7_22 : tm_fl RX7 22 7 2 := ⟨_, _, _, _, cls_7, by decide, tm_mem 304 (by decide +kernel) rfl⟩
theorem fl_X7_25 : tm_fl RX7 25 7 3 := ⟨_, _, _, _, cls_7, by decide, tm_mem 305 (by decide +kernel) rfl⟩
theorem fl_X7_28 : tm_fl RX7 28 7 4 := ⟨_, _, _, _, cls_7, by decide, tm_mem 306 (by decide +kernel) rfl⟩
theorem fl_X7_34 : tm_fl RX7 34 7 5 := ⟨_, _, _, _, cls_7, by decide, tm_mem 307 (by decide +kernel) rfl⟩
theorem fl_X7_41 : tm_fl RX7 41 7 7 := ⟨_, _, _, _, cls_7, by decide, tm_mem 309 (by decide +kernel) rfl⟩
theorem gs_X7_45 : Cond.fieldLink RX7 45 RX7 (tm_sn 2) "[I" ∈ tm_tbl := tm_mem 159 (by decide +kernel) rfl
theorem fl_X7_54 : tm_fl RX7 54 7 8 := ⟨_, _, _, _, cls_7, by decide, tm_mem 310 (by decide +kernel) rfl⟩
theorem fl_X7_62 : tm_fl RX7 62 7 9 := ⟨_, _, _, _, cls_7, by decide, tm_mem 311 (by decide +kernel) rfl⟩
theorem fl_X7_69 : tm_fl RX7 69 7 10 := ⟨_, _, _, _, cls_7, by decide, tm_mem 312 (by decide +kernel) rfl⟩
theorem fl_X7_73 : tm_fl RX7 73 7 11 := ⟨_, _, _, _, cls_7, by decide, tm_mem 313 (by decide +kernel) rfl⟩
theorem fl_X7_76 : tm_fl RX7 76 7 12 := ⟨_, _, _, _, cls_7, by decide, tm_mem 314 (by decide +kernel) rfl⟩
theorem fl_X7_82 : tm_fl RX7 82 7 13 := ⟨_, _, _, _, cls_7, by decide, tm_mem 315 (by decide +kernel) rfl⟩
theorem fl_X7_86 : tm_fl RX7 86 7 14 := ⟨_, _, _, _, cls_7, by decide, tm_mem 316 (by decide +kernel) rfl⟩
theorem fl_X7_90 : tm_fl RX7 90 7 15 := ⟨_, _, _, _, cls_7, by decide, tm_mem 317 (by decide +kernel) rfl⟩
theorem fl_X7_93 : tm_fl RX7 93 7 18 := ⟨_, _, _, _, cls_7, by decide, tm_mem 320 (by decide +kernel) rfl⟩
theorem fp_X7_93 : tm_fp RX7 93 7 18 .int := ⟨_, _, _, _, cls_7, by decide, tm_mem 320 (by decide +kernel) rfl, rfl, by decide +kernel⟩
theorem cs_X7_97 : tm_cs RX7 97 yX7_within cX7_within 3 (some .boolean) 3 := ⟨tm_mem 365 (by decide +kernel) rfl, tm_mem 366 (by decide +kernel) rfl, tm_mem 56 (by decide +kernel) rfl, tm_mem 367 (by decide +kernel) rfl, ⟨by decide +kernel, by decide +kernel, by decide +kernel⟩, by decide⟩
theorem cv_X7_101 : tm_cv RX7 101 yX7_more cX7_more 3 (some .int) 2 := ⟨tm_mem 368 (by decide +kernel) rfl, tm_mem 370 (by decide +kernel) rfl, tm_mem 0 (by decide +kernel) rfl, tm_mem 56 (by decide +kernel) rfl, tm_mem 371 (by decide +kernel) rfl, ⟨by decide +kernel, by decide +kernel, by decide +kernel⟩, by decide⟩
theorem fl_X7_105 : tm_fl RX7 105 2 1 := ⟨_, _, _, _, cls_2, by decide, tm_mem 94 (by decide +kernel) rfl⟩
theorem fp_X7_105 : tm_fp RX7 105 2 1 .int := ⟨_, _, _, _, cls_2, by decide, tm_mem 94 (by decide +kernel) rfl, rfl, by decide +kernel⟩
theorem cv_X7_108 : tm_cv RX7 108 yX7_changed cX7_changed 1 none 0 := ⟨tm_mem 381 (by decide +kernel) rfl, tm_mem 383 (by decide +kernel) rfl, tm_mem 1 (by decide +kernel) rfl, tm_mem 56 (by decide +kernel) rfl, tm_mem 384 (by decide +kernel) rfl, ⟨by decide +kernel, by decide +kernel, by decide +kernel⟩, by decide⟩
theorem cv_X7_111 : tm_cv RX7 111 yX7_less cX7_less 2 (some .int) 1 := ⟨tm_mem 393 (by decide +kernel) rfl, tm_mem 395 (by decide +kernel) rfl, tm_mem 2 (by decide +kernel) rfl, tm_mem 56 (by decide +kernel) rfl, tm_mem 396 (by decide +kernel) rfl, ⟨by decide +kernel, by decide +kernel, by decide +kernel⟩, by decide⟩
theorem cs_X7_115 : tm_cs RX7 115 yX7_tideFault cX7_tideFault 2 (some .int) 1 := ⟨tm_mem 401 (by decide +kernel) rfl, tm_mem 402 (by decide +kernel) rfl, tm_mem 56 (by decide +kernel) rfl, tm_mem 403 (by decide +kernel) rfl, ⟨by decide +kernel, by decide +kernel, by decide +kernel⟩, by decide⟩
theorem cs_X7_118 : tm_cs RX7 118 yX7_orderFault cX7_orderFault 2 (some .int) 1 := ⟨tm_mem 407 (by decide +kernel) rfl, tm_mem 408 (by decide +kernel) rfl, tm_mem 56 (by decide +kernel) rfl, tm_mem 409 (by decide +kernel) rfl, ⟨by decide +kernel, by decide +kernel, by decide +kernel⟩, by decide⟩
theorem cs_X7_121 : tm_cs RX7 121 yX7_isHour cX7_isHour 1 (some .boolean) 1 := ⟨tm_mem 417 (by decide +kernel) rfl, tm_mem 418 (by decide +kernel) rfl, tm_mem 56 (by decide +kernel) rfl, tm_mem 419 (by decide +kernel) rfl, ⟨by decide +kernel, by decide +kernel, by decide +kernel⟩, by decide⟩
theorem cv_X7_125 : tm_cv RX7 125 yX7_settle cX7_settle 1 none 0 := ⟨tm_mem 420 (by decide +kernel) rfl, tm_mem 422 (by decide +kernel) rfl, tm_mem 3 (by decide +kernel) rfl, tm_mem 56 (by decide +kernel) rfl, tm_mem 423 (by decide +kernel) rfl, ⟨by decide +kernel, by decide +kernel, by decide +kernel⟩, by decide⟩
theorem fl_X7_128 : tm_fl RX7 128 0 2 := ⟨_, _, _, _, cls_0, by decide, tm_mem 182 (by decide +kernel) rfl⟩
theorem cv_X7_131 : tm_cv RX7 131 yX7_isOrder cX7_isOrder 2 (some .boolean) 1 := ⟨tm_mem 473 (by decide +kernel) rfl, tm_mem 475 (by decide +kernel) rfl, tm_mem 4 (by decide +kernel) rfl, tm_mem 56 (by decide +kernel) rfl, tm_mem 476 (by decide +kernel) rfl, ⟨by decide +kernel, by decide +kernel, by decide +kernel⟩, by decide⟩
theorem fl_X7_134 : tm_fl RX7 134 1 0 := ⟨_, _, _, _, cls_1, by decide, tm_mem 130 (by decide +kernel) rfl⟩
theorem fl_X7_137 : tm_fl RX7 137 1 1 := ⟨_, _, _, _, cls_1, by decide, tm_mem 134 (by decide +kernel) rfl⟩
theorem fl_X7_140 : tm_fl RX7 140 1 2 := ⟨_, _, _, _, cls_1, by decide, tm_mem 138 (by decide +kernel) rfl⟩
theorem fl_X7_143 : tm_fl RX7 143 1 3 := ⟨_, _, _, _, cls_1, by decide, tm_mem 142 (by decide +kernel) rfl⟩
theorem gs_X7_146 : Cond.fieldLink RX7 146 RX7 (tm_sn 0) "[I" ∈ tm_tbl := tm_mem 481 (by decide +kernel) rfl
theorem gs_X7_149 : Cond.fieldLink RX7 149 RX7 (tm_sn 1) "[I" ∈ tm_tbl := tm_mem 483 (by decide +kernel) rfl
theorem cs_X7_152 : tm_cs RX7 152 yX7_isSheet cX7_isSheet 1 (some .boolean) 1 := ⟨tm_mem 501 (by decide +kernel) rfl, tm_mem 502 (by decide +kernel) rfl, tm_mem 56 (by decide +kernel) rfl, tm_mem 503 (by decide +kernel) rfl, ⟨by decide +kernel, by decide +kernel, by decide +kernel⟩, by decide⟩
theorem cv_X7_155 : tm_cv RX7 155 yX6_isLost cX6_isLost 1 (some .boolean) 0 := ⟨tm_mem 504 (by decide +kernel) rfl, tm_mem 505 (by decide +kernel) rfl, tm_mem 506 (by decide +kernel) rfl, tm_mem 59 (by decide +kernel) rfl, tm_mem 507 (by decide +kernel) rfl, ⟨by decide +kernel, by decide +kernel, by decide +kernel⟩, by decide⟩
theorem cv_X7_159 : tm_cv RX7 159 yX7_found cX7_found 2 (some .int) 1 := ⟨tm_mem 508 (by decide +kernel) rfl, tm_mem 510 (by decide +kernel) rfl, tm_mem 5 (by decide +kernel) rfl, tm_mem 56 (by decide +kernel) rfl, tm_mem 511 (by decide +kernel) rfl, ⟨by decide +kernel, by decide +kernel, by decide +kernel⟩, by decide⟩
theorem fl_X7_163 : tm_fl RX7 163 6 2 := ⟨_, _, _, _, cls_6, by decide, tm_mem 113 (by decide +kernel) rfl⟩
theorem fl_X7_164 : tm_fl RX7 164 6 0 := ⟨_, _, _, _, cls_6, by decide, tm_mem 109 (by decide +kernel) rfl⟩
theorem cv_X7_167 : tm_cv RX7 167 yX2_isFull cX2_isFull 1 (some .boolean) 0 := ⟨tm_mem 372 (by decide +kernel) rfl, tm_mem 373 (by decide +kernel) rfl, tm_mem 374 (by decide +kernel) rfl, tm_mem 57 (by decide +kernel) rfl, tm_mem 375 (by decide +kernel) rfl, ⟨by decide +kernel, by decide +kernel, by decide +kernel⟩, by decide⟩
theorem cv_X7_170 : tm_cv RX7 170 yX2_add cX2_add 2 none 1 := ⟨tm_mem 376 (by decide +kernel) rfl, tm_mem 377 (by decide +kernel) rfl, tm_mem 378 (by decide +kernel) rfl, tm_mem 57 (by decide +kernel) rfl, tm_mem 379 (by decide +kernel) rfl, ⟨by decide +kernel, by decide +kernel, by decide +kernel⟩, by decide⟩
theorem fl_X7_173 : tm_fl RX7 173 5 1 := ⟨_, _, _, _, cls_5, by decide, tm_mem 242 (by decide +kernel) rfl⟩
theorem fl_X7_176 : tm_fl RX7 176 5 2 := ⟨_, _, _, _, cls_5, by decide, tm_mem 244 (by decide +kernel) rfl⟩
theorem fl_X7_177 : tm_fl RX7 177 5 3 := ⟨_, _, _, _, cls_5, by decide, tm_mem 246 (by decide +kernel) rfl⟩
theorem fl_X7_180 : tm_fl RX7 180 5 4 := ⟨_, _, _, _, cls_5, by decide, tm_mem 248 (by decide +kernel) rfl⟩
theorem fl_X7_183 : tm_fl RX7 183 5 5 := ⟨_, _, _, _, cls_5, by decide, tm_mem 250 (by decide +kernel) rfl⟩
theorem fl_X7_186 : tm_fl RX7 186 5 6 := ⟨_, _, _, _, cls_5, by decide, tm_mem 252 (by decide +kernel) rfl⟩
theorem cv_X7_189 : tm_cv RX7 189 yX5_sumPaid cX5_sumPaid 4 (some .int) 1 := ⟨tm_mem 524 (by decide +kernel) rfl, tm_mem 525 (by decide +kernel) rfl, tm_mem 526 (by decide +kernel) rfl, tm_mem 62 (by decide +kernel) rfl, tm_mem 527 (by decide +kernel) rfl, ⟨by decide +kernel, by decide +kernel, by decide +kernel⟩, by decide⟩
theorem fl_X7_193 : tm_fl RX7 193 5 0 := ⟨_, _, _, _, cls_5, by decide, tm_mem 240 (by decide +kernel) rfl⟩
theorem fl_X7_197 : tm_fl RX7 197 4 3 := ⟨_, _, _, _, cls_4, by decide, tm_mem 229 (by decide +kernel) rfl⟩
theorem fl_X7_202 : tm_fl RX7 202 5 7 := ⟨_, _, _, _, cls_5, by decide, tm_mem 254 (by decide +kernel) rfl⟩
theorem fl_X7_205 : tm_fl RX7 205 1 4 := ⟨_, _, _, _, cls_1, by decide, tm_mem 147 (by decide +kernel) rfl⟩
theorem cv_X7_206 : tm_cv RX7 206 yX5_pays cX5_pays 3 (some .boolean) 2 := ⟨tm_mem 544 (by decide +kernel) rfl, tm_mem 529 (by decide +kernel) rfl, tm_mem 530 (by decide +kernel) rfl, tm_mem 62 (by decide +kernel) rfl, tm_mem 531 (by decide +kernel) rfl, ⟨by decide +kernel, by decide +kernel, by decide +kernel⟩, by decide⟩
theorem fl_X7_210 : tm_fl RX7 210 7 17 := ⟨_, _, _, _, cls_7, by decide, tm_mem 319 (by decide +kernel) rfl⟩
theorem fp_X7_210 : tm_fp RX7 210 7 17 .boolean := ⟨_, _, _, _, cls_7, by decide, tm_mem 319 (by decide +kernel) rfl, rfl, by decide +kernel⟩
theorem cv_X7_214 : tm_cv RX7 214 yX3_look cX3_look 2 none 1 := ⟨tm_mem 549 (by decide +kernel) rfl, tm_mem 550 (by decide +kernel) rfl, tm_mem 551 (by decide +kernel) rfl, tm_mem 64 (by decide +kernel) rfl, tm_mem 552 (by decide +kernel) rfl, ⟨by decide +kernel, by decide +kernel, by decide +kernel⟩, by decide⟩
theorem fl_X7_218 : tm_fl RX7 218 3 5 := ⟨_, _, _, _, cls_3, by decide, tm_mem 288 (by decide +kernel) rfl⟩
theorem fl_X7_221 : tm_fl RX7 221 3 2 := ⟨_, _, _, _, cls_3, by decide, tm_mem 284 (by decide +kernel) rfl⟩
theorem cv_X7_224 : tm_cv RX7 224 yX0_becomeLike cX0_becomeLike 2 none 1 := ⟨tm_mem 579 (by decide +kernel) rfl, tm_mem 580 (by decide +kernel) rfl, tm_mem 581 (by decide +kernel) rfl, tm_mem 61 (by decide +kernel) rfl, tm_mem 582 (by decide +kernel) rfl, ⟨by decide +kernel, by decide +kernel, by decide +kernel⟩, by decide⟩
theorem fl_X7_227 : tm_fl RX7 227 0 4 := ⟨_, _, _, _, cls_0, by decide, tm_mem 189 (by decide +kernel) rfl⟩
theorem cv_X7_229 : tm_cv RX7 229 yX5_play cX5_play 8 none 1 := ⟨tm_mem 443 (by decide +kernel) rfl, tm_mem 444 (by decide +kernel) rfl, tm_mem 445 (by decide +kernel) rfl, tm_mem 62 (by decide +kernel) rfl, tm_mem 446 (by decide +kernel) rfl, ⟨by decide +kernel, by decide +kernel, by decide +kernel⟩, by decide⟩
theorem cv_X7_232 : tm_cv RX7 232 yX5_allSacks cX5_allSacks 1 (some .int) 0 := ⟨tm_mem 583 (by decide +kernel) rfl, tm_mem 584 (by decide +kernel) rfl, tm_mem 585 (by decide +kernel) rfl, tm_mem 62 (by decide +kernel) rfl, tm_mem 586 (by decide +kernel) rfl, ⟨by decide +kernel, by decide +kernel, by decide +kernel⟩, by decide⟩
theorem fl_X7_236 : tm_fl RX7 236 0 1 := ⟨_, _, _, _, cls_0, by decide, tm_mem 179 (by decide +kernel) rfl⟩
theorem cv_X7_237 : tm_cv RX7 237 yX5_endsAll cX5_endsAll 3 (some .boolean) 1 := ⟨tm_mem 591 (by decide +kernel) rfl, tm_mem 592 (by decide +kernel) rfl, tm_mem 593 (by decide +kernel) rfl, tm_mem 62 (by decide +kernel) rfl, tm_mem 594 (by decide +kernel) rfl, ⟨by decide +kernel, by decide +kernel, by decide +kernel⟩, by decide⟩
theorem cv_X7_241 : tm_cv RX7 241 yX0_sendAway cX0_sendAway 4 none 1 := ⟨tm_mem 599 (by decide +kernel) rfl, tm_mem 600 (by decide +kernel) rfl, tm_mem 601 (by decide +kernel) rfl, tm_mem 61 (by decide +kernel) rfl, tm_mem 602 (by decide +kernel) rfl, ⟨by decide +kernel, by decide +kernel, by decide +kernel⟩, by decide⟩
theorem fl_X7_244 : tm_fl RX7 244 0 3 := ⟨_, _, _, _, cls_0, by decide, tm_mem 185 (by decide +kernel) rfl⟩
theorem fl_X7_246 : tm_fl RX7 246 2 0 := ⟨_, _, _, _, cls_2, by decide, tm_mem 90 (by decide +kernel) rfl⟩
theorem cv_X7_247 : tm_cv RX7 247 yX7_comesOutSo cX7_comesOutSo 2 (some .boolean) 0 := ⟨tm_mem 615 (by decide +kernel) rfl, tm_mem 617 (by decide +kernel) rfl, tm_mem 8 (by decide +kernel) rfl, tm_mem 56 (by decide +kernel) rfl, tm_mem 618 (by decide +kernel) rfl, ⟨by decide +kernel, by decide +kernel, by decide +kernel⟩, by decide⟩
theorem cv_X7_250 : tm_cv RX7 250 yX7_countCrowd cX7_countCrowd 3 none 0 := ⟨tm_mem 627 (by decide +kernel) rfl, tm_mem 629 (by decide +kernel) rfl, tm_mem 9 (by decide +kernel) rfl, tm_mem 56 (by decide +kernel) rfl, tm_mem 630 (by decide +kernel) rfl, ⟨by decide +kernel, by decide +kernel, by decide +kernel⟩, by decide⟩
theorem cv_X7_253 : tm_cv RX7 253 yX7_greatestCrowd cX7_greatestCrowd 4 (some .int) 1 := ⟨tm_mem 631 (by decide +kernel) rfl, tm_mem 633 (by decide +kernel) rfl, tm_mem 10 (by decide +kernel) rfl, tm_mem 56 (by decide +kernel) rfl, tm_mem 634 (by decide +kernel) rfl, ⟨by decide +kernel, by decide +kernel, by decide +kernel⟩, by decide⟩
theorem kl_X7_256 : Cond.constantLong RX7 256 (-9223372036854775806) ∈ tm_tbl := tm_mem 640 (by decide +kernel) rfl
theorem cv_X7_258 : tm_cv RX7 258 yX7_weighShowers cX7_weighShowers 7 none 1 := ⟨tm_mem 641 (by decide +kernel) rfl, tm_mem 643 (by decide +kernel) rfl, tm_mem 11 (by decide +kernel) rfl, tm_mem 56 (by decide +kernel) rfl, tm_mem 644 (by decide +kernel) rfl, ⟨by decide +kernel, by decide +kernel, by decide +kernel⟩, by decide⟩
theorem cs_X7_261 : tm_cs RX7 261 yX7_power cX7_power 5 (some .long) 2 := ⟨tm_mem 654 (by decide +kernel) rfl, tm_mem 655 (by decide +kernel) rfl, tm_mem 56 (by decide +kernel) rfl, tm_mem 656 (by decide +kernel) rfl, ⟨by decide +kernel, by decide +kernel, by decide +kernel⟩, by decide⟩
theorem kl_X7_265 : Cond.constantLong RX7 265 (2) ∈ tm_tbl := tm_mem 657 (by decide +kernel) rfl
theorem kc_X7_267 : Cond.constant RX7 267 (1103515245) ∈ tm_tbl := tm_mem 662 (by decide +kernel) rfl
theorem cs_X7_268 : tm_cs RX7 268 yX7_isForm cX7_isForm 1 (some .boolean) 1 := ⟨tm_mem 667 (by decide +kernel) rfl, tm_mem 668 (by decide +kernel) rfl, tm_mem 56 (by decide +kernel) rfl, tm_mem 669 (by decide +kernel) rfl, ⟨by decide +kernel, by decide +kernel, by decide +kernel⟩, by decide⟩
theorem cv_X7_271 : tm_cv RX7 271 yX6_begin cX6_begin 3 none 2 := ⟨tm_mem 670 (by decide +kernel) rfl, tm_mem 671 (by decide +kernel) rfl, tm_mem 672 (by decide +kernel) rfl, tm_mem 59 (by decide +kernel) rfl, tm_mem 673 (by decide +kernel) rfl, ⟨by decide +kernel, by decide +kernel, by decide +kernel⟩, by decide⟩
theorem cv_X7_275 : tm_cv RX7 275 yX6_wrongWith cX6_wrongWith 3 (some .int) 2 := ⟨tm_mem 683 (by decide +kernel) rfl, tm_mem 684 (by decide +kernel) rfl, tm_mem 685 (by decide +kernel) rfl, tm_mem 59 (by decide +kernel) rfl, tm_mem 686 (by decide +kernel) rfl, ⟨by decide +kernel, by decide +kernel, by decide +kernel⟩, by decide⟩
theorem cv_X7_279 : tm_cv RX7 279 yX6_store cX6_store 3 none 2 := ⟨tm_mem 692 (by decide +kernel) rfl, tm_mem 693 (by decide +kernel) rfl, tm_mem 694 (by decide +kernel) rfl, tm_mem 59 (by decide +kernel) rfl, tm_mem 695 (by decide +kernel) rfl, ⟨by decide +kernel, by decide +kernel, by decide +kernel⟩, by decide⟩
theorem kc_X7_282 : Cond.constant RX7 282 (-2147483648) ∈ tm_tbl := tm_mem 700 (by decide +kernel) rfl
theorem fl_X7_283 : tm_fl RX7 283 7 6 := ⟨_, _, _, _, cls_7, by decide, tm_mem 308 (by decide +kernel) rfl⟩
theorem fp_X7_283 : tm_fp RX7 283 7 6 .int := ⟨_, _, _, _, cls_7, by decide, tm_mem 308 (by decide +kernel) rfl, rfl, by decide +kernel⟩
theorem fl_X7_286 : tm_fl RX7 286 6 1 := ⟨_, _, _, _, cls_6, by decide, tm_mem 111 (by decide +kernel) rfl⟩
theorem cv_X7_289 : tm_cv RX7 289 yX6_holds cX6_holds 3 (some .boolean) 2 := ⟨tm_mem 705 (by decide +kernel) rfl, tm_mem 689 (by decide +kernel) rfl, tm_mem 690 (by decide +kernel) rfl, tm_mem 59 (by decide +kernel) rfl, tm_mem 691 (by decide +kernel) rfl, ⟨by decide +kernel, by decide +kernel, by decide +kernel⟩, by decide⟩
theorem ac_X7_293 : tm_acp RX7 293 := ⟨tm_mem 706 (by decide +kernel) rfl, tm_mem 436 (by decide +kernel) rfl, tm_mem 435 (by decide +kernel) rfl, tm_mem 66 (by decide +kernel) rfl⟩
theorem cs_X7_299 : tm_cs RX7 299 yJ9_min_7cf53 cJ9_min_7cf53 2 (some .int) 2 := ⟨tm_mem 711 (by decide +kernel) rfl, tm_mem 458 (by decide +kernel) rfl, tm_mem 58 (by decide +kernel) rfl, tm_mem 459 (by decide +kernel) rfl, ⟨by decide +kernel, by decide +kernel, by decide +kernel⟩, by decide⟩
theorem kl_X7_304 : Cond.constantLong RX7 304 (17) ∈ tm_tbl := tm_mem 720 (by decide +kernel) rfl
theorem kl_X7_306 : Cond.constantLong RX7 306 (31) ∈ tm_tbl := tm_mem 721 (by decide +kernel) rfl
theorem cv_X7_308 : tm_cv RX7 308 yX7_count cX7_count 2 (some .int) 1 := ⟨tm_mem 722 (by decide +kernel) rfl, tm_mem 713 (by decide +kernel) rfl, tm_mem 714 (by decide +kernel) rfl, tm_mem 56 (by decide +kernel) rfl, tm_mem 715 (by decide +kernel) rfl, ⟨by decide +kernel, by decide +kernel, by decide +kernel⟩, by decide⟩
theorem cv_X7_311 : tm_cv RX7 311 yX7_fault cX7_fault 2 (some .int) 1 := ⟨tm_mem 723 (by decide +kernel) rfl, tm_mem 398 (by decide +kernel) rfl, tm_mem 399 (by decide +kernel) rfl, tm_mem 56 (by decide +kernel) rfl, tm_mem 400 (by decide +kernel) rfl, ⟨by decide +kernel, by decide +kernel, by decide +kernel⟩, by decide⟩
theorem cv_X7_314 : tm_cv RX7 314 yX7_sea cX7_sea 2 (some .int) 1 := ⟨tm_mem 724 (by decide +kernel) rfl, tm_mem 414 (by decide +kernel) rfl, tm_mem 415 (by decide +kernel) rfl, tm_mem 56 (by decide +kernel) rfl, tm_mem 416 (by decide +kernel) rfl, ⟨by decide +kernel, by decide +kernel, by decide +kernel⟩, by decide⟩
theorem cv_X7_316 : tm_cv RX7 316 yX7_at cX7_at 3 (some .int) 2 := ⟨tm_mem 725 (by decide +kernel) rfl, tm_mem 513 (by decide +kernel) rfl, tm_mem 514 (by decide +kernel) rfl, tm_mem 56 (by decide +kernel) rfl, tm_mem 515 (by decide +kernel) rfl, ⟨by decide +kernel, by decide +kernel, by decide +kernel⟩, by decide⟩
theorem cv_X7_319 : tm_cv RX7 319 yX7_order cX7_order 3 (some .int) 2 := ⟨tm_mem 726 (by decide +kernel) rfl, tm_mem 470 (by decide +kernel) rfl, tm_mem 471 (by decide +kernel) rfl, tm_mem 56 (by decide +kernel) rfl, tm_mem 472 (by decide +kernel) rfl, ⟨by decide +kernel, by decide +kernel, by decide +kernel⟩, by decide⟩
theorem cv_X7_321 : tm_cv RX7 321 yX7_ends cX7_ends 2 (some .int) 1 := ⟨tm_mem 727 (by decide +kernel) rfl, tm_mem 517 (by decide +kernel) rfl, tm_mem 518 (by decide +kernel) rfl, tm_mem 56 (by decide +kernel) rfl, tm_mem 519 (by decide +kernel) rfl, ⟨by decide +kernel, by decide +kernel, by decide +kernel⟩, by decide⟩
theorem cv_X7_323 : tm_cv RX7 323 yX7_shower cX7_shower 9 (some .long) 3 := ⟨tm_mem 728 (by decide +kernel) rfl, tm_mem 637 (by decide +kernel) rfl, tm_mem 638 (by decide +kernel) rfl, tm_mem 56 (by decide +kernel) rfl, tm_mem 639 (by decide +kernel) rfl, ⟨by decide +kernel, by decide +kernel, by decide +kernel⟩, by decide⟩
theorem cv_X7_327 : tm_cv RX7 327 yX7_paid cX7_paid 1 (some .int) 0 := ⟨tm_mem 729 (by decide +kernel) rfl, tm_mem 521 (by decide +kernel) rfl, tm_mem 522 (by decide +kernel) rfl, tm_mem 56 (by decide +kernel) rfl, tm_mem 523 (by decide +kernel) rfl, ⟨by decide +kernel, by decide +kernel, by decide +kernel⟩, by decide⟩
theorem cv_X7_330 : tm_cv RX7 330 yX7_spilt cX7_spilt 1 (some .int) 0 := ⟨tm_mem 730 (by decide +kernel) rfl, tm_mem 533 (by decide +kernel) rfl, tm_mem 534 (by decide +kernel) rfl, tm_mem 56 (by decide +kernel) rfl, tm_mem 535 (by decide +kernel) rfl, ⟨by decide +kernel, by decide +kernel, by decide +kernel⟩, by decide⟩
theorem cv_X7_332 : tm_cv RX7 332 yX7_idle cX7_idle 1 (some .int) 0 := ⟨tm_mem 731 (by decide +kernel) rfl, tm_mem 537 (by decide +kernel) rfl, tm_mem 538 (by decide +kernel) rfl, tm_mem 56 (by decide +kernel) rfl, tm_mem 539 (by decide +kernel) rfl, ⟨by decide +kernel, by decide +kernel, by decide +kernel⟩, by decide⟩
theorem cv_X7_334 : tm_cv RX7 334 yX7_late cX7_late 3 (some .int) 0 := ⟨tm_mem 732 (by decide +kernel) rfl, tm_mem 541 (by decide +kernel) rfl, tm_mem 542 (by decide +kernel) rfl, tm_mem 56 (by decide +kernel) rfl, tm_mem 543 (by decide +kernel) rfl, ⟨by decide +kernel, by decide +kernel, by decide +kernel⟩, by decide⟩
theorem cv_X7_337 : tm_cv RX7 337 yX7_row cX7_row 2 (some .int) 1 := ⟨tm_mem 733 (by decide +kernel) rfl, tm_mem 546 (by decide +kernel) rfl, tm_mem 547 (by decide +kernel) rfl, tm_mem 56 (by decide +kernel) rfl, tm_mem 548 (by decide +kernel) rfl, ⟨by decide +kernel, by decide +kernel, by decide +kernel⟩, by decide⟩
theorem cv_X7_340 : tm_cv RX7 340 yX7_dress cX7_dress 5 (some .int) 1 := ⟨tm_mem 734 (by decide +kernel) rfl, tm_mem 576 (by decide +kernel) rfl, tm_mem 577 (by decide +kernel) rfl, tm_mem 56 (by decide +kernel) rfl, tm_mem 578 (by decide +kernel) rfl, ⟨by decide +kernel, by decide +kernel, by decide +kernel⟩, by decide⟩
theorem cv_X7_343 : tm_cv RX7 343 yX7_least cX7_least 2 (some .int) 0 := ⟨tm_mem 735 (by decide +kernel) rfl, tm_mem 588 (by decide +kernel) rfl, tm_mem 589 (by decide +kernel) rfl, tm_mem 56 (by decide +kernel) rfl, tm_mem 590 (by decide +kernel) rfl, ⟨by decide +kernel, by decide +kernel, by decide +kernel⟩, by decide⟩
theorem cv_X7_346 : tm_cv RX7 346 yX7_send cX7_send 6 (some .int) 1 := ⟨tm_mem 736 (by decide +kernel) rfl, tm_mem 596 (by decide +kernel) rfl, tm_mem 597 (by decide +kernel) rfl, tm_mem 56 (by decide +kernel) rfl, tm_mem 598 (by decide +kernel) rfl, ⟨by decide +kernel, by decide +kernel, by decide +kernel⟩, by decide⟩
theorem cv_X7_349 : tm_cv RX7 349 yX7_never cX7_never 3 (some .int) 0 := ⟨tm_mem 737 (by decide +kernel) rfl, tm_mem 612 (by decide +kernel) rfl, tm_mem 613 (by decide +kernel) rfl, tm_mem 56 (by decide +kernel) rfl, tm_mem 614 (by decide +kernel) rfl, ⟨by decide +kernel, by decide +kernel, by decide +kernel⟩, by decide⟩
theorem cv_X7_352 : tm_cv RX7 352 yX7_was cX7_was 5 (some .int) 1 := ⟨tm_mem 738 (by decide +kernel) rfl, tm_mem 620 (by decide +kernel) rfl, tm_mem 621 (by decide +kernel) rfl, tm_mem 56 (by decide +kernel) rfl, tm_mem 622 (by decide +kernel) rfl, ⟨by decide +kernel, by decide +kernel, by decide +kernel⟩, by decide⟩
theorem cv_X7_355 : tm_cv RX7 355 yX7_ask cX7_ask 5 (some .int) 0 := ⟨tm_mem 739 (by decide +kernel) rfl, tm_mem 624 (by decide +kernel) rfl, tm_mem 625 (by decide +kernel) rfl, tm_mem 56 (by decide +kernel) rfl, tm_mem 626 (by decide +kernel) rfl, ⟨by decide +kernel, by decide +kernel, by decide +kernel⟩, by decide⟩
theorem cv_X7_358 : tm_cv RX7 358 yX7_moon cX7_moon 6 (some .int) 3 := ⟨tm_mem 740 (by decide +kernel) rfl, tm_mem 659 (by decide +kernel) rfl, tm_mem 660 (by decide +kernel) rfl, tm_mem 56 (by decide +kernel) rfl, tm_mem 661 (by decide +kernel) rfl, ⟨by decide +kernel, by decide +kernel, by decide +kernel⟩, by decide⟩
theorem fl_X7_362 : tm_fl RX7 362 7 16 := ⟨_, _, _, _, cls_7, by decide, tm_mem 318 (by decide +kernel) rfl⟩
theorem fp_X7_362 : tm_fp RX7 362 7 16 .boolean := ⟨_, _, _, _, cls_7, by decide, tm_mem 318 (by decide +kernel) rfl, rfl, by decide +kernel⟩
theorem cv_X7_365 : tm_cv RX7 365 yX1_readFrom cX1_readFrom 4 none 1 := ⟨tm_mem 424 (by decide +kernel) rfl, tm_mem 425 (by decide +kernel) rfl, tm_mem 426 (by decide +kernel) rfl, tm_mem 60 (by decide +kernel) rfl, tm_mem 427 (by decide +kernel) rfl, ⟨by decide +kernel, by decide +kernel, by decide +kernel⟩, by decide⟩
theorem cv_X7_369 : tm_cv RX7 369 yX0_tell cX0_tell 5 none 2 := ⟨tm_mem 429 (by decide +kernel) rfl, tm_mem 430 (by decide +kernel) rfl, tm_mem 431 (by decide +kernel) rfl, tm_mem 61 (by decide +kernel) rfl, tm_mem 432 (by decide +kernel) rfl, ⟨by decide +kernel, by decide +kernel, by decide +kernel⟩, by decide⟩
theorem cs_X7_373 : tm_cs RX7 373 yX7_countHours cX7_countHours 3 none 2 := ⟨tm_mem 437 (by decide +kernel) rfl, tm_mem 438 (by decide +kernel) rfl, tm_mem 56 (by decide +kernel) rfl, tm_mem 439 (by decide +kernel) rfl, ⟨by decide +kernel, by decide +kernel, by decide +kernel⟩, by decide⟩
theorem cs_X7_376 : tm_cs RX7 376 yJ7_fill_53178 cJ7_fill_53178 4 none 2 := ⟨tm_mem 440 (by decide +kernel) rfl, tm_mem 441 (by decide +kernel) rfl, tm_mem 67 (by decide +kernel) rfl, tm_mem 442 (by decide +kernel) rfl, ⟨by decide +kernel, by decide +kernel, by decide +kernel⟩, by decide⟩
theorem cs_X7_382 : tm_cs RX7 382 yJ9_max_7cf53 cJ9_max_7cf53 2 (some .int) 2 := ⟨tm_mem 635 (by decide +kernel) rfl, tm_mem 85 (by decide +kernel) rfl, tm_mem 58 (by decide +kernel) rfl, tm_mem 86 (by decide +kernel) rfl, ⟨by decide +kernel, by decide +kernel, by decide +kernel⟩, by decide⟩
theorem cs_X7_385 : tm_cs RX7 385 yJ7_fill_d0a16 cJ7_fill_d0a16 5 none 2 := ⟨tm_mem 645 (by decide +kernel) rfl, tm_mem 646 (by decide +kernel) rfl, tm_mem 67 (by decide +kernel) rfl, tm_mem 647 (by decide +kernel) rfl, ⟨by decide +kernel, by decide +kernel, by decide +kernel⟩, by decide⟩
theorem cs_X7_388 : tm_cs RX7 388 yJ6_bitCount_0f7a4 cJ6_bitCount_0f7a4 1 (some .int) 1 := ⟨tm_mem 648 (by decide +kernel) rfl, tm_mem 649 (by decide +kernel) rfl, tm_mem 68 (by decide +kernel) rfl, tm_mem 650 (by decide +kernel) rfl, ⟨by decide +kernel, by decide +kernel, by decide +kernel⟩, by decide⟩
theorem cs_X7_393 : tm_cs RX7 393 yX7_isFigure cX7_isFigure 3 (some .boolean) 3 := ⟨tm_mem 404 (by decide +kernel) rfl, tm_mem 405 (by decide +kernel) rfl, tm_mem 56 (by decide +kernel) rfl, tm_mem 406 (by decide +kernel) rfl, ⟨by decide +kernel, by decide +kernel, by decide +kernel⟩, by decide⟩
theorem cs_X7_397 : tm_cs RX7 397 yX7_fitsOrder cX7_fitsOrder 2 (some .boolean) 2 := ⟨tm_mem 410 (by decide +kernel) rfl, tm_mem 411 (by decide +kernel) rfl, tm_mem 56 (by decide +kernel) rfl, tm_mem 412 (by decide +kernel) rfl, ⟨by decide +kernel, by decide +kernel, by decide +kernel⟩, by decide⟩
theorem fl_X0_9 : tm_fl RX0 9 0 1 := ⟨_, _, _, _, cls_0, by decide, tm_mem 177 (by decide +kernel) rfl⟩
theorem fl_X0_15 : tm_fl RX0 15 0 2 := ⟨_, _, _, _, cls_0, by decide, tm_mem 180 (by decide +kernel) rfl⟩
theorem fl_X0_18 : tm_fl RX0 18 0 3 := ⟨_, _, _, _, cls_0, by decide, tm_mem 183 (by decide +kernel) rfl⟩
theorem fl_X0_21 : tm_fl RX0 21 0 4 := ⟨_, _, _, _, cls_0, by decide, tm_mem 186 (by decide +kernel) rfl⟩
theorem fl_X0_24 : tm_fl RX0 24 0 5 := ⟨_, _, _, _, cls_0, by decide, tm_mem 190 (by decide +kernel) rfl⟩
theorem fl_X0_27 : tm_fl RX0 27 0 0 := ⟨_, _, _, _, cls_0, by decide, tm_mem 174 (by decide +kernel) rfl⟩
theorem cn_X0_31 : tm_cn RX0 31 yX7_tideFault cX7_tideFault 2 (some .int) 1 := ⟨by decide +kernel, tm_mem 402 (by decide +kernel) rfl, tm_mem 56 (by decide +kernel) rfl, tm_mem 403 (by decide +kernel) rfl, ⟨by decide +kernel, by decide +kernel, by decide +kernel⟩, by decide⟩
theorem fl_X0_35 : tm_fl RX0 35 2 1 := ⟨_, _, _, _, cls_2, by decide, tm_mem 92 (by decide +kernel) rfl⟩
theorem fl_X0_41 : tm_fl RX0 41 2 0 := ⟨_, _, _, _, cls_2, by decide, tm_mem 89 (by decide +kernel) rfl⟩
theorem ac_X0_44 : tm_acp RX0 44 := ⟨tm_mem 434 (by decide +kernel) rfl, tm_mem 436 (by decide +kernel) rfl, tm_mem 435 (by decide +kernel) rfl, tm_mem 66 (by decide +kernel) rfl⟩
theorem fl_X0_50 : tm_fl RX0 50 1 4 := ⟨_, _, _, _, cls_1, by decide, tm_mem 144 (by decide +kernel) rfl⟩
theorem fl_X0_53 : tm_fl RX0 53 0 6 := ⟨_, _, _, _, cls_0, by decide, tm_mem 193 (by decide +kernel) rfl⟩
theorem fp_X0_53 : tm_fp RX0 53 0 6 .int := ⟨_, _, _, _, cls_0, by decide, tm_mem 193 (by decide +kernel) rfl, rfl, by decide +kernel⟩
theorem fl_X1_9 : tm_fl RX1 9 1 0 := ⟨_, _, _, _, cls_1, by decide, tm_mem 127 (by decide +kernel) rfl⟩
theorem fl_X1_15 : tm_fl RX1 15 1 1 := ⟨_, _, _, _, cls_1, by decide, tm_mem 131 (by decide +kernel) rfl⟩
theorem fl_X1_18 : tm_fl RX1 18 1 2 := ⟨_, _, _, _, cls_1, by decide, tm_mem 135 (by decide +kernel) rfl⟩
theorem fl_X1_21 : tm_fl RX1 21 1 3 := ⟨_, _, _, _, cls_1, by decide, tm_mem 139 (by decide +kernel) rfl⟩
theorem fl_X1_24 : tm_fl RX1 24 1 4 := ⟨_, _, _, _, cls_1, by decide, tm_mem 143 (by decide +kernel) rfl⟩
theorem fp_X1_24 : tm_fp RX1 24 1 4 .int := ⟨_, _, _, _, cls_1, by decide, tm_mem 143 (by decide +kernel) rfl, rfl, by decide +kernel⟩
theorem cn_X1_28 : tm_cn RX1 28 yX7_orderFault cX7_orderFault 2 (some .int) 1 := ⟨by decide +kernel, tm_mem 408 (by decide +kernel) rfl, tm_mem 56 (by decide +kernel) rfl, tm_mem 409 (by decide +kernel) rfl, ⟨by decide +kernel, by decide +kernel, by decide +kernel⟩, by decide⟩
theorem fl_X1_32 : tm_fl RX1 32 2 1 := ⟨_, _, _, _, cls_2, by decide, tm_mem 93 (by decide +kernel) rfl⟩
theorem fl_X1_35 : tm_fl RX1 35 2 0 := ⟨_, _, _, _, cls_2, by decide, tm_mem 88 (by decide +kernel) rfl⟩
theorem cs_X2_7 : tm_cs RX2 7 yJ9_max_7cf53 cJ9_max_7cf53 2 (some .int) 2 := ⟨tm_mem 84 (by decide +kernel) rfl, tm_mem 85 (by decide +kernel) rfl, tm_mem 58 (by decide +kernel) rfl, tm_mem 86 (by decide +kernel) rfl, ⟨by decide +kernel, by decide +kernel, by decide +kernel⟩, by decide⟩
theorem fl_X2_13 : tm_fl RX2 13 2 0 := ⟨_, _, _, _, cls_2, by decide, tm_mem 87 (by decide +kernel) rfl⟩
theorem fl_X2_19 : tm_fl RX2 19 2 1 := ⟨_, _, _, _, cls_2, by decide, tm_mem 91 (by decide +kernel) rfl⟩
theorem fp_X2_19 : tm_fp RX2 19 2 1 .int := ⟨_, _, _, _, cls_2, by decide, tm_mem 91 (by decide +kernel) rfl, rfl, by decide +kernel⟩
theorem cv_X2_23 : tm_cv RX2 23 yX2_isFull cX2_isFull 1 (some .boolean) 0 := ⟨tm_mem 380 (by decide +kernel) rfl, tm_mem 373 (by decide +kernel) rfl, tm_mem 374 (by decide +kernel) rfl, tm_mem 57 (by decide +kernel) rfl, tm_mem 375 (by decide +kernel) rfl, ⟨by decide +kernel, by decide +kernel, by decide +kernel⟩, by decide⟩
theorem fl_X3_11 : tm_fl RX3 11 3 0 := ⟨_, _, _, _, cls_3, by decide, tm_mem 281 (by decide +kernel) rfl⟩
theorem fl_X3_17 : tm_fl RX3 17 3 1 := ⟨_, _, _, _, cls_3, by decide, tm_mem 282 (by decide +kernel) rfl⟩
theorem fl_X3_21 : tm_fl RX3 21 3 2 := ⟨_, _, _, _, cls_3, by decide, tm_mem 283 (by decide +kernel) rfl⟩
theorem fl_X3_24 : tm_fl RX3 24 3 3 := ⟨_, _, _, _, cls_3, by decide, tm_mem 285 (by decide +kernel) rfl⟩
theorem fl_X3_27 : tm_fl RX3 27 3 4 := ⟨_, _, _, _, cls_3, by decide, tm_mem 286 (by decide +kernel) rfl⟩
theorem fl_X3_31 : tm_fl RX3 31 3 5 := ⟨_, _, _, _, cls_3, by decide, tm_mem 287 (by decide +kernel) rfl⟩
theorem fp_X3_31 : tm_fp RX3 31 3 5 .int := ⟨_, _, _, _, cls_3, by decide, tm_mem 287 (by decide +kernel) rfl, rfl, by decide +kernel⟩
theorem cs_X3_35 : tm_cs RX3 35 yJ7_fill_53178 cJ7_fill_53178 4 none 2 := ⟨tm_mem 553 (by decide +kernel) rfl, tm_mem 441 (by decide +kernel) rfl, tm_mem 67 (by decide +kernel) rfl, tm_mem 442 (by decide +kernel) rfl, ⟨by decide +kernel, by decide +kernel, by decide +kernel⟩, by decide⟩
theorem cv_X3_41 : tm_cv RX3 41 yX4_begin cX4_begin 2 none 1 := ⟨tm_mem 554 (by decide +kernel) rfl, tm_mem 449 (by decide +kernel) rfl, tm_mem 450 (by decide +kernel) rfl, tm_mem 63 (by decide +kernel) rfl, tm_mem 451 (by decide +kernel) rfl, ⟨by decide +kernel, by decide +kernel, by decide +kernel⟩, by decide⟩
theorem cs_X3_45 : tm_cs RX3 45 yX3_extend cX3_extend 8 none 5 := ⟨tm_mem 555 (by decide +kernel) rfl, tm_mem 556 (by decide +kernel) rfl, tm_mem 64 (by decide +kernel) rfl, tm_mem 557 (by decide +kernel) rfl, ⟨by decide +kernel, by decide +kernel, by decide +kernel⟩, by decide⟩
theorem fl_X3_49 : tm_fl RX3 49 0 0 := ⟨_, _, _, _, cls_0, by decide, tm_mem 176 (by decide +kernel) rfl⟩
theorem fl_X3_55 : tm_fl RX3 55 4 0 := ⟨_, _, _, _, cls_4, by decide, tm_mem 222 (by decide +kernel) rfl⟩
theorem cs_X3_58 : tm_cs RX3 58 yX3_hope cX3_hope 5 (some .int) 3 := ⟨tm_mem 558 (by decide +kernel) rfl, tm_mem 559 (by decide +kernel) rfl, tm_mem 64 (by decide +kernel) rfl, tm_mem 560 (by decide +kernel) rfl, ⟨by decide +kernel, by decide +kernel, by decide +kernel⟩, by decide⟩
theorem fl_X3_62 : tm_fl RX3 62 1 4 := ⟨_, _, _, _, cls_1, by decide, tm_mem 145 (by decide +kernel) rfl⟩
theorem ac_X3_67 : tm_acp RX3 67 := ⟨tm_mem 561 (by decide +kernel) rfl, tm_mem 436 (by decide +kernel) rfl, tm_mem 435 (by decide +kernel) rfl, tm_mem 66 (by decide +kernel) rfl⟩
theorem cv_X3_73 : tm_cv RX3 73 yX3_reachedBefore cX3_reachedBefore 6 (some .boolean) 3 := ⟨tm_mem 562 (by decide +kernel) rfl, tm_mem 564 (by decide +kernel) rfl, tm_mem 6 (by decide +kernel) rfl, tm_mem 64 (by decide +kernel) rfl, tm_mem 565 (by decide +kernel) rfl, ⟨by decide +kernel, by decide +kernel, by decide +kernel⟩, by decide⟩
theorem cv_X3_77 : tm_cv RX3 77 yX3_grind cX3_grind 7 (some .boolean) 3 := ⟨tm_mem 566 (by decide +kernel) rfl, tm_mem 568 (by decide +kernel) rfl, tm_mem 7 (by decide +kernel) rfl, tm_mem 64 (by decide +kernel) rfl, tm_mem 569 (by decide +kernel) rfl, ⟨by decide +kernel, by decide +kernel, by decide +kernel⟩, by decide⟩
theorem fl_X3_81 : tm_fl RX3 81 1 3 := ⟨_, _, _, _, cls_1, by decide, tm_mem 140 (by decide +kernel) rfl⟩
theorem fl_X3_84 : tm_fl RX3 84 4 1 := ⟨_, _, _, _, cls_4, by decide, tm_mem 225 (by decide +kernel) rfl⟩
theorem fl_X3_87 : tm_fl RX3 87 4 2 := ⟨_, _, _, _, cls_4, by decide, tm_mem 227 (by decide +kernel) rfl⟩
theorem fl_X3_90 : tm_fl RX3 90 1 1 := ⟨_, _, _, _, cls_1, by decide, tm_mem 133 (by decide +kernel) rfl⟩
theorem fl_X3_93 : tm_fl RX3 93 1 2 := ⟨_, _, _, _, cls_1, by decide, tm_mem 137 (by decide +kernel) rfl⟩
theorem cv_X3_96 : tm_cv RX3 96 yX4_becomeLike cX4_becomeLike 2 none 1 := ⟨tm_mem 570 (by decide +kernel) rfl, tm_mem 571 (by decide +kernel) rfl, tm_mem 572 (by decide +kernel) rfl, tm_mem 63 (by decide +kernel) rfl, tm_mem 573 (by decide +kernel) rfl, ⟨by decide +kernel, by decide +kernel, by decide +kernel⟩, by decide⟩
theorem fl_X3_100 : tm_fl RX3 100 1 0 := ⟨_, _, _, _, cls_1, by decide, tm_mem 129 (by decide +kernel) rfl⟩
theorem cv_X3_103 : tm_cv RX3 103 yX4_pass cX4_pass 5 (some .boolean) 2 := ⟨tm_mem 574 (by decide +kernel) rfl, tm_mem 453 (by decide +kernel) rfl, tm_mem 454 (by decide +kernel) rfl, tm_mem 63 (by decide +kernel) rfl, tm_mem 455 (by decide +kernel) rfl, ⟨by decide +kernel, by decide +kernel, by decide +kernel⟩, by decide⟩
theorem fl_X4_9 : tm_fl RX4 9 4 0 := ⟨_, _, _, _, cls_4, by decide, tm_mem 221 (by decide +kernel) rfl⟩
theorem fp_X4_9 : tm_fp RX4 9 4 0 .int := ⟨_, _, _, _, cls_4, by decide, tm_mem 221 (by decide +kernel) rfl, rfl, by decide +kernel⟩
theorem fl_X4_15 : tm_fl RX4 15 0 1 := ⟨_, _, _, _, cls_0, by decide, tm_mem 178 (by decide +kernel) rfl⟩
theorem fl_X4_21 : tm_fl RX4 21 4 1 := ⟨_, _, _, _, cls_4, by decide, tm_mem 223 (by decide +kernel) rfl⟩
theorem fp_X4_21 : tm_fp RX4 21 4 1 .int := ⟨_, _, _, _, cls_4, by decide, tm_mem 223 (by decide +kernel) rfl, rfl, by decide +kernel⟩
theorem fl_X4_24 : tm_fl RX4 24 4 2 := ⟨_, _, _, _, cls_4, by decide, tm_mem 226 (by decide +kernel) rfl⟩
theorem fp_X4_24 : tm_fp RX4 24 4 2 .int := ⟨_, _, _, _, cls_4, by decide, tm_mem 226 (by decide +kernel) rfl, rfl, by decide +kernel⟩
theorem fl_X4_27 : tm_fl RX4 27 4 3 := ⟨_, _, _, _, cls_4, by decide, tm_mem 228 (by decide +kernel) rfl⟩
theorem fp_X4_27 : tm_fp RX4 27 4 3 .int := ⟨_, _, _, _, cls_4, by decide, tm_mem 228 (by decide +kernel) rfl, rfl, by decide +kernel⟩
theorem fl_X4_30 : tm_fl RX4 30 0 2 := ⟨_, _, _, _, cls_0, by decide, tm_mem 181 (by decide +kernel) rfl⟩
theorem cs_X4_33 : tm_cs RX4 33 yJ9_max_7cf53 cJ9_max_7cf53 2 (some .int) 2 := ⟨tm_mem 456 (by decide +kernel) rfl, tm_mem 85 (by decide +kernel) rfl, tm_mem 58 (by decide +kernel) rfl, tm_mem 86 (by decide +kernel) rfl, ⟨by decide +kernel, by decide +kernel, by decide +kernel⟩, by decide⟩
theorem cs_X4_39 : tm_cs RX4 39 yJ9_min_7cf53 cJ9_min_7cf53 2 (some .int) 2 := ⟨tm_mem 457 (by decide +kernel) rfl, tm_mem 458 (by decide +kernel) rfl, tm_mem 58 (by decide +kernel) rfl, tm_mem 459 (by decide +kernel) rfl, ⟨by decide +kernel, by decide +kernel, by decide +kernel⟩, by decide⟩
theorem fl_X4_42 : tm_fl RX4 42 0 3 := ⟨_, _, _, _, cls_0, by decide, tm_mem 184 (by decide +kernel) rfl⟩
theorem fl_X4_45 : tm_fl RX4 45 0 4 := ⟨_, _, _, _, cls_0, by decide, tm_mem 188 (by decide +kernel) rfl⟩
theorem gs_X4_48 : Cond.fieldLinkNest RX4 48 RX7 (tm_sn 3) "[I" RX7 ∈ tm_nst := by decide +kernel
theorem cv_X4_51 : tm_cv RX4 51 yX4_dullness cX4_dullness 3 (some .int) 1 := ⟨tm_mem 462 (by decide +kernel) rfl, tm_mem 463 (by decide +kernel) rfl, tm_mem 464 (by decide +kernel) rfl, tm_mem 63 (by decide +kernel) rfl, tm_mem 465 (by decide +kernel) rfl, ⟨by decide +kernel, by decide +kernel, by decide +kernel⟩, by decide⟩
theorem gs_X4_55 : Cond.fieldLinkNest RX4 55 RX7 (tm_sn 4) "[I" RX7 ∈ tm_nst := by decide +kernel
theorem fl_X5_12 : tm_fl RX5 12 5 0 := ⟨_, _, _, _, cls_5, by decide, tm_mem 239 (by decide +kernel) rfl⟩
theorem fl_X5_18 : tm_fl RX5 18 5 1 := ⟨_, _, _, _, cls_5, by decide, tm_mem 241 (by decide +kernel) rfl⟩
theorem fl_X5_22 : tm_fl RX5 22 5 2 := ⟨_, _, _, _, cls_5, by decide, tm_mem 243 (by decide +kernel) rfl⟩
theorem fl_X5_25 : tm_fl RX5 25 5 3 := ⟨_, _, _, _, cls_5, by decide, tm_mem 245 (by decide +kernel) rfl⟩
theorem fl_X5_28 : tm_fl RX5 28 5 4 := ⟨_, _, _, _, cls_5, by decide, tm_mem 247 (by decide +kernel) rfl⟩
theorem fl_X5_31 : tm_fl RX5 31 5 5 := ⟨_, _, _, _, cls_5, by decide, tm_mem 249 (by decide +kernel) rfl⟩
theorem fl_X5_34 : tm_fl RX5 34 5 6 := ⟨_, _, _, _, cls_5, by decide, tm_mem 251 (by decide +kernel) rfl⟩
theorem cs_X5_37 : tm_cs RX5 37 yJ7_fill_53178 cJ7_fill_53178 4 none 2 := ⟨tm_mem 447 (by decide +kernel) rfl, tm_mem 441 (by decide +kernel) rfl, tm_mem 67 (by decide +kernel) rfl, tm_mem 442 (by decide +kernel) rfl, ⟨by decide +kernel, by decide +kernel, by decide +kernel⟩, by decide⟩
theorem fl_X5_43 : tm_fl RX5 43 5 7 := ⟨_, _, _, _, cls_5, by decide, tm_mem 253 (by decide +kernel) rfl⟩
theorem fp_X5_43 : tm_fp RX5 43 5 7 .int := ⟨_, _, _, _, cls_5, by decide, tm_mem 253 (by decide +kernel) rfl, rfl, by decide +kernel⟩
theorem cv_X5_47 : tm_cv RX5 47 yX4_begin cX4_begin 2 none 1 := ⟨tm_mem 448 (by decide +kernel) rfl, tm_mem 449 (by decide +kernel) rfl, tm_mem 450 (by decide +kernel) rfl, tm_mem 63 (by decide +kernel) rfl, tm_mem 451 (by decide +kernel) rfl, ⟨by decide +kernel, by decide +kernel, by decide +kernel⟩, by decide⟩
theorem fl_X5_51 : tm_fl RX5 51 0 6 := ⟨_, _, _, _, cls_0, by decide, tm_mem 192 (by decide +kernel) rfl⟩
theorem fl_X5_56 : tm_fl RX5 56 0 5 := ⟨_, _, _, _, cls_0, by decide, tm_mem 191 (by decide +kernel) rfl⟩
theorem fl_X5_59 : tm_fl RX5 59 0 0 := ⟨_, _, _, _, cls_0, by decide, tm_mem 175 (by decide +kernel) rfl⟩
theorem fl_X5_63 : tm_fl RX5 63 1 0 := ⟨_, _, _, _, cls_1, by decide, tm_mem 128 (by decide +kernel) rfl⟩
theorem cv_X5_68 : tm_cv RX5 68 yX4_pass cX4_pass 5 (some .boolean) 2 := ⟨tm_mem 452 (by decide +kernel) rfl, tm_mem 453 (by decide +kernel) rfl, tm_mem 454 (by decide +kernel) rfl, tm_mem 63 (by decide +kernel) rfl, tm_mem 455 (by decide +kernel) rfl, ⟨by decide +kernel, by decide +kernel, by decide +kernel⟩, by decide⟩
theorem fl_X5_72 : tm_fl RX5 72 1 1 := ⟨_, _, _, _, cls_1, by decide, tm_mem 132 (by decide +kernel) rfl⟩
theorem fl_X5_73 : tm_fl RX5 73 0 4 := ⟨_, _, _, _, cls_0, by decide, tm_mem 187 (by decide +kernel) rfl⟩
theorem fl_X5_76 : tm_fl RX5 76 4 1 := ⟨_, _, _, _, cls_4, by decide, tm_mem 224 (by decide +kernel) rfl⟩
theorem cv_X5_78 : tm_cv RX5 78 yX4_dullness cX4_dullness 3 (some .int) 1 := ⟨tm_mem 468 (by decide +kernel) rfl, tm_mem 463 (by decide +kernel) rfl, tm_mem 464 (by decide +kernel) rfl, tm_mem 63 (by decide +kernel) rfl, tm_mem 465 (by decide +kernel) rfl, ⟨by decide +kernel, by decide +kernel, by decide +kernel⟩, by decide⟩
theorem fl_X5_82 : tm_fl RX5 82 1 2 := ⟨_, _, _, _, cls_1, by decide, tm_mem 136 (by decide +kernel) rfl⟩
theorem fl_X5_85 : tm_fl RX5 85 1 4 := ⟨_, _, _, _, cls_1, by decide, tm_mem 146 (by decide +kernel) rfl⟩
theorem cv_X5_88 : tm_cv RX5 88 yX5_pays cX5_pays 3 (some .boolean) 2 := ⟨tm_mem 528 (by decide +kernel) rfl, tm_mem 529 (by decide +kernel) rfl, tm_mem 530 (by decide +kernel) rfl, tm_mem 62 (by decide +kernel) rfl, tm_mem 531 (by decide +kernel) rfl, ⟨by decide +kernel, by decide +kernel, by decide +kernel⟩, by decide⟩
theorem fl_X5_92 : tm_fl RX5 92 1 3 := ⟨_, _, _, _, cls_1, by decide, tm_mem 141 (by decide +kernel) rfl⟩
theorem fl_X6_9 : tm_fl RX6 9 6 0 := ⟨_, _, _, _, cls_6, by decide, tm_mem 108 (by decide +kernel) rfl⟩
theorem fl_X6_15 : tm_fl RX6 15 6 1 := ⟨_, _, _, _, cls_6, by decide, tm_mem 110 (by decide +kernel) rfl⟩
theorem fp_X6_15 : tm_fp RX6 15 6 1 .int := ⟨_, _, _, _, cls_6, by decide, tm_mem 110 (by decide +kernel) rfl, rfl, by decide +kernel⟩
theorem fl_X6_19 : tm_fl RX6 19 6 2 := ⟨_, _, _, _, cls_6, by decide, tm_mem 112 (by decide +kernel) rfl⟩
theorem fp_X6_19 : tm_fp RX6 19 6 2 .int := ⟨_, _, _, _, cls_6, by decide, tm_mem 112 (by decide +kernel) rfl, rfl, by decide +kernel⟩
theorem cs_X6_22 : tm_cs RX6 22 yJ7_fill_53178 cJ7_fill_53178 4 none 2 := ⟨tm_mem 674 (by decide +kernel) rfl, tm_mem 441 (by decide +kernel) rfl, tm_mem 67 (by decide +kernel) rfl, tm_mem 442 (by decide +kernel) rfl, ⟨by decide +kernel, by decide +kernel, by decide +kernel⟩, by decide⟩
theorem cv_X6_28 : tm_cv RX6 28 yX6_isLost cX6_isLost 1 (some .boolean) 0 := ⟨tm_mem 687 (by decide +kernel) rfl, tm_mem 505 (by decide +kernel) rfl, tm_mem 506 (by decide +kernel) rfl, tm_mem 59 (by decide +kernel) rfl, tm_mem 507 (by decide +kernel) rfl, ⟨by decide +kernel, by decide +kernel, by decide +kernel⟩, by decide⟩
theorem cv_X6_32 : tm_cv RX6 32 yX6_holds cX6_holds 3 (some .boolean) 2 := ⟨tm_mem 688 (by decide +kernel) rfl, tm_mem 689 (by decide +kernel) rfl, tm_mem 690 (by decide +kernel) rfl, tm_mem 59 (by decide +kernel) rfl, tm_mem 691 (by decide +kernel) rfl, ⟨by decide +kernel, by decide +kernel, by decide +kernel⟩, by decide⟩
theorem cv_L_13 : tm_cv RL 13 yX7_type cX7_type 3 (some .int) 2 := ⟨tm_mem 361 (by decide +kernel) rfl, tm_mem 362 (by decide +kernel) rfl, tm_mem 363 (by decide +kernel) rfl, tm_mem 56 (by decide +kernel) rfl, tm_mem 364 (by decide +kernel) rfl, ⟨by decide +kernel, by decide +kernel, by decide +kernel⟩, by decide⟩
theorem cv_L_17 : tm_cv RL 17 yX8_type cX8_type 3 (some .int) 2 := ⟨tm_mem 884 (by decide +kernel) rfl, tm_mem 885 (by decide +kernel) rfl, tm_mem 886 (by decide +kernel) rfl, tm_mem 65 (by decide +kernel) rfl, tm_mem 887 (by decide +kernel) rfl, ⟨by decide +kernel, by decide +kernel, by decide +kernel⟩, by decide⟩
theorem cv_L_18 : tm_cv RL 18 yX7_wipe cX7_wipe 3 (some .int) 1 := ⟨tm_mem 385 (by decide +kernel) rfl, tm_mem 386 (by decide +kernel) rfl, tm_mem 387 (by decide +kernel) rfl, tm_mem 56 (by decide +kernel) rfl, tm_mem 388 (by decide +kernel) rfl, ⟨by decide +kernel, by decide +kernel, by decide +kernel⟩, by decide⟩
theorem cv_L_22 : tm_cv RL 22 yX8_wipe cX8_wipe 3 (some .int) 1 := ⟨tm_mem 894 (by decide +kernel) rfl, tm_mem 895 (by decide +kernel) rfl, tm_mem 896 (by decide +kernel) rfl, tm_mem 65 (by decide +kernel) rfl, tm_mem 897 (by decide +kernel) rfl, ⟨by decide +kernel, by decide +kernel, by decide +kernel⟩, by decide⟩
theorem cv_L_23 : tm_cv RL 23 yX7_undo cX7_undo 2 (some .int) 1 := ⟨tm_mem 389 (by decide +kernel) rfl, tm_mem 390 (by decide +kernel) rfl, tm_mem 391 (by decide +kernel) rfl, tm_mem 56 (by decide +kernel) rfl, tm_mem 392 (by decide +kernel) rfl, ⟨by decide +kernel, by decide +kernel, by decide +kernel⟩, by decide⟩
theorem cv_L_26 : tm_cv RL 26 yX8_undo cX8_undo 2 (some .int) 1 := ⟨tm_mem 898 (by decide +kernel) rfl, tm_mem 899 (by decide +kernel) rfl, tm_mem 900 (by decide +kernel) rfl, tm_mem 65 (by decide +kernel) rfl, tm_mem 901 (by decide +kernel) rfl, ⟨by decide +kernel, by decide +kernel, by decide +kernel⟩, by decide⟩
theorem cv_L_27 : tm_cv RL 27 yX7_fault cX7_fault 2 (some .int) 1 := ⟨tm_mem 397 (by decide +kernel) rfl, tm_mem 398 (by decide +kernel) rfl, tm_mem 399 (by decide +kernel) rfl, tm_mem 56 (by decide +kernel) rfl, tm_mem 400 (by decide +kernel) rfl, ⟨by decide +kernel, by decide +kernel, by decide +kernel⟩, by decide⟩
theorem cv_L_30 : tm_cv RL 30 yX8_fault cX8_fault 2 (some .int) 1 := ⟨tm_mem 902 (by decide +kernel) rfl, tm_mem 903 (by decide +kernel) rfl, tm_mem 904 (by decide +kernel) rfl, tm_mem 65 (by decide +kernel) rfl, tm_mem 905 (by decide +kernel) rfl, ⟨by decide +kernel, by decide +kernel, by decide +kernel⟩, by decide⟩
theorem cv_L_31 : tm_cv RL 31 yX7_sea cX7_sea 2 (some .int) 1 := ⟨tm_mem 413 (by decide +kernel) rfl, tm_mem 414 (by decide +kernel) rfl, tm_mem 415 (by decide +kernel) rfl, tm_mem 56 (by decide +kernel) rfl, tm_mem 416 (by decide +kernel) rfl, ⟨by decide +kernel, by decide +kernel, by decide +kernel⟩, by decide⟩
theorem cv_L_34 : tm_cv RL 34 yX8_sea cX8_sea 2 (some .int) 1 := ⟨tm_mem 930 (by decide +kernel) rfl, tm_mem 931 (by decide +kernel) rfl, tm_mem 932 (by decide +kernel) rfl, tm_mem 65 (by decide +kernel) rfl, tm_mem 933 (by decide +kernel) rfl, ⟨by decide +kernel, by decide +kernel, by decide +kernel⟩, by decide⟩
theorem cv_L_35 : tm_cv RL 35 yX7_order cX7_order 3 (some .int) 2 := ⟨tm_mem 469 (by decide +kernel) rfl, tm_mem 470 (by decide +kernel) rfl, tm_mem 471 (by decide +kernel) rfl, tm_mem 56 (by decide +kernel) rfl, tm_mem 472 (by decide +kernel) rfl, ⟨by decide +kernel, by decide +kernel, by decide +kernel⟩, by decide⟩
theorem cv_L_38 : tm_cv RL 38 yX8_order cX8_order 3 (some .int) 2 := ⟨tm_mem 945 (by decide +kernel) rfl, tm_mem 946 (by decide +kernel) rfl, tm_mem 947 (by decide +kernel) rfl, tm_mem 65 (by decide +kernel) rfl, tm_mem 948 (by decide +kernel) rfl, ⟨by decide +kernel, by decide +kernel, by decide +kernel⟩, by decide⟩
theorem cv_L_39 : tm_cv RL 39 yX7_set cX7_set 4 (some .int) 2 := ⟨tm_mem 477 (by decide +kernel) rfl, tm_mem 478 (by decide +kernel) rfl, tm_mem 479 (by decide +kernel) rfl, tm_mem 56 (by decide +kernel) rfl, tm_mem 480 (by decide +kernel) rfl, ⟨by decide +kernel, by decide +kernel, by decide +kernel⟩, by decide⟩
theorem cv_L_42 : tm_cv RL 42 yX8_set cX8_set 4 (some .int) 2 := ⟨tm_mem 957 (by decide +kernel) rfl, tm_mem 958 (by decide +kernel) rfl, tm_mem 959 (by decide +kernel) rfl, tm_mem 65 (by decide +kernel) rfl, tm_mem 960 (by decide +kernel) rfl, ⟨by decide +kernel, by decide +kernel, by decide +kernel⟩, by decide⟩
theorem cv_L_43 : tm_cv RL 43 yX7_rain cX7_rain 2 (some .int) 1 := ⟨tm_mem 485 (by decide +kernel) rfl, tm_mem 486 (by decide +kernel) rfl, tm_mem 487 (by decide +kernel) rfl, tm_mem 56 (by decide +kernel) rfl, tm_mem 488 (by decide +kernel) rfl, ⟨by decide +kernel, by decide +kernel, by decide +kernel⟩, by decide⟩
theorem cv_L_46 : tm_cv RL 46 yX8_rain cX8_rain 2 (some .int) 1 := ⟨tm_mem 961 (by decide +kernel) rfl, tm_mem 962 (by decide +kernel) rfl, tm_mem 963 (by decide +kernel) rfl, tm_mem 65 (by decide +kernel) rfl, tm_mem 964 (by decide +kernel) rfl, ⟨by decide +kernel, by decide +kernel, by decide +kernel⟩, by decide⟩
theorem cv_L_47 : tm_cv RL 47 yX7_dressing cX7_dressing 2 (some .int) 1 := ⟨tm_mem 489 (by decide +kernel) rfl, tm_mem 490 (by decide +kernel) rfl, tm_mem 491 (by decide +kernel) rfl, tm_mem 56 (by decide +kernel) rfl, tm_mem 492 (by decide +kernel) rfl, ⟨by decide +kernel, by decide +kernel, by decide +kernel⟩, by decide⟩
theorem cv_L_50 : tm_cv RL 50 yX8_dressing cX8_dressing 2 (some .int) 1 := ⟨tm_mem 965 (by decide +kernel) rfl, tm_mem 966 (by decide +kernel) rfl, tm_mem 967 (by decide +kernel) rfl, tm_mem 65 (by decide +kernel) rfl, tm_mem 968 (by decide +kernel) rfl, ⟨by decide +kernel, by decide +kernel, by decide +kernel⟩, by decide⟩
theorem cv_L_51 : tm_cv RL 51 yX7_back cX7_back 2 (some .int) 1 := ⟨tm_mem 493 (by decide +kernel) rfl, tm_mem 494 (by decide +kernel) rfl, tm_mem 495 (by decide +kernel) rfl, tm_mem 56 (by decide +kernel) rfl, tm_mem 496 (by decide +kernel) rfl, ⟨by decide +kernel, by decide +kernel, by decide +kernel⟩, by decide⟩
theorem cv_L_54 : tm_cv RL 54 yX8_back cX8_back 3 (some .int) 1 := ⟨tm_mem 969 (by decide +kernel) rfl, tm_mem 970 (by decide +kernel) rfl, tm_mem 971 (by decide +kernel) rfl, tm_mem 65 (by decide +kernel) rfl, tm_mem 972 (by decide +kernel) rfl, ⟨by decide +kernel, by decide +kernel, by decide +kernel⟩, by decide⟩
theorem cv_L_55 : tm_cv RL 55 yX7_read cX7_read 4 (some .int) 1 := ⟨tm_mem 497 (by decide +kernel) rfl, tm_mem 498 (by decide +kernel) rfl, tm_mem 499 (by decide +kernel) rfl, tm_mem 56 (by decide +kernel) rfl, tm_mem 500 (by decide +kernel) rfl, ⟨by decide +kernel, by decide +kernel, by decide +kernel⟩, by decide⟩
theorem cv_L_58 : tm_cv RL 58 yX8_read cX8_read 3 (some .int) 1 := ⟨tm_mem 973 (by decide +kernel) rfl, tm_mem 974 (by decide +kernel) rfl, tm_mem 975 (by decide +kernel) rfl, tm_mem 65 (by decide +kernel) rfl, tm_mem 976 (by decide +kernel) rfl, ⟨by decide +kernel, by decide +kernel, by decide +kernel⟩, by decide⟩
theorem cv_L_59 : tm_cv RL 59 yX7_at cX7_at 3 (some .int) 2 := ⟨tm_mem 512 (by decide +kernel) rfl, tm_mem 513 (by decide +kernel) rfl, tm_mem 514 (by decide +kernel) rfl, tm_mem 56 (by decide +kernel) rfl, tm_mem 515 (by decide +kernel) rfl, ⟨by decide +kernel, by decide +kernel, by decide +kernel⟩, by decide⟩
theorem cv_L_62 : tm_cv RL 62 yX8_at cX8_at 3 (some .int) 2 := ⟨tm_mem 985 (by decide +kernel) rfl, tm_mem 986 (by decide +kernel) rfl, tm_mem 987 (by decide +kernel) rfl, tm_mem 65 (by decide +kernel) rfl, tm_mem 988 (by decide +kernel) rfl, ⟨by decide +kernel, by decide +kernel, by decide +kernel⟩, by decide⟩
theorem cv_L_63 : tm_cv RL 63 yX7_ends cX7_ends 2 (some .int) 1 := ⟨tm_mem 516 (by decide +kernel) rfl, tm_mem 517 (by decide +kernel) rfl, tm_mem 518 (by decide +kernel) rfl, tm_mem 56 (by decide +kernel) rfl, tm_mem 519 (by decide +kernel) rfl, ⟨by decide +kernel, by decide +kernel, by decide +kernel⟩, by decide⟩
theorem cv_L_66 : tm_cv RL 66 yX8_ends cX8_ends 2 (some .int) 1 := ⟨tm_mem 1024 (by decide +kernel) rfl, tm_mem 1025 (by decide +kernel) rfl, tm_mem 1026 (by decide +kernel) rfl, tm_mem 65 (by decide +kernel) rfl, tm_mem 1027 (by decide +kernel) rfl, ⟨by decide +kernel, by decide +kernel, by decide +kernel⟩, by decide⟩
theorem cv_L_67 : tm_cv RL 67 yX7_paid cX7_paid 1 (some .int) 0 := ⟨tm_mem 520 (by decide +kernel) rfl, tm_mem 521 (by decide +kernel) rfl, tm_mem 522 (by decide +kernel) rfl, tm_mem 56 (by decide +kernel) rfl, tm_mem 523 (by decide +kernel) rfl, ⟨by decide +kernel, by decide +kernel, by decide +kernel⟩, by decide⟩
theorem cv_L_71 : tm_cv RL 71 yX8_paid cX8_paid 1 (some .int) 0 := ⟨tm_mem 1032 (by decide +kernel) rfl, tm_mem 1033 (by decide +kernel) rfl, tm_mem 1034 (by decide +kernel) rfl, tm_mem 65 (by decide +kernel) rfl, tm_mem 1035 (by decide +kernel) rfl, ⟨by decide +kernel, by decide +kernel, by decide +kernel⟩, by decide⟩
theorem cv_L_72 : tm_cv RL 72 yX7_spilt cX7_spilt 1 (some .int) 0 := ⟨tm_mem 532 (by decide +kernel) rfl, tm_mem 533 (by decide +kernel) rfl, tm_mem 534 (by decide +kernel) rfl, tm_mem 56 (by decide +kernel) rfl, tm_mem 535 (by decide +kernel) rfl, ⟨by decide +kernel, by decide +kernel, by decide +kernel⟩, by decide⟩
theorem cv_L_75 : tm_cv RL 75 yX8_spilt cX8_spilt 1 (some .int) 0 := ⟨tm_mem 1048 (by decide +kernel) rfl, tm_mem 1049 (by decide +kernel) rfl, tm_mem 1050 (by decide +kernel) rfl, tm_mem 65 (by decide +kernel) rfl, tm_mem 1051 (by decide +kernel) rfl, ⟨by decide +kernel, by decide +kernel, by decide +kernel⟩, by decide⟩
theorem cv_L_76 : tm_cv RL 76 yX7_idle cX7_idle 1 (some .int) 0 := ⟨tm_mem 536 (by decide +kernel) rfl, tm_mem 537 (by decide +kernel) rfl, tm_mem 538 (by decide +kernel) rfl, tm_mem 56 (by decide +kernel) rfl, tm_mem 539 (by decide +kernel) rfl, ⟨by decide +kernel, by decide +kernel, by decide +kernel⟩, by decide⟩
theorem cv_L_79 : tm_cv RL 79 yX8_idle cX8_idle 1 (some .int) 0 := ⟨tm_mem 1056 (by decide +kernel) rfl, tm_mem 1057 (by decide +kernel) rfl, tm_mem 1058 (by decide +kernel) rfl, tm_mem 65 (by decide +kernel) rfl, tm_mem 1059 (by decide +kernel) rfl, ⟨by decide +kernel, by decide +kernel, by decide +kernel⟩, by decide⟩
theorem cv_L_80 : tm_cv RL 80 yX7_late cX7_late 3 (some .int) 0 := ⟨tm_mem 540 (by decide +kernel) rfl, tm_mem 541 (by decide +kernel) rfl, tm_mem 542 (by decide +kernel) rfl, tm_mem 56 (by decide +kernel) rfl, tm_mem 543 (by decide +kernel) rfl, ⟨by decide +kernel, by decide +kernel, by decide +kernel⟩, by decide⟩
theorem cv_L_83 : tm_cv RL 83 yX8_late cX8_late 1 (some .int) 0 := ⟨tm_mem 1064 (by decide +kernel) rfl, tm_mem 1065 (by decide +kernel) rfl, tm_mem 1066 (by decide +kernel) rfl, tm_mem 65 (by decide +kernel) rfl, tm_mem 1067 (by decide +kernel) rfl, ⟨by decide +kernel, by decide +kernel, by decide +kernel⟩, by decide⟩
theorem cv_L_84 : tm_cv RL 84 yX7_row cX7_row 2 (some .int) 1 := ⟨tm_mem 545 (by decide +kernel) rfl, tm_mem 546 (by decide +kernel) rfl, tm_mem 547 (by decide +kernel) rfl, tm_mem 56 (by decide +kernel) rfl, tm_mem 548 (by decide +kernel) rfl, ⟨by decide +kernel, by decide +kernel, by decide +kernel⟩, by decide⟩
theorem cv_L_87 : tm_cv RL 87 yX8_row cX8_row 2 (some .int) 1 := ⟨tm_mem 1072 (by decide +kernel) rfl, tm_mem 1073 (by decide +kernel) rfl, tm_mem 1074 (by decide +kernel) rfl, tm_mem 65 (by decide +kernel) rfl, tm_mem 1075 (by decide +kernel) rfl, ⟨by decide +kernel, by decide +kernel, by decide +kernel⟩, by decide⟩
theorem cv_L_88 : tm_cv RL 88 yX7_dress cX7_dress 5 (some .int) 1 := ⟨tm_mem 575 (by decide +kernel) rfl, tm_mem 576 (by decide +kernel) rfl, tm_mem 577 (by decide +kernel) rfl, tm_mem 56 (by decide +kernel) rfl, tm_mem 578 (by decide +kernel) rfl, ⟨by decide +kernel, by decide +kernel, by decide +kernel⟩, by decide⟩
theorem cv_L_91 : tm_cv RL 91 yX8_dress cX8_dress 2 (some .int) 1 := ⟨tm_mem 1088 (by decide +kernel) rfl, tm_mem 1089 (by decide +kernel) rfl, tm_mem 1090 (by decide +kernel) rfl, tm_mem 65 (by decide +kernel) rfl, tm_mem 1091 (by decide +kernel) rfl, ⟨by decide +kernel, by decide +kernel, by decide +kernel⟩, by decide⟩
theorem cv_L_92 : tm_cv RL 92 yX7_least cX7_least 2 (some .int) 0 := ⟨tm_mem 587 (by decide +kernel) rfl, tm_mem 588 (by decide +kernel) rfl, tm_mem 589 (by decide +kernel) rfl, tm_mem 56 (by decide +kernel) rfl, tm_mem 590 (by decide +kernel) rfl, ⟨by decide +kernel, by decide +kernel, by decide +kernel⟩, by decide⟩
theorem cv_L_95 : tm_cv RL 95 yX8_least cX8_least 1 (some .int) 0 := ⟨tm_mem 1096 (by decide +kernel) rfl, tm_mem 1097 (by decide +kernel) rfl, tm_mem 1098 (by decide +kernel) rfl, tm_mem 65 (by decide +kernel) rfl, tm_mem 1099 (by decide +kernel) rfl, ⟨by decide +kernel, by decide +kernel, by decide +kernel⟩, by decide⟩
theorem cv_L_96 : tm_cv RL 96 yX7_send cX7_send 6 (some .int) 1 := ⟨tm_mem 595 (by decide +kernel) rfl, tm_mem 596 (by decide +kernel) rfl, tm_mem 597 (by decide +kernel) rfl, tm_mem 56 (by decide +kernel) rfl, tm_mem 598 (by decide +kernel) rfl, ⟨by decide +kernel, by decide +kernel, by decide +kernel⟩, by decide⟩
theorem cv_L_99 : tm_cv RL 99 yX8_send cX8_send 2 (some .int) 1 := ⟨tm_mem 1104 (by decide +kernel) rfl, tm_mem 1105 (by decide +kernel) rfl, tm_mem 1106 (by decide +kernel) rfl, tm_mem 65 (by decide +kernel) rfl, tm_mem 1107 (by decide +kernel) rfl, ⟨by decide +kernel, by decide +kernel, by decide +kernel⟩, by decide⟩
theorem cv_L_100 : tm_cv RL 100 yX7_seen cX7_seen 3 (some .int) 2 := ⟨tm_mem 603 (by decide +kernel) rfl, tm_mem 604 (by decide +kernel) rfl, tm_mem 605 (by decide +kernel) rfl, tm_mem 56 (by decide +kernel) rfl, tm_mem 606 (by decide +kernel) rfl, ⟨by decide +kernel, by decide +kernel, by decide +kernel⟩, by decide⟩
theorem cv_L_103 : tm_cv RL 103 yX8_seen cX8_seen 3 (some .int) 2 := ⟨tm_mem 1112 (by decide +kernel) rfl, tm_mem 1113 (by decide +kernel) rfl, tm_mem 1114 (by decide +kernel) rfl, tm_mem 65 (by decide +kernel) rfl, tm_mem 1115 (by decide +kernel) rfl, ⟨by decide +kernel, by decide +kernel, by decide +kernel⟩, by decide⟩
theorem cv_L_104 : tm_cv RL 104 yX7_forget cX7_forget 2 (some .int) 0 := ⟨tm_mem 607 (by decide +kernel) rfl, tm_mem 608 (by decide +kernel) rfl, tm_mem 609 (by decide +kernel) rfl, tm_mem 56 (by decide +kernel) rfl, tm_mem 610 (by decide +kernel) rfl, ⟨by decide +kernel, by decide +kernel, by decide +kernel⟩, by decide⟩
theorem cv_L_107 : tm_cv RL 107 yX8_forget cX8_forget 2 (some .int) 0 := ⟨tm_mem 1116 (by decide +kernel) rfl, tm_mem 1117 (by decide +kernel) rfl, tm_mem 1118 (by decide +kernel) rfl, tm_mem 65 (by decide +kernel) rfl, tm_mem 1119 (by decide +kernel) rfl, ⟨by decide +kernel, by decide +kernel, by decide +kernel⟩, by decide⟩
theorem cv_L_108 : tm_cv RL 108 yX7_never cX7_never 3 (some .int) 0 := ⟨tm_mem 611 (by decide +kernel) rfl, tm_mem 612 (by decide +kernel) rfl, tm_mem 613 (by decide +kernel) rfl, tm_mem 56 (by decide +kernel) rfl, tm_mem 614 (by decide +kernel) rfl, ⟨by decide +kernel, by decide +kernel, by decide +kernel⟩, by decide⟩
theorem cv_L_111 : tm_cv RL 111 yX8_never cX8_never 1 (some .int) 0 := ⟨tm_mem 1120 (by decide +kernel) rfl, tm_mem 1121 (by decide +kernel) rfl, tm_mem 1122 (by decide +kernel) rfl, tm_mem 65 (by decide +kernel) rfl, tm_mem 1123 (by decide +kernel) rfl, ⟨by decide +kernel, by decide +kernel, by decide +kernel⟩, by decide⟩
theorem cv_L_112 : tm_cv RL 112 yX7_was cX7_was 5 (some .int) 1 := ⟨tm_mem 619 (by decide +kernel) rfl, tm_mem 620 (by decide +kernel) rfl, tm_mem 621 (by decide +kernel) rfl, tm_mem 56 (by decide +kernel) rfl, tm_mem 622 (by decide +kernel) rfl, ⟨by decide +kernel, by decide +kernel, by decide +kernel⟩, by decide⟩
theorem cv_L_115 : tm_cv RL 115 yX8_was cX8_was 2 (some .int) 1 := ⟨tm_mem 1132 (by decide +kernel) rfl, tm_mem 1133 (by decide +kernel) rfl, tm_mem 1134 (by decide +kernel) rfl, tm_mem 65 (by decide +kernel) rfl, tm_mem 1135 (by decide +kernel) rfl, ⟨by decide +kernel, by decide +kernel, by decide +kernel⟩, by decide⟩
theorem cv_L_116 : tm_cv RL 116 yX7_ask cX7_ask 5 (some .int) 0 := ⟨tm_mem 623 (by decide +kernel) rfl, tm_mem 624 (by decide +kernel) rfl, tm_mem 625 (by decide +kernel) rfl, tm_mem 56 (by decide +kernel) rfl, tm_mem 626 (by decide +kernel) rfl, ⟨by decide +kernel, by decide +kernel, by decide +kernel⟩, by decide⟩
theorem cv_L_119 : tm_cv RL 119 yX8_ask cX8_ask 1 (some .int) 0 := ⟨tm_mem 1144 (by decide +kernel) rfl, tm_mem 1145 (by decide +kernel) rfl, tm_mem 1146 (by decide +kernel) rfl, tm_mem 65 (by decide +kernel) rfl, tm_mem 1147 (by decide +kernel) rfl, ⟨by decide +kernel, by decide +kernel, by decide +kernel⟩, by decide⟩
theorem cv_L_120 : tm_cv RL 120 yX7_shower cX7_shower 9 (some .long) 3 := ⟨tm_mem 636 (by decide +kernel) rfl, tm_mem 637 (by decide +kernel) rfl, tm_mem 638 (by decide +kernel) rfl, tm_mem 56 (by decide +kernel) rfl, tm_mem 639 (by decide +kernel) rfl, ⟨by decide +kernel, by decide +kernel, by decide +kernel⟩, by decide⟩
theorem cv_L_124 : tm_cv RL 124 yX8_shower cX8_shower 4 (some .long) 3 := ⟨tm_mem 1152 (by decide +kernel) rfl, tm_mem 1153 (by decide +kernel) rfl, tm_mem 1154 (by decide +kernel) rfl, tm_mem 65 (by decide +kernel) rfl, tm_mem 1155 (by decide +kernel) rfl, ⟨by decide +kernel, by decide +kernel, by decide +kernel⟩, by decide⟩
theorem cv_L_125 : tm_cv RL 125 yX7_moon cX7_moon 6 (some .int) 3 := ⟨tm_mem 658 (by decide +kernel) rfl, tm_mem 659 (by decide +kernel) rfl, tm_mem 660 (by decide +kernel) rfl, tm_mem 56 (by decide +kernel) rfl, tm_mem 661 (by decide +kernel) rfl, ⟨by decide +kernel, by decide +kernel, by decide +kernel⟩, by decide⟩
theorem cv_L_129 : tm_cv RL 129 yX8_moon cX8_moon 4 (some .int) 3 := ⟨tm_mem 1167 (by decide +kernel) rfl, tm_mem 1168 (by decide +kernel) rfl, tm_mem 1169 (by decide +kernel) rfl, tm_mem 65 (by decide +kernel) rfl, tm_mem 1170 (by decide +kernel) rfl, ⟨by decide +kernel, by decide +kernel, by decide +kernel⟩, by decide⟩
theorem cv_L_130 : tm_cv RL 130 yX7_sheet cX7_sheet 4 (some .int) 3 := ⟨tm_mem 663 (by decide +kernel) rfl, tm_mem 664 (by decide +kernel) rfl, tm_mem 665 (by decide +kernel) rfl, tm_mem 56 (by decide +kernel) rfl, tm_mem 666 (by decide +kernel) rfl, ⟨by decide +kernel, by decide +kernel, by decide +kernel⟩, by decide⟩
theorem cv_L_133 : tm_cv RL 133 yX8_sheet cX8_sheet 5 (some .int) 3 := ⟨tm_mem 1176 (by decide +kernel) rfl, tm_mem 1177 (by decide +kernel) rfl, tm_mem 1178 (by decide +kernel) rfl, tm_mem 65 (by decide +kernel) rfl, tm_mem 1179 (by decide +kernel) rfl, ⟨by decide +kernel, by decide +kernel, by decide +kernel⟩, by decide⟩
theorem cv_L_134 : tm_cv RL 134 yX7_lose cX7_lose 4 (some .int) 1 := ⟨tm_mem 675 (by decide +kernel) rfl, tm_mem 676 (by decide +kernel) rfl, tm_mem 677 (by decide +kernel) rfl, tm_mem 56 (by decide +kernel) rfl, tm_mem 678 (by decide +kernel) rfl, ⟨by decide +kernel, by decide +kernel, by decide +kernel⟩, by decide⟩
theorem cv_L_137 : tm_cv RL 137 yX8_lose cX8_lose 2 (some .int) 1 := ⟨tm_mem 1180 (by decide +kernel) rfl, tm_mem 1181 (by decide +kernel) rfl, tm_mem 1182 (by decide +kernel) rfl, tm_mem 65 (by decide +kernel) rfl, tm_mem 1183 (by decide +kernel) rfl, ⟨by decide +kernel, by decide +kernel, by decide +kernel⟩, by decide⟩
theorem cv_L_138 : tm_cv RL 138 yX7_put cX7_put 6 (some .int) 4 := ⟨tm_mem 679 (by decide +kernel) rfl, tm_mem 680 (by decide +kernel) rfl, tm_mem 681 (by decide +kernel) rfl, tm_mem 56 (by decide +kernel) rfl, tm_mem 682 (by decide +kernel) rfl, ⟨by decide +kernel, by decide +kernel, by decide +kernel⟩, by decide⟩
theorem cv_L_142 : tm_cv RL 142 yX8_put cX8_put 6 (some .int) 4 := ⟨tm_mem 1184 (by decide +kernel) rfl, tm_mem 1185 (by decide +kernel) rfl, tm_mem 1186 (by decide +kernel) rfl, tm_mem 65 (by decide +kernel) rfl, tm_mem 1187 (by decide +kernel) rfl, ⟨by decide +kernel, by decide +kernel, by decide +kernel⟩, by decide⟩
theorem cv_L_143 : tm_cv RL 143 yX7_get cX7_get 5 (some .int) 3 := ⟨tm_mem 696 (by decide +kernel) rfl, tm_mem 697 (by decide +kernel) rfl, tm_mem 698 (by decide +kernel) rfl, tm_mem 56 (by decide +kernel) rfl, tm_mem 699 (by decide +kernel) rfl, ⟨by decide +kernel, by decide +kernel, by decide +kernel⟩, by decide⟩
theorem cv_L_146 : tm_cv RL 146 yX8_get cX8_get 5 (some .int) 3 := ⟨tm_mem 1196 (by decide +kernel) rfl, tm_mem 1197 (by decide +kernel) rfl, tm_mem 1198 (by decide +kernel) rfl, tm_mem 65 (by decide +kernel) rfl, tm_mem 1199 (by decide +kernel) rfl, ⟨by decide +kernel, by decide +kernel, by decide +kernel⟩, by decide⟩
theorem cv_L_147 : tm_cv RL 147 yX7_copy cX7_copy 8 (some .int) 5 := ⟨tm_mem 701 (by decide +kernel) rfl, tm_mem 702 (by decide +kernel) rfl, tm_mem 703 (by decide +kernel) rfl, tm_mem 56 (by decide +kernel) rfl, tm_mem 704 (by decide +kernel) rfl, ⟨by decide +kernel, by decide +kernel, by decide +kernel⟩, by decide⟩
theorem cv_L_151 : tm_cv RL 151 yX8_copy cX8_copy 7 (some .int) 5 := ⟨tm_mem 1201 (by decide +kernel) rfl, tm_mem 1202 (by decide +kernel) rfl, tm_mem 1203 (by decide +kernel) rfl, tm_mem 65 (by decide +kernel) rfl, tm_mem 1204 (by decide +kernel) rfl, ⟨by decide +kernel, by decide +kernel, by decide +kernel⟩, by decide⟩
theorem cv_L_152 : tm_cv RL 152 yX7_write cX7_write 5 (some .int) 1 := ⟨tm_mem 707 (by decide +kernel) rfl, tm_mem 708 (by decide +kernel) rfl, tm_mem 709 (by decide +kernel) rfl, tm_mem 56 (by decide +kernel) rfl, tm_mem 710 (by decide +kernel) rfl, ⟨by decide +kernel, by decide +kernel, by decide +kernel⟩, by decide⟩
theorem cv_L_155 : tm_cv RL 155 yX8_write cX8_write 3 (some .int) 1 := ⟨tm_mem 1205 (by decide +kernel) rfl, tm_mem 1206 (by decide +kernel) rfl, tm_mem 1207 (by decide +kernel) rfl, tm_mem 65 (by decide +kernel) rfl, tm_mem 1208 (by decide +kernel) rfl, ⟨by decide +kernel, by decide +kernel, by decide +kernel⟩, by decide⟩
theorem cv_L_156 : tm_cv RL 156 yX7_count cX7_count 2 (some .int) 1 := ⟨tm_mem 712 (by decide +kernel) rfl, tm_mem 713 (by decide +kernel) rfl, tm_mem 714 (by decide +kernel) rfl, tm_mem 56 (by decide +kernel) rfl, tm_mem 715 (by decide +kernel) rfl, ⟨by decide +kernel, by decide +kernel, by decide +kernel⟩, by decide⟩
theorem cv_L_159 : tm_cv RL 159 yX8_count cX8_count 2 (some .int) 1 := ⟨tm_mem 1209 (by decide +kernel) rfl, tm_mem 1210 (by decide +kernel) rfl, tm_mem 1211 (by decide +kernel) rfl, tm_mem 65 (by decide +kernel) rfl, tm_mem 1212 (by decide +kernel) rfl, ⟨by decide +kernel, by decide +kernel, by decide +kernel⟩, by decide⟩
theorem cv_L_160 : tm_cv RL 160 yX7_digest cX7_digest 5 (some .long) 0 := ⟨tm_mem 716 (by decide +kernel) rfl, tm_mem 717 (by decide +kernel) rfl, tm_mem 718 (by decide +kernel) rfl, tm_mem 56 (by decide +kernel) rfl, tm_mem 719 (by decide +kernel) rfl, ⟨by decide +kernel, by decide +kernel, by decide +kernel⟩, by decide⟩
theorem cv_L_164 : tm_cv RL 164 yX8_digest cX8_digest 5 (some .long) 0 := ⟨tm_mem 1217 (by decide +kernel) rfl, tm_mem 1218 (by decide +kernel) rfl, tm_mem 1219 (by decide +kernel) rfl, tm_mem 65 (by decide +kernel) rfl, tm_mem 1220 (by decide +kernel) rfl, ⟨by decide +kernel, by decide +kernel, by decide +kernel⟩, by decide⟩
theorem fl_X8_7 : tm_fl RX8 7 8 0 := ⟨_, _, _, _, cls_8, by decide, tm_mem 747 (by decide +kernel) rfl⟩
theorem fl_X8_13 : tm_fl RX8 13 8 1 := ⟨_, _, _, _, cls_8, by decide, tm_mem 748 (by decide +kernel) rfl⟩
theorem fl_X8_16 : tm_fl RX8 16 8 3 := ⟨_, _, _, _, cls_8, by decide, tm_mem 750 (by decide +kernel) rfl⟩
theorem fl_X8_19 : tm_fl RX8 19 8 5 := ⟨_, _, _, _, cls_8, by decide, tm_mem 752 (by decide +kernel) rfl⟩
theorem fl_X8_22 : tm_fl RX8 22 8 6 := ⟨_, _, _, _, cls_8, by decide, tm_mem 753 (by decide +kernel) rfl⟩
theorem fl_X8_25 : tm_fl RX8 25 8 7 := ⟨_, _, _, _, cls_8, by decide, tm_mem 754 (by decide +kernel) rfl⟩
theorem fl_X8_28 : tm_fl RX8 28 8 8 := ⟨_, _, _, _, cls_8, by decide, tm_mem 755 (by decide +kernel) rfl⟩
theorem fl_X8_31 : tm_fl RX8 31 8 9 := ⟨_, _, _, _, cls_8, by decide, tm_mem 756 (by decide +kernel) rfl⟩
theorem fl_X8_34 : tm_fl RX8 34 8 11 := ⟨_, _, _, _, cls_8, by decide, tm_mem 758 (by decide +kernel) rfl⟩
theorem fl_X8_37 : tm_fl RX8 37 8 13 := ⟨_, _, _, _, cls_8, by decide, tm_mem 760 (by decide +kernel) rfl⟩
theorem fl_X8_40 : tm_fl RX8 40 8 14 := ⟨_, _, _, _, cls_8, by decide, tm_mem 761 (by decide +kernel) rfl⟩
theorem fl_X8_43 : tm_fl RX8 43 8 18 := ⟨_, _, _, _, cls_8, by decide, tm_mem 765 (by decide +kernel) rfl⟩
theorem fl_X8_46 : tm_fl RX8 46 8 28 := ⟨_, _, _, _, cls_8, by decide, tm_mem 775 (by decide +kernel) rfl⟩
theorem fl_X8_49 : tm_fl RX8 49 8 29 := ⟨_, _, _, _, cls_8, by decide, tm_mem 776 (by decide +kernel) rfl⟩
theorem fl_X8_52 : tm_fl RX8 52 8 30 := ⟨_, _, _, _, cls_8, by decide, tm_mem 777 (by decide +kernel) rfl⟩
theorem fl_X8_55 : tm_fl RX8 55 8 31 := ⟨_, _, _, _, cls_8, by decide, tm_mem 778 (by decide +kernel) rfl⟩
theorem fl_X8_58 : tm_fl RX8 58 8 32 := ⟨_, _, _, _, cls_8, by decide, tm_mem 779 (by decide +kernel) rfl⟩
theorem fl_X8_61 : tm_fl RX8 61 8 33 := ⟨_, _, _, _, cls_8, by decide, tm_mem 780 (by decide +kernel) rfl⟩
theorem fl_X8_64 : tm_fl RX8 64 8 34 := ⟨_, _, _, _, cls_8, by decide, tm_mem 781 (by decide +kernel) rfl⟩
theorem fl_X8_67 : tm_fl RX8 67 8 36 := ⟨_, _, _, _, cls_8, by decide, tm_mem 783 (by decide +kernel) rfl⟩
theorem fl_X8_70 : tm_fl RX8 70 8 37 := ⟨_, _, _, _, cls_8, by decide, tm_mem 784 (by decide +kernel) rfl⟩
theorem fl_X8_73 : tm_fl RX8 73 8 38 := ⟨_, _, _, _, cls_8, by decide, tm_mem 785 (by decide +kernel) rfl⟩
theorem fl_X8_76 : tm_fl RX8 76 8 39 := ⟨_, _, _, _, cls_8, by decide, tm_mem 786 (by decide +kernel) rfl⟩
theorem fl_X8_80 : tm_fl RX8 80 8 40 := ⟨_, _, _, _, cls_8, by decide, tm_mem 787 (by decide +kernel) rfl⟩
theorem fl_X8_83 : tm_fl RX8 83 8 41 := ⟨_, _, _, _, cls_8, by decide, tm_mem 788 (by decide +kernel) rfl⟩
theorem fl_X8_86 : tm_fl RX8 86 8 42 := ⟨_, _, _, _, cls_8, by decide, tm_mem 789 (by decide +kernel) rfl⟩
theorem fl_X8_89 : tm_fl RX8 89 8 43 := ⟨_, _, _, _, cls_8, by decide, tm_mem 790 (by decide +kernel) rfl⟩
theorem kl_X8_92 : Cond.constantLong RX8 92 (-9223372036854775808) ∈ tm_tbl := tm_mem 1166 (by decide +kernel) rfl
theorem cs_X8_94 : tm_cs RX8 94 yX8_in cX8_in 3 (some .boolean) 3 := ⟨tm_mem 891 (by decide +kernel) rfl, tm_mem 892 (by decide +kernel) rfl, tm_mem 65 (by decide +kernel) rfl, tm_mem 893 (by decide +kernel) rfl, ⟨by decide +kernel, by decide +kernel, by decide +kernel⟩, by decide⟩
theorem cs_X8_98 : tm_cs RX8 98 yX8_isText cX8_isText 1 (some .boolean) 1 := ⟨tm_mem 888 (by decide +kernel) rfl, tm_mem 889 (by decide +kernel) rfl, tm_mem 65 (by decide +kernel) rfl, tm_mem 890 (by decide +kernel) rfl, ⟨by decide +kernel, by decide +kernel, by decide +kernel⟩, by decide⟩
theorem fl_X8_102 : tm_fl RX8 102 8 2 := ⟨_, _, _, _, cls_8, by decide, tm_mem 749 (by decide +kernel) rfl⟩
theorem fp_X8_102 : tm_fp RX8 102 8 2 .int := ⟨_, _, _, _, cls_8, by decide, tm_mem 749 (by decide +kernel) rfl, rfl, by decide +kernel⟩
theorem cv_X8_106 : tm_cv RX8 106 yX8_byteAt cX8_byteAt 2 (some .int) 1 := ⟨tm_mem 926 (by decide +kernel) rfl, tm_mem 928 (by decide +kernel) rfl, tm_mem 17 (by decide +kernel) rfl, tm_mem 65 (by decide +kernel) rfl, tm_mem 929 (by decide +kernel) rfl, ⟨by decide +kernel, by decide +kernel, by decide +kernel⟩, by decide⟩
theorem cv_X8_110 : tm_cv RX8 110 yX8_isWell cX8_isWell 4 (some .boolean) 2 := ⟨tm_mem 922 (by decide +kernel) rfl, tm_mem 924 (by decide +kernel) rfl, tm_mem 16 (by decide +kernel) rfl, tm_mem 65 (by decide +kernel) rfl, tm_mem 925 (by decide +kernel) rfl, ⟨by decide +kernel, by decide +kernel, by decide +kernel⟩, by decide⟩
theorem fl_X8_114 : tm_fl RX8 114 8 4 := ⟨_, _, _, _, cls_8, by decide, tm_mem 751 (by decide +kernel) rfl⟩
theorem fp_X8_114 : tm_fp RX8 114 8 4 .int := ⟨_, _, _, _, cls_8, by decide, tm_mem 751 (by decide +kernel) rfl, rfl, by decide +kernel⟩
theorem cv_X8_117 : tm_cv RX8 117 yX8_readsOrder cX8_readsOrder 5 (some .int) 2 := ⟨tm_mem 918 (by decide +kernel) rfl, tm_mem 920 (by decide +kernel) rfl, tm_mem 15 (by decide +kernel) rfl, tm_mem 65 (by decide +kernel) rfl, tm_mem 921 (by decide +kernel) rfl, ⟨by decide +kernel, by decide +kernel, by decide +kernel⟩, by decide⟩
theorem cv_X8_121 : tm_cv RX8 121 yX8_readsTides cX8_readsTides 2 (some .int) 0 := ⟨tm_mem 910 (by decide +kernel) rfl, tm_mem 912 (by decide +kernel) rfl, tm_mem 13 (by decide +kernel) rfl, tm_mem 65 (by decide +kernel) rfl, tm_mem 913 (by decide +kernel) rfl, ⟨by decide +kernel, by decide +kernel, by decide +kernel⟩, by decide⟩
theorem cv_X8_125 : tm_cv RX8 125 yX8_readsOrders cX8_readsOrders 4 (some .int) 0 := ⟨tm_mem 914 (by decide +kernel) rfl, tm_mem 916 (by decide +kernel) rfl, tm_mem 14 (by decide +kernel) rfl, tm_mem 65 (by decide +kernel) rfl, tm_mem 917 (by decide +kernel) rfl, ⟨by decide +kernel, by decide +kernel, by decide +kernel⟩, by decide⟩
theorem cv_X8_128 : tm_cv RX8 128 yX8_faultOf cX8_faultOf 4 (some .int) 1 := ⟨tm_mem 906 (by decide +kernel) rfl, tm_mem 908 (by decide +kernel) rfl, tm_mem 12 (by decide +kernel) rfl, tm_mem 65 (by decide +kernel) rfl, tm_mem 909 (by decide +kernel) rfl, ⟨by decide +kernel, by decide +kernel, by decide +kernel⟩, by decide⟩
theorem cv_X8_131 : tm_cv RX8 131 yX8_reads cX8_reads 2 none 0 := ⟨tm_mem 941 (by decide +kernel) rfl, tm_mem 943 (by decide +kernel) rfl, tm_mem 19 (by decide +kernel) rfl, tm_mem 65 (by decide +kernel) rfl, tm_mem 944 (by decide +kernel) rfl, ⟨by decide +kernel, by decide +kernel, by decide +kernel⟩, by decide⟩
theorem cs_X8_134 : tm_cs RX8 134 yX8_isHour cX8_isHour 1 (some .boolean) 1 := ⟨tm_mem 934 (by decide +kernel) rfl, tm_mem 935 (by decide +kernel) rfl, tm_mem 65 (by decide +kernel) rfl, tm_mem 936 (by decide +kernel) rfl, ⟨by decide +kernel, by decide +kernel, by decide +kernel⟩, by decide⟩
theorem cv_X8_137 : tm_cv RX8 137 yX8_seaOf cX8_seaOf 2 (some .int) 1 := ⟨tm_mem 937 (by decide +kernel) rfl, tm_mem 939 (by decide +kernel) rfl, tm_mem 18 (by decide +kernel) rfl, tm_mem 65 (by decide +kernel) rfl, tm_mem 940 (by decide +kernel) rfl, ⟨by decide +kernel, by decide +kernel, by decide +kernel⟩, by decide⟩
theorem cv_X8_140 : tm_cv RX8 140 yX8_isOrder cX8_isOrder 2 (some .boolean) 1 := ⟨tm_mem 949 (by decide +kernel) rfl, tm_mem 951 (by decide +kernel) rfl, tm_mem 20 (by decide +kernel) rfl, tm_mem 65 (by decide +kernel) rfl, tm_mem 952 (by decide +kernel) rfl, ⟨by decide +kernel, by decide +kernel, by decide +kernel⟩, by decide⟩
theorem cv_X8_143 : tm_cv RX8 143 yX8_orderOf cX8_orderOf 3 (some .int) 2 := ⟨tm_mem 953 (by decide +kernel) rfl, tm_mem 955 (by decide +kernel) rfl, tm_mem 21 (by decide +kernel) rfl, tm_mem 65 (by decide +kernel) rfl, tm_mem 956 (by decide +kernel) rfl, ⟨by decide +kernel, by decide +kernel, by decide +kernel⟩, by decide⟩
theorem fl_X8_146 : tm_fl RX8 146 8 10 := ⟨_, _, _, _, cls_8, by decide, tm_mem 757 (by decide +kernel) rfl⟩
theorem fp_X8_146 : tm_fp RX8 146 8 10 .int := ⟨_, _, _, _, cls_8, by decide, tm_mem 757 (by decide +kernel) rfl, rfl, by decide +kernel⟩
theorem fl_X8_149 : tm_fl RX8 149 8 12 := ⟨_, _, _, _, cls_8, by decide, tm_mem 759 (by decide +kernel) rfl⟩
theorem fp_X8_149 : tm_fp RX8 149 8 12 .int := ⟨_, _, _, _, cls_8, by decide, tm_mem 759 (by decide +kernel) rfl, rfl, by decide +kernel⟩
theorem cs_X8_152 : tm_cs RX8 152 yX8_isSheet cX8_isSheet 1 (some .boolean) 1 := ⟨tm_mem 977 (by decide +kernel) rfl, tm_mem 978 (by decide +kernel) rfl, tm_mem 65 (by decide +kernel) rfl, tm_mem 979 (by decide +kernel) rfl, ⟨by decide +kernel, by decide +kernel, by decide +kernel⟩, by decide⟩
theorem cv_X8_155 : tm_cv RX8 155 yX8_meets cX8_meets 2 (some .int) 1 := ⟨tm_mem 980 (by decide +kernel) rfl, tm_mem 982 (by decide +kernel) rfl, tm_mem 22 (by decide +kernel) rfl, tm_mem 65 (by decide +kernel) rfl, tm_mem 983 (by decide +kernel) rfl, ⟨by decide +kernel, by decide +kernel, by decide +kernel⟩, by decide⟩
theorem cv_X8_158 : tm_cv RX8 158 yX8_rain cX8_rain 2 (some .int) 1 := ⟨tm_mem 984 (by decide +kernel) rfl, tm_mem 962 (by decide +kernel) rfl, tm_mem 963 (by decide +kernel) rfl, tm_mem 65 (by decide +kernel) rfl, tm_mem 964 (by decide +kernel) rfl, ⟨by decide +kernel, by decide +kernel, by decide +kernel⟩, by decide⟩
theorem fl_X8_161 : tm_fl RX8 161 8 15 := ⟨_, _, _, _, cls_8, by decide, tm_mem 762 (by decide +kernel) rfl⟩
theorem fp_X8_161 : tm_fp RX8 161 8 15 .int := ⟨_, _, _, _, cls_8, by decide, tm_mem 762 (by decide +kernel) rfl, rfl, by decide +kernel⟩
theorem fl_X8_164 : tm_fl RX8 164 8 16 := ⟨_, _, _, _, cls_8, by decide, tm_mem 763 (by decide +kernel) rfl⟩
theorem fp_X8_164 : tm_fp RX8 164 8 16 .int := ⟨_, _, _, _, cls_8, by decide, tm_mem 763 (by decide +kernel) rfl, rfl, by decide +kernel⟩
theorem fl_X8_167 : tm_fl RX8 167 8 17 := ⟨_, _, _, _, cls_8, by decide, tm_mem 764 (by decide +kernel) rfl⟩
theorem fp_X8_167 : tm_fp RX8 167 8 17 .int := ⟨_, _, _, _, cls_8, by decide, tm_mem 764 (by decide +kernel) rfl, rfl, by decide +kernel⟩
theorem fl_X8_170 : tm_fl RX8 170 8 19 := ⟨_, _, _, _, cls_8, by decide, tm_mem 766 (by decide +kernel) rfl⟩
theorem fp_X8_170 : tm_fp RX8 170 8 19 .int := ⟨_, _, _, _, cls_8, by decide, tm_mem 766 (by decide +kernel) rfl, rfl, by decide +kernel⟩
theorem fl_X8_173 : tm_fl RX8 173 8 20 := ⟨_, _, _, _, cls_8, by decide, tm_mem 767 (by decide +kernel) rfl⟩
theorem fp_X8_173 : tm_fp RX8 173 8 20 .int := ⟨_, _, _, _, cls_8, by decide, tm_mem 767 (by decide +kernel) rfl, rfl, by decide +kernel⟩
theorem fl_X8_176 : tm_fl RX8 176 8 21 := ⟨_, _, _, _, cls_8, by decide, tm_mem 768 (by decide +kernel) rfl⟩
theorem fp_X8_176 : tm_fp RX8 176 8 21 .int := ⟨_, _, _, _, cls_8, by decide, tm_mem 768 (by decide +kernel) rfl, rfl, by decide +kernel⟩
theorem cs_X8_179 : tm_cs RX8 179 yX8_isIn cX8_isIn 2 (some .boolean) 2 := ⟨tm_mem 1013 (by decide +kernel) rfl, tm_mem 1014 (by decide +kernel) rfl, tm_mem 65 (by decide +kernel) rfl, tm_mem 1015 (by decide +kernel) rfl, ⟨by decide +kernel, by decide +kernel, by decide +kernel⟩, by decide⟩
theorem fl_X8_182 : tm_fl RX8 182 8 24 := ⟨_, _, _, _, cls_8, by decide, tm_mem 771 (by decide +kernel) rfl⟩
theorem fp_X8_182 : tm_fp RX8 182 8 24 .int := ⟨_, _, _, _, cls_8, by decide, tm_mem 771 (by decide +kernel) rfl, rfl, by decide +kernel⟩
theorem fl_X8_185 : tm_fl RX8 185 8 26 := ⟨_, _, _, _, cls_8, by decide, tm_mem 773 (by decide +kernel) rfl⟩
theorem fp_X8_185 : tm_fp RX8 185 8 26 .int := ⟨_, _, _, _, cls_8, by decide, tm_mem 773 (by decide +kernel) rfl, rfl, by decide +kernel⟩
theorem fl_X8_188 : tm_fl RX8 188 8 22 := ⟨_, _, _, _, cls_8, by decide, tm_mem 769 (by decide +kernel) rfl⟩
theorem fp_X8_188 : tm_fp RX8 188 8 22 .int := ⟨_, _, _, _, cls_8, by decide, tm_mem 769 (by decide +kernel) rfl, rfl, by decide +kernel⟩
theorem fl_X8_191 : tm_fl RX8 191 8 25 := ⟨_, _, _, _, cls_8, by decide, tm_mem 772 (by decide +kernel) rfl⟩
theorem fp_X8_191 : tm_fp RX8 191 8 25 .int := ⟨_, _, _, _, cls_8, by decide, tm_mem 772 (by decide +kernel) rfl, rfl, by decide +kernel⟩
theorem fl_X8_194 : tm_fl RX8 194 8 23 := ⟨_, _, _, _, cls_8, by decide, tm_mem 770 (by decide +kernel) rfl⟩
theorem fp_X8_194 : tm_fp RX8 194 8 23 .int := ⟨_, _, _, _, cls_8, by decide, tm_mem 770 (by decide +kernel) rfl, rfl, by decide +kernel⟩
theorem fl_X8_197 : tm_fl RX8 197 8 27 := ⟨_, _, _, _, cls_8, by decide, tm_mem 774 (by decide +kernel) rfl⟩
theorem fp_X8_197 : tm_fp RX8 197 8 27 .int := ⟨_, _, _, _, cls_8, by decide, tm_mem 774 (by decide +kernel) rfl, rfl, by decide +kernel⟩
theorem cv_X8_200 : tm_cv RX8 200 yX8_fills cX8_fills 4 none 1 := ⟨tm_mem 1009 (by decide +kernel) rfl, tm_mem 1011 (by decide +kernel) rfl, tm_mem 28 (by decide +kernel) rfl, tm_mem 65 (by decide +kernel) rfl, tm_mem 1012 (by decide +kernel) rfl, ⟨by decide +kernel, by decide +kernel, by decide +kernel⟩, by decide⟩
theorem cv_X8_204 : tm_cv RX8 204 yX8_isDressed cX8_isDressed 4 (some .boolean) 1 := ⟨tm_mem 1016 (by decide +kernel) rfl, tm_mem 1018 (by decide +kernel) rfl, tm_mem 29 (by decide +kernel) rfl, tm_mem 65 (by decide +kernel) rfl, tm_mem 1019 (by decide +kernel) rfl, ⟨by decide +kernel, by decide +kernel, by decide +kernel⟩, by decide⟩
theorem cv_X8_207 : tm_cv RX8 207 yX8_grinds cX8_grinds 5 none 1 := ⟨tm_mem 1020 (by decide +kernel) rfl, tm_mem 1022 (by decide +kernel) rfl, tm_mem 30 (by decide +kernel) rfl, tm_mem 65 (by decide +kernel) rfl, tm_mem 1023 (by decide +kernel) rfl, ⟨by decide +kernel, by decide +kernel, by decide +kernel⟩, by decide⟩
theorem cv_X8_210 : tm_cv RX8 210 yX8_goesBy cX8_goesBy 2 none 1 := ⟨tm_mem 1005 (by decide +kernel) rfl, tm_mem 1007 (by decide +kernel) rfl, tm_mem 27 (by decide +kernel) rfl, tm_mem 65 (by decide +kernel) rfl, tm_mem 1008 (by decide +kernel) rfl, ⟨by decide +kernel, by decide +kernel, by decide +kernel⟩, by decide⟩
theorem cv_X8_213 : tm_cv RX8 213 yX8_asTold cX8_asTold 2 none 0 := ⟨tm_mem 997 (by decide +kernel) rfl, tm_mem 999 (by decide +kernel) rfl, tm_mem 25 (by decide +kernel) rfl, tm_mem 65 (by decide +kernel) rfl, tm_mem 1000 (by decide +kernel) rfl, ⟨by decide +kernel, by decide +kernel, by decide +kernel⟩, by decide⟩
theorem cv_X8_216 : tm_cv RX8 216 yX8_runs cX8_runs 2 none 0 := ⟨tm_mem 1001 (by decide +kernel) rfl, tm_mem 1003 (by decide +kernel) rfl, tm_mem 26 (by decide +kernel) rfl, tm_mem 65 (by decide +kernel) rfl, tm_mem 1004 (by decide +kernel) rfl, ⟨by decide +kernel, by decide +kernel, by decide +kernel⟩, by decide⟩
theorem cv_X8_219 : tm_cv RX8 219 yX8_runsTold cX8_runsTold 1 none 0 := ⟨tm_mem 993 (by decide +kernel) rfl, tm_mem 995 (by decide +kernel) rfl, tm_mem 24 (by decide +kernel) rfl, tm_mem 65 (by decide +kernel) rfl, tm_mem 996 (by decide +kernel) rfl, ⟨by decide +kernel, by decide +kernel, by decide +kernel⟩, by decide⟩
theorem cv_X8_222 : tm_cv RX8 222 yX8_atOf cX8_atOf 3 (some .int) 2 := ⟨tm_mem 989 (by decide +kernel) rfl, tm_mem 991 (by decide +kernel) rfl, tm_mem 23 (by decide +kernel) rfl, tm_mem 65 (by decide +kernel) rfl, tm_mem 992 (by decide +kernel) rfl, ⟨by decide +kernel, by decide +kernel, by decide +kernel⟩, by decide⟩
theorem cv_X8_225 : tm_cv RX8 225 yX8_endsOf cX8_endsOf 2 (some .int) 1 := ⟨tm_mem 1028 (by decide +kernel) rfl, tm_mem 1030 (by decide +kernel) rfl, tm_mem 31 (by decide +kernel) rfl, tm_mem 65 (by decide +kernel) rfl, tm_mem 1031 (by decide +kernel) rfl, ⟨by decide +kernel, by decide +kernel, by decide +kernel⟩, by decide⟩
theorem cv_X8_228 : tm_cv RX8 228 yX8_isPaid cX8_isPaid 2 (some .boolean) 1 := ⟨tm_mem 1044 (by decide +kernel) rfl, tm_mem 1046 (by decide +kernel) rfl, tm_mem 34 (by decide +kernel) rfl, tm_mem 65 (by decide +kernel) rfl, tm_mem 1047 (by decide +kernel) rfl, ⟨by decide +kernel, by decide +kernel, by decide +kernel⟩, by decide⟩
theorem cv_X8_231 : tm_cv RX8 231 yX8_paidNow cX8_paidNow 3 (some .int) 0 := ⟨tm_mem 1040 (by decide +kernel) rfl, tm_mem 1042 (by decide +kernel) rfl, tm_mem 33 (by decide +kernel) rfl, tm_mem 65 (by decide +kernel) rfl, tm_mem 1043 (by decide +kernel) rfl, ⟨by decide +kernel, by decide +kernel, by decide +kernel⟩, by decide⟩
theorem cv_X8_234 : tm_cv RX8 234 yX8_paidOf cX8_paidOf 1 (some .int) 0 := ⟨tm_mem 1036 (by decide +kernel) rfl, tm_mem 1038 (by decide +kernel) rfl, tm_mem 32 (by decide +kernel) rfl, tm_mem 65 (by decide +kernel) rfl, tm_mem 1039 (by decide +kernel) rfl, ⟨by decide +kernel, by decide +kernel, by decide +kernel⟩, by decide⟩
theorem cv_X8_237 : tm_cv RX8 237 yX8_spiltOf cX8_spiltOf 1 (some .int) 0 := ⟨tm_mem 1052 (by decide +kernel) rfl, tm_mem 1054 (by decide +kernel) rfl, tm_mem 35 (by decide +kernel) rfl, tm_mem 65 (by decide +kernel) rfl, tm_mem 1055 (by decide +kernel) rfl, ⟨by decide +kernel, by decide +kernel, by decide +kernel⟩, by decide⟩
theorem cv_X8_240 : tm_cv RX8 240 yX8_idleOf cX8_idleOf 1 (some .int) 0 := ⟨tm_mem 1060 (by decide +kernel) rfl, tm_mem 1062 (by decide +kernel) rfl, tm_mem 36 (by decide +kernel) rfl, tm_mem 65 (by decide +kernel) rfl, tm_mem 1063 (by decide +kernel) rfl, ⟨by decide +kernel, by decide +kernel, by decide +kernel⟩, by decide⟩
theorem cv_X8_243 : tm_cv RX8 243 yX8_lateOf cX8_lateOf 3 (some .int) 0 := ⟨tm_mem 1068 (by decide +kernel) rfl, tm_mem 1070 (by decide +kernel) rfl, tm_mem 37 (by decide +kernel) rfl, tm_mem 65 (by decide +kernel) rfl, tm_mem 1071 (by decide +kernel) rfl, ⟨by decide +kernel, by decide +kernel, by decide +kernel⟩, by decide⟩
theorem cv_X8_246 : tm_cv RX8 246 yX8_nextRow cX8_nextRow 7 (some .boolean) 0 := ⟨tm_mem 1084 (by decide +kernel) rfl, tm_mem 1086 (by decide +kernel) rfl, tm_mem 40 (by decide +kernel) rfl, tm_mem 65 (by decide +kernel) rfl, tm_mem 1087 (by decide +kernel) rfl, ⟨by decide +kernel, by decide +kernel, by decide +kernel⟩, by decide⟩
theorem cv_X8_250 : tm_cv RX8 250 yX8_rowBy cX8_rowBy 5 (some .int) 0 := ⟨tm_mem 1080 (by decide +kernel) rfl, tm_mem 1082 (by decide +kernel) rfl, tm_mem 39 (by decide +kernel) rfl, tm_mem 65 (by decide +kernel) rfl, tm_mem 1083 (by decide +kernel) rfl, ⟨by decide +kernel, by decide +kernel, by decide +kernel⟩, by decide⟩
theorem cv_X8_253 : tm_cv RX8 253 yX8_rowOf cX8_rowOf 3 (some .int) 1 := ⟨tm_mem 1076 (by decide +kernel) rfl, tm_mem 1078 (by decide +kernel) rfl, tm_mem 38 (by decide +kernel) rfl, tm_mem 65 (by decide +kernel) rfl, tm_mem 1079 (by decide +kernel) rfl, ⟨by decide +kernel, by decide +kernel, by decide +kernel⟩, by decide⟩
theorem cv_X8_256 : tm_cv RX8 256 yX8_dressOf cX8_dressOf 5 (some .int) 1 := ⟨tm_mem 1092 (by decide +kernel) rfl, tm_mem 1094 (by decide +kernel) rfl, tm_mem 41 (by decide +kernel) rfl, tm_mem 65 (by decide +kernel) rfl, tm_mem 1095 (by decide +kernel) rfl, ⟨by decide +kernel, by decide +kernel, by decide +kernel⟩, by decide⟩
theorem cv_X8_259 : tm_cv RX8 259 yX8_leastNow cX8_leastNow 3 (some .int) 0 := ⟨tm_mem 1100 (by decide +kernel) rfl, tm_mem 1102 (by decide +kernel) rfl, tm_mem 42 (by decide +kernel) rfl, tm_mem 65 (by decide +kernel) rfl, tm_mem 1103 (by decide +kernel) rfl, ⟨by decide +kernel, by decide +kernel, by decide +kernel⟩, by decide⟩
theorem cv_X8_262 : tm_cv RX8 262 yX8_sendOf cX8_sendOf 6 (some .int) 1 := ⟨tm_mem 1108 (by decide +kernel) rfl, tm_mem 1110 (by decide +kernel) rfl, tm_mem 43 (by decide +kernel) rfl, tm_mem 65 (by decide +kernel) rfl, tm_mem 1111 (by decide +kernel) rfl, ⟨by decide +kernel, by decide +kernel, by decide +kernel⟩, by decide⟩
theorem fl_X8_265 : tm_fl RX8 265 8 35 := ⟨_, _, _, _, cls_8, by decide, tm_mem 782 (by decide +kernel) rfl⟩
theorem fp_X8_265 : tm_fp RX8 265 8 35 .int := ⟨_, _, _, _, cls_8, by decide, tm_mem 782 (by decide +kernel) rfl, rfl, by decide +kernel⟩
theorem cv_X8_268 : tm_cv RX8 268 yX8_isSeen cX8_isSeen 3 (some .boolean) 0 := ⟨tm_mem 1128 (by decide +kernel) rfl, tm_mem 1130 (by decide +kernel) rfl, tm_mem 45 (by decide +kernel) rfl, tm_mem 65 (by decide +kernel) rfl, tm_mem 1131 (by decide +kernel) rfl, ⟨by decide +kernel, by decide +kernel, by decide +kernel⟩, by decide⟩
theorem cv_X8_271 : tm_cv RX8 271 yX8_neverNow cX8_neverNow 3 (some .int) 0 := ⟨tm_mem 1124 (by decide +kernel) rfl, tm_mem 1126 (by decide +kernel) rfl, tm_mem 44 (by decide +kernel) rfl, tm_mem 65 (by decide +kernel) rfl, tm_mem 1127 (by decide +kernel) rfl, ⟨by decide +kernel, by decide +kernel, by decide +kernel⟩, by decide⟩
theorem cv_X8_274 : tm_cv RX8 274 yX8_flowsBy cX8_flowsBy 3 (some .int) 0 := ⟨tm_mem 1136 (by decide +kernel) rfl, tm_mem 1138 (by decide +kernel) rfl, tm_mem 46 (by decide +kernel) rfl, tm_mem 65 (by decide +kernel) rfl, tm_mem 1139 (by decide +kernel) rfl, ⟨by decide +kernel, by decide +kernel, by decide +kernel⟩, by decide⟩
theorem cv_X8_277 : tm_cv RX8 277 yX8_startsBy cX8_startsBy 4 (some .int) 0 := ⟨tm_mem 1140 (by decide +kernel) rfl, tm_mem 1142 (by decide +kernel) rfl, tm_mem 47 (by decide +kernel) rfl, tm_mem 65 (by decide +kernel) rfl, tm_mem 1143 (by decide +kernel) rfl, ⟨by decide +kernel, by decide +kernel, by decide +kernel⟩, by decide⟩
theorem cv_X8_280 : tm_cv RX8 280 yX8_askNow cX8_askNow 9 (some .int) 0 := ⟨tm_mem 1148 (by decide +kernel) rfl, tm_mem 1150 (by decide +kernel) rfl, tm_mem 48 (by decide +kernel) rfl, tm_mem 65 (by decide +kernel) rfl, tm_mem 1151 (by decide +kernel) rfl, ⟨by decide +kernel, by decide +kernel, by decide +kernel⟩, by decide⟩
theorem cs_X8_283 : tm_cs RX8 283 yX8_lowest cX8_lowest 11 (some .long) 3 := ⟨tm_mem 1160 (by decide +kernel) rfl, tm_mem 1161 (by decide +kernel) rfl, tm_mem 65 (by decide +kernel) rfl, tm_mem 1162 (by decide +kernel) rfl, ⟨by decide +kernel, by decide +kernel, by decide +kernel⟩, by decide⟩
theorem cv_X8_287 : tm_cv RX8 287 yX8_showerOf cX8_showerOf 10 (some .long) 3 := ⟨tm_mem 1156 (by decide +kernel) rfl, tm_mem 1158 (by decide +kernel) rfl, tm_mem 49 (by decide +kernel) rfl, tm_mem 65 (by decide +kernel) rfl, tm_mem 1159 (by decide +kernel) rfl, ⟨by decide +kernel, by decide +kernel, by decide +kernel⟩, by decide⟩
theorem cs_X8_291 : tm_cs RX8 291 yX8_no cX8_no 1 (some .long) 1 := ⟨tm_mem 1163 (by decide +kernel) rfl, tm_mem 1164 (by decide +kernel) rfl, tm_mem 65 (by decide +kernel) rfl, tm_mem 1165 (by decide +kernel) rfl, ⟨by decide +kernel, by decide +kernel, by decide +kernel⟩, by decide⟩
theorem kc_X8_295 : Cond.constant RX8 295 (1103515245) ∈ tm_tbl := tm_mem 1175 (by decide +kernel) rfl
theorem cv_X8_296 : tm_cv RX8 296 yX8_moonOf cX8_moonOf 6 (some .int) 3 := ⟨tm_mem 1171 (by decide +kernel) rfl, tm_mem 1173 (by decide +kernel) rfl, tm_mem 50 (by decide +kernel) rfl, tm_mem 65 (by decide +kernel) rfl, tm_mem 1174 (by decide +kernel) rfl, ⟨by decide +kernel, by decide +kernel, by decide +kernel⟩, by decide⟩
theorem fl_X8_300 : tm_fl RX8 300 8 44 := ⟨_, _, _, _, cls_8, by decide, tm_mem 791 (by decide +kernel) rfl⟩
theorem fp_X8_300 : tm_fp RX8 300 8 44 .int := ⟨_, _, _, _, cls_8, by decide, tm_mem 791 (by decide +kernel) rfl, rfl, by decide +kernel⟩
theorem cv_X8_303 : tm_cv RX8 303 yX8_lacks cX8_lacks 4 (some .int) 3 := ⟨tm_mem 1188 (by decide +kernel) rfl, tm_mem 1190 (by decide +kernel) rfl, tm_mem 51 (by decide +kernel) rfl, tm_mem 65 (by decide +kernel) rfl, tm_mem 1191 (by decide +kernel) rfl, ⟨by decide +kernel, by decide +kernel, by decide +kernel⟩, by decide⟩
theorem cv_X8_306 : tm_cv RX8 306 yX8_keep cX8_keep 4 none 3 := ⟨tm_mem 1192 (by decide +kernel) rfl, tm_mem 1194 (by decide +kernel) rfl, tm_mem 52 (by decide +kernel) rfl, tm_mem 65 (by decide +kernel) rfl, tm_mem 1195 (by decide +kernel) rfl, ⟨by decide +kernel, by decide +kernel, by decide +kernel⟩, by decide⟩
theorem kc_X8_310 : Cond.constant RX8 310 (-2147483648) ∈ tm_tbl := tm_mem 1200 (by decide +kernel) rfl
theorem cv_X8_311 : tm_cv RX8 311 yX8_sumOf cX8_sumOf 2 (some .int) 1 := ⟨tm_mem 1213 (by decide +kernel) rfl, tm_mem 1215 (by decide +kernel) rfl, tm_mem 53 (by decide +kernel) rfl, tm_mem 65 (by decide +kernel) rfl, tm_mem 1216 (by decide +kernel) rfl, ⟨by decide +kernel, by decide +kernel, by decide +kernel⟩, by decide⟩
theorem kl_X8_314 : Cond.constantLong RX8 314 (31) ∈ tm_tbl := tm_mem 1222 (by decide +kernel) rfl
theorem kl_X8_316 : Cond.constantLong RX8 316 (17) ∈ tm_tbl := tm_mem 1221 (by decide +kernel) rfl
theorem cv_X8_318 : tm_cv RX8 318 yX8_count cX8_count 2 (some .int) 1 := ⟨tm_mem 1223 (by decide +kernel) rfl, tm_mem 1210 (by decide +kernel) rfl, tm_mem 1211 (by decide +kernel) rfl, tm_mem 65 (by decide +kernel) rfl, tm_mem 1212 (by decide +kernel) rfl, ⟨by decide +kernel, by decide +kernel, by decide +kernel⟩, by decide⟩
theorem cv_X8_321 : tm_cv RX8 321 yX8_orderDigest cX8_orderDigest 7 (some .long) 2 := ⟨tm_mem 1224 (by decide +kernel) rfl, tm_mem 1226 (by decide +kernel) rfl, tm_mem 54 (by decide +kernel) rfl, tm_mem 65 (by decide +kernel) rfl, tm_mem 1227 (by decide +kernel) rfl, ⟨by decide +kernel, by decide +kernel, by decide +kernel⟩, by decide⟩
theorem kc_J6_265 : Cond.constant RJ6 265 (1431655765) ∈ tm_tbl := tm_mem 651 (by decide +kernel) rfl
theorem kc_J6_266 : Cond.constant RJ6 266 (858993459) ∈ tm_tbl := tm_mem 652 (by decide +kernel) rfl
theorem kc_J6_267 : Cond.constant RJ6 267 (252645135) ∈ tm_tbl := tm_mem 653 (by decide +kernel) rfl
end
section
/-! more rows: fewer locals, a renamed top, rows filled -/
theorem tv_sub {E : tm_Ev} {X : tm_X} {Q : State → Prop} {nL pc : Nat} {lv lv1 : List (Nat × Value)} {st : List Value} {μ : tm_M} (ks : List Nat) (hp : lv_pick lv ks = lv1) (k : tm_V E X Q nL pc lv1 st μ) : tm_V E X Q nL pc lv st μ := by
  intro ls H locs hl hP hS
  exact k ls H locs (lv_sub hl ks hp) hP hS
theorem tv_top {E : tm_Ev} {X : tm_X} {Q : State → Prop} {nL pc : Nat} {lv : List (Nat × Value)} {st : List Value} {μ : tm_M} {z : Int} (y : Int) (h : z = y) (k : tm_V E X Q nL pc lv (tm_i y :: st) μ) : tm_V E X Q nL pc lv (tm_i z :: st) μ := by
  subst h
  exact k
theorem tv_topl {E : tm_Ev} {X : tm_X} {Q : State → Prop} {nL pc : Nat} {lv : List (Nat × Value)} {st : List Value} {μ : tm_M} {z : Int} (y : Int) (h : z = y) (k : tm_V E X Q nL pc lv (tm_l y :: st) μ) : tm_V E X Q nL pc lv (tm_l z :: st) μ := by
  subst h
  exact k
theorem tv_mem {E : tm_Ev} {X : tm_X} {Q : State → Prop} {nL pc : Nat} {lv : List (Nat × Value)} {st : List Value} {μ : tm_M} (μ1 : tm_M) (h : μ = μ1) (k : tm_V E X Q nL pc lv st μ1) : tm_V E X Q nL pc lv st μ := by
  subst h
  exact k
/-- the row k holds v at its first n places -/
def tm_fill (μ : tm_M) (k n : Nat) (v : Int) : tm_M := fun a b => if a = k then (if b < n then v else μ a b) else μ a b
theorem tm_fill_0 (μ : tm_M) (k : Nat) (v : Int) : tm_fill μ k 0 v = μ := by
  funext a b
  simp [tm_fill]
theorem tm_fill_s (μ : tm_M) (k n : Nat) (v : Int) : tm_up (tm_fill μ k n v) k n v = tm_fill μ k (n + 1) v := by
  funext a b
  unfold tm_up tm_fill
  by_cases ha : a = k
  · simp only [ha, if_true]
    by_cases hb : b = n
    · simp [hb]
    · by_cases h2 : b < n
      · simp [hb, h2, Nat.lt_succ_of_lt h2]
      · have : ¬ b < n + 1 := by omega
        simp [hb, h2, this]
  · simp [ha]
theorem tm_fill_k {μ : tm_M} {k n a b : Nat} {v : Int} (h : a ≠ k) : tm_fill μ k n v a b = μ a b := by simp [tm_fill, h]
theorem tm_fill_f {μ : tm_M} {k n a : Nat} {v : Int} (h : a ≠ k) : tm_fill μ k n v a = μ a := by funext b; exact tm_fill_k h
theorem tm_fill_in {μ : tm_M} {k n b : Nat} {v : Int} (h : b < n) : tm_fill μ k n v k b = v := by simp [tm_fill, h]
theorem tm_fill_out {μ : tm_M} {k n b : Nat} {v : Int} (h : n ≤ b) : tm_fill μ k n v k b = μ k b := by
  have : ¬ b < n := by omega
  simp [tm_fill, this]
theorem tm_cp_k {μ : tm_M} {k0 k sp dp n a b : Nat} (h : a ≠ k) : tm_cp μ k0 k sp dp n a b = μ a b := by simp [tm_cp, h]
theorem tm_cp_f {μ : tm_M} {k0 k sp dp n a : Nat} (h : a ≠ k) : tm_cp μ k0 k sp dp n a = μ a := by funext b; exact tm_cp_k h
theorem tm_cp_in {μ : tm_M} {k0 k n b : Nat} (h : b < n) : tm_cp μ k0 k 0 0 n k b = μ k0 b := by simp [tm_cp, h]
/-! Math -/
def tm_mmax (own : String) (ix : Nat) : Prop := Cond.methodLink own ix Lib.Math.max.name ∈ tm_tbl ∧ Cond.static Lib.Math.max.name ∈ tm_tbl ∧ Cond.initialized "java/lang/Math" ∈ tm_tbl ∧ Cond.code Lib.Math.max.name Lib.Math.max.code 2 (some .int) ∈ tm_tbl
theorem tv_mmax {E : tm_Ev} {X : tm_X} {Q : State → Prop} {own : String} {cc : ByteArray} {nL : Nat} {ret : Option FieldType} {d pc : Nat} {lv : List (Nat × Value)} {st : List Value} {μ : tm_M} {ix : Nat} {a b : Int} (C : tm_C E X own cc nL ret (d + 1)) (hf : tm_mmax own ix) (ha : -2147483648 ≤ a ∧ a ≤ 2147483647) (hb : -2147483648 ≤ b ∧ b ≤ 2147483647) (hd : decode cc pc = .ok (.invokestatic ix, 3)) (hr : (st.map fun v => v.category).sum ≤ 8) (k : tm_V E X Q nL (pc + 3) lv (tm_i (max a b) :: st) μ) : tm_V E X Q nL pc lv (tm_i b :: tm_i a :: st) μ := by
  intro ls H locs hl hP hS
  have k := k ls H locs hl hP hS
  obtain ⟨f1, f2, f3, f4⟩ := hf
  have hT := C.2.2.2.2.1
  refine va_mmax C.1 C.2.1 (by rw [hl.1]; exact C.2.2.1) C.2.2.2.1 (hT _ f1) (hT _ f2) (hT _ f3) (hT _ f4) (by rw [C.2.2.2.2.2.2.1]; exact Nat.le_add_left 1 d) (by rw [C.2.2.2.2.2.2.1]; show _ + 13 ≤ 40 * (d + 1); omega) (Nat.zero_le _) (Nat.zero_le _) hd ?_
  have e : (if Int32.ofInt a < Int32.ofInt b then Int32.ofInt b else Int32.ofInt a) = Int32.ofInt (max a b) := by
    by_cases h : a < b
    · rw [if_pos ((tm_lti ha hb).mpr h)]
      congr 1
      omega
    · rw [if_neg (fun z => h ((tm_lti ha hb).mp z))]
      congr 1
      omega
  rw [e]
  exact k
def tm_mmin (own : String) (ix : Nat) : Prop := Cond.methodLink own ix Lib.Math.min.name ∈ tm_tbl ∧ Cond.static Lib.Math.min.name ∈ tm_tbl ∧ Cond.initialized "java/lang/Math" ∈ tm_tbl ∧ Cond.code Lib.Math.min.name Lib.Math.min.code 2 (some .int) ∈ tm_tbl
theorem tv_mmin {E : tm_Ev} {X : tm_X} {Q : State → Prop} {own : String} {cc : ByteArray} {nL : Nat} {ret : Option FieldType} {d pc : Nat} {lv : List (Nat × Value)} {st : List Value} {μ : tm_M} {ix : Nat} {a b : Int} (C : tm_C E X own cc nL ret (d + 1)) (hf : tm_mmin own ix) (ha : -2147483648 ≤ a ∧ a ≤ 2147483647) (hb : -2147483648 ≤ b ∧ b ≤ 2147483647) (hd : decode cc pc = .ok (.invokestatic ix, 3)) (hr : (st.map fun v => v.category).sum ≤ 8) (k : tm_V E X Q nL (pc + 3) lv (tm_i (min a b) :: st) μ) : tm_V E X Q nL pc lv (tm_i b :: tm_i a :: st) μ := by
  intro ls H locs hl hP hS
  have k := k ls H locs hl hP hS
  obtain ⟨f1, f2, f3, f4⟩ := hf
  have hT := C.2.2.2.2.1
  refine va_mmin C.1 C.2.1 (by rw [hl.1]; exact C.2.2.1) C.2.2.2.1 (hT _ f1) (hT _ f2) (hT _ f3) (hT _ f4) (by rw [C.2.2.2.2.2.2.1]; exact Nat.le_add_left 1 d) (by rw [C.2.2.2.2.2.2.1]; show _ + 13 ≤ 40 * (d + 1); omega) (Nat.zero_le _) (Nat.zero_le _) hd ?_
  have e : (if Int32.ofInt b < Int32.ofInt a then Int32.ofInt b else Int32.ofInt a) = Int32.ofInt (min a b) := by
    by_cases h : b < a
    · rw [if_pos ((tm_lti hb ha).mpr h)]
      congr 1
      omega
    · rw [if_neg (fun z => h ((tm_lti hb ha).mp z))]
      congr 1
      omega
  rw [e]
  exact k
theorem mx_X7_299 : tm_mmin RX7 299 := ⟨tm_mem 711 (by decide +kernel) rfl, tm_mem 458 (by decide +kernel) rfl, tm_mem 58 (by decide +kernel) rfl, tm_mem 459 (by decide +kernel) rfl⟩
theorem mx_X7_382 : tm_mmax RX7 382 := ⟨tm_mem 635 (by decide +kernel) rfl, tm_mem 85 (by decide +kernel) rfl, tm_mem 58 (by decide +kernel) rfl, tm_mem 86 (by decide +kernel) rfl⟩
theorem mx_X2_7 : tm_mmax RX2 7 := ⟨tm_mem 84 (by decide +kernel) rfl, tm_mem 85 (by decide +kernel) rfl, tm_mem 58 (by decide +kernel) rfl, tm_mem 86 (by decide +kernel) rfl⟩
theorem mx_X4_33 : tm_mmax RX4 33 := ⟨tm_mem 456 (by decide +kernel) rfl, tm_mem 85 (by decide +kernel) rfl, tm_mem 58 (by decide +kernel) rfl, tm_mem 86 (by decide +kernel) rfl⟩
theorem mx_X4_39 : tm_mmin RX4 39 := ⟨tm_mem 457 (by decide +kernel) rfl, tm_mem 458 (by decide +kernel) rfl, tm_mem 58 (by decide +kernel) rfl, tm_mem 459 (by decide +kernel) rfl⟩
end
section
/-- whether v is from lo to hi -/
theorem c7_within (E : tm_Ev) (l : Launch) (μ : tm_M) (v lo hi : Int) (hv : -2147483648 ≤ v ∧ v ≤ 2147483647) (hlo : -2147483648 ≤ lo ∧ lo ≤ 2147483647) (hhi : -2147483648 ≤ hi ∧ hi ≤ 2147483647) : tm_Met E l yX7_within cX7_within 3 (some .boolean) 0 [tm_i v, tm_i lo, tm_i hi] μ (tm_pi (fun z μ' => z = (if lo ≤ v ∧ v ≤ hi then 1 else 0) ∧ μ' = μ)) := by
  refine tm_intro [(0, tm_i v), (1, tm_i lo), (2, tm_i hi)] rfl (by decide +kernel) (Nat.le_of_ble_eq_true rfl) ?_
  intro X hX C
  subst hX
  refine tv_iload_n (pc := 0) 0 C dX7_within_0 rfl rfl ?_
  refine tv_iload_n (pc := 1) 1 C dX7_within_1 rfl rfl ?_
  refine tv_icmp_lt (pc := 2) 14 C dX7_within_2 (by decide) (by omega) (by omega) (fun h2 => ?_) (fun h2 => ?_)
  · skip
    refine tv_iconst (pc := 14) C dX7_within_14 ?_
    refine tv_zret (pc := 15) C dX7_within_15 (by omega) ?_
    exact ⟨_, rfl, by split <;> omega, rfl⟩
  · skip
    refine tv_iload_n (pc := 5) 0 C dX7_within_5 rfl rfl ?_
    refine tv_iload_n (pc := 6) 2 C dX7_within_6 rfl rfl ?_
    refine tv_icmp_gt (pc := 7) 14 C dX7_within_7 (by decide) (by omega) (by omega) (fun h7 => ?_) (fun h7 => ?_)
    · skip
      refine tv_iconst (pc := 14) C dX7_within_14 ?_
      refine tv_zret (pc := 15) C dX7_within_15 (by omega) ?_
      exact ⟨_, rfl, by split <;> omega, rfl⟩
    · skip
      refine tv_iconst (pc := 10) C dX7_within_10 ?_
      refine tv_goto (pc := 11) 15 C dX7_within_11 (by decide) ?_
      refine tv_zret (pc := 15) C dX7_within_15 (by omega) ?_
      exact ⟨_, rfl, by split <;> omega, rfl⟩
/-- whether v is from lo to hi -/
theorem c8_in (E : tm_Ev) (l : Launch) (μ : tm_M) (v lo hi : Int) (hv : -2147483648 ≤ v ∧ v ≤ 2147483647) (hlo : -2147483648 ≤ lo ∧ lo ≤ 2147483647) (hhi : -2147483648 ≤ hi ∧ hi ≤ 2147483647) : tm_Met E l yX8_in cX8_in 3 (some .boolean) 0 [tm_i v, tm_i lo, tm_i hi] μ (tm_pi (fun z μ' => z = (if lo ≤ v ∧ v ≤ hi then 1 else 0) ∧ μ' = μ)) := by
  refine tm_intro [(0, tm_i v), (1, tm_i lo), (2, tm_i hi)] rfl (by decide +kernel) (Nat.le_of_ble_eq_true rfl) ?_
  intro X hX C
  subst hX
  refine tv_iload_n (pc := 0) 0 C dX8_in_0 rfl rfl ?_
  refine tv_iload_n (pc := 1) 1 C dX8_in_1 rfl rfl ?_
  refine tv_icmp_lt (pc := 2) 14 C dX8_in_2 (by decide) (by omega) (by omega) (fun h2 => ?_) (fun h2 => ?_)
  · skip
    refine tv_iconst (pc := 14) C dX8_in_14 ?_
    refine tv_zret (pc := 15) C dX8_in_15 (by omega) ?_
    exact ⟨_, rfl, by split <;> omega, rfl⟩
  · skip
    refine tv_iload_n (pc := 5) 0 C dX8_in_5 rfl rfl ?_
    refine tv_iload_n (pc := 6) 2 C dX8_in_6 rfl rfl ?_
    refine tv_icmp_gt (pc := 7) 14 C dX8_in_7 (by decide) (by omega) (by omega) (fun h7 => ?_) (fun h7 => ?_)
    · skip
      refine tv_iconst (pc := 14) C dX8_in_14 ?_
      refine tv_zret (pc := 15) C dX8_in_15 (by omega) ?_
      exact ⟨_, rfl, by split <;> omega, rfl⟩
    · skip
      refine tv_iconst (pc := 10) C dX8_in_10 ?_
      refine tv_goto (pc := 11) 15 C dX8_in_11 (by decide) ?_
      refine tv_zret (pc := 15) C dX8_in_15 (by omega) ?_
      exact ⟨_, rfl, by split <;> omega, rfl⟩
theorem c7_isHour (E : tm_Ev) (l : Launch) (μ : tm_M) (v : Int) (hv : -2147483648 ≤ v ∧ v ≤ 2147483647) : tm_Met E l yX7_isHour cX7_isHour 1 (some .boolean) 1 [tm_i v] μ (tm_pi (fun z μ' => z = (if 0 ≤ v ∧ v ≤ 39 then 1 else 0) ∧ μ' = μ)) := by
  refine tm_intro [(0, tm_i v)] rfl (by decide +kernel) (Nat.le_of_ble_eq_true rfl) ?_
  intro X hX C
  subst hX
  refine tv_iload_n (pc := 0) 0 C dX7_isHour_0 rfl rfl ?_
  refine tv_iconst (pc := 1) C dX7_isHour_1 ?_
  refine tv_bipush (pc := 2) C dX7_isHour_2 (by decide) ?_
  refine tv_callS (pc := 4) [tm_i v, tm_i 0, tm_i 39] [] C (c7_within E _ μ v 0 39 (by omega) (by omega) (by omega)) cs_X7_97 (by decide) rfl (Nat.le_of_ble_eq_true rfl) rfl dX7_isHour_4 (tm_kp ?_)
  refine tv_zret (pc := 7) C dX7_isHour_7 (by omega) ?_
  exact ⟨_, rfl, rfl, rfl⟩
theorem c7_isSheet (E : tm_Ev) (l : Launch) (μ : tm_M) (v : Int) (hv : -2147483648 ≤ v ∧ v ≤ 2147483647) : tm_Met E l yX7_isSheet cX7_isSheet 1 (some .boolean) 1 [tm_i v] μ (tm_pi (fun z μ' => z = (if 0 ≤ v ∧ v ≤ 3 then 1 else 0) ∧ μ' = μ)) := by
  refine tm_intro [(0, tm_i v)] rfl (by decide +kernel) (Nat.le_of_ble_eq_true rfl) ?_
  intro X hX C
  subst hX
  refine tv_iload_n (pc := 0) 0 C dX7_isSheet_0 rfl rfl ?_
  refine tv_iconst (pc := 1) C dX7_isSheet_1 ?_
  refine tv_iconst (pc := 2) C dX7_isSheet_2 ?_
  refine tv_callS (pc := 3) [tm_i v, tm_i 0, tm_i 3] [] C (c7_within E _ μ v 0 3 (by omega) (by omega) (by omega)) cs_X7_97 (by decide) rfl (Nat.le_of_ble_eq_true rfl) rfl dX7_isSheet_3 (tm_kp ?_)
  refine tv_zret (pc := 6) C dX7_isSheet_6 (by omega) ?_
  exact ⟨_, rfl, rfl, rfl⟩
theorem c7_isForm (E : tm_Ev) (l : Launch) (μ : tm_M) (v : Int) (hv : -2147483648 ≤ v ∧ v ≤ 2147483647) : tm_Met E l yX7_isForm cX7_isForm 1 (some .boolean) 1 [tm_i v] μ (tm_pi (fun z μ' => z = (if 0 ≤ v ∧ v ≤ 2 then 1 else 0) ∧ μ' = μ)) := by
  refine tm_intro [(0, tm_i v)] rfl (by decide +kernel) (Nat.le_of_ble_eq_true rfl) ?_
  intro X hX C
  subst hX
  refine tv_iload_n (pc := 0) 0 C dX7_isForm_0 rfl rfl ?_
  refine tv_iconst (pc := 1) C dX7_isForm_1 ?_
  refine tv_iconst (pc := 2) C dX7_isForm_2 ?_
  refine tv_callS (pc := 3) [tm_i v, tm_i 0, tm_i 2] [] C (c7_within E _ μ v 0 2 (by omega) (by omega) (by omega)) cs_X7_97 (by decide) rfl (Nat.le_of_ble_eq_true rfl) rfl dX7_isForm_3 (tm_kp ?_)
  refine tv_zret (pc := 6) C dX7_isForm_6 (by omega) ?_
  exact ⟨_, rfl, rfl, rfl⟩
theorem c8_isText (E : tm_Ev) (l : Launch) (μ : tm_M) (v : Int) (hv : -2147483648 ≤ v ∧ v ≤ 2147483647) : tm_Met E l yX8_isText cX8_isText 1 (some .boolean) 1 [tm_i v] μ (tm_pi (fun z μ' => z = (if 0 ≤ v ∧ v ≤ 1 then 1 else 0) ∧ μ' = μ)) := by
  refine tm_intro [(0, tm_i v)] rfl (by decide +kernel) (Nat.le_of_ble_eq_true rfl) ?_
  intro X hX C
  subst hX
  refine tv_iload_n (pc := 0) 0 C dX8_isText_0 rfl rfl ?_
  refine tv_iconst (pc := 1) C dX8_isText_1 ?_
  refine tv_iconst (pc := 2) C dX8_isText_2 ?_
  refine tv_callS (pc := 3) [tm_i v, tm_i 0, tm_i 1] [] C (c8_in E _ μ v 0 1 (by omega) (by omega) (by omega)) cs_X8_94 (by decide) rfl (Nat.le_of_ble_eq_true rfl) rfl dX8_isText_3 (tm_kp ?_)
  refine tv_zret (pc := 6) C dX8_isText_6 (by omega) ?_
  exact ⟨_, rfl, rfl, rfl⟩
theorem c8_isHour (E : tm_Ev) (l : Launch) (μ : tm_M) (v : Int) (hv : -2147483648 ≤ v ∧ v ≤ 2147483647) : tm_Met E l yX8_isHour cX8_isHour 1 (some .boolean) 1 [tm_i v] μ (tm_pi (fun z μ' => z = (if 0 ≤ v ∧ v ≤ 39 then 1 else 0) ∧ μ' = μ)) := by
  refine tm_intro [(0, tm_i v)] rfl (by decide +kernel) (Nat.le_of_ble_eq_true rfl) ?_
  intro X hX C
  subst hX
  refine tv_iload_n (pc := 0) 0 C dX8_isHour_0 rfl rfl ?_
  refine tv_iconst (pc := 1) C dX8_isHour_1 ?_
  refine tv_bipush (pc := 2) C dX8_isHour_2 (by decide) ?_
  refine tv_callS (pc := 4) [tm_i v, tm_i 0, tm_i 39] [] C (c8_in E _ μ v 0 39 (by omega) (by omega) (by omega)) cs_X8_94 (by decide) rfl (Nat.le_of_ble_eq_true rfl) rfl dX8_isHour_4 (tm_kp ?_)
  refine tv_zret (pc := 7) C dX8_isHour_7 (by omega) ?_
  exact ⟨_, rfl, rfl, rfl⟩
theorem c8_isSheet (E : tm_Ev) (l : Launch) (μ : tm_M) (v : Int) (hv : -2147483648 ≤ v ∧ v ≤ 2147483647) : tm_Met E l yX8_isSheet cX8_isSheet 1 (some .boolean) 1 [tm_i v] μ (tm_pi (fun z μ' => z = (if 0 ≤ v ∧ v ≤ 3 then 1 else 0) ∧ μ' = μ)) := by
  refine tm_intro [(0, tm_i v)] rfl (by decide +kernel) (Nat.le_of_ble_eq_true rfl) ?_
  intro X hX C
  subst hX
  refine tv_iload_n (pc := 0) 0 C dX8_isSheet_0 rfl rfl ?_
  refine tv_iconst (pc := 1) C dX8_isSheet_1 ?_
  refine tv_iconst (pc := 2) C dX8_isSheet_2 ?_
  refine tv_callS (pc := 3) [tm_i v, tm_i 0, tm_i 3] [] C (c8_in E _ μ v 0 3 (by omega) (by omega) (by omega)) cs_X8_94 (by decide) rfl (Nat.le_of_ble_eq_true rfl) rfl dX8_isSheet_3 (tm_kp ?_)
  refine tv_zret (pc := 6) C dX8_isSheet_6 (by omega) ?_
  exact ⟨_, rfl, rfl, rfl⟩
end
section
theorem l_fill {E : tm_Ev} {X : tm_X} (C : tm_C E X yJ7_fill_53178.cls cJ7_fill_53178 4 none 0) (μ0 : tm_M) (k n : Nat) (v : Int) (hk : tm_tm[k]? = some (1, n, [])) (hn : n ≤ 2000) (post : Option Value → tm_M → Prop) (hpost : post none (tm_fill μ0 k n v)) : ∀ (f i : Nat) (x : Int), x = i → i ≤ n → n - i < f → tm_V E X (tm_Q E X post) 4 5 [(2, tm_i x), (3, tm_i ((n : Nat) : Int)), (0, .ref (E.2.1 k)), (1, tm_i v)] [] (tm_fill μ0 k i v) := by
  intro f
  induction f with
  | zero => intro i x hx hi hf; omega
  | succ f ih =>
    intro i x hx hi hf
    refine tv_iload_n (pc := 5) 0 C dJ7_fill_53178_5 rfl rfl ?_
    refine tv_iload_n (pc := 6) 1 C dJ7_fill_53178_6 rfl rfl ?_
    refine tv_icmp_ge (pc := 7) 20 C dJ7_fill_53178_7 (by decide) (by omega) (by omega) (fun h7 => ?_) (fun h7 => ?_)
    · skip
      refine tv_vret (pc := 20) C dJ7_fill_53178_20 ?_
      have hin : i = n := by omega
      subst hin
      exact hpost
    · skip
      refine tv_aload_n (pc := 10) 2 C dJ7_fill_53178_10 rfl rfl ?_
      refine tv_iload_n (pc := 11) 0 C dJ7_fill_53178_11 rfl rfl ?_
      refine tv_iload_n (pc := 12) 3 C dJ7_fill_53178_12 rfl rfl ?_
      refine tv_iast (pc := 13) (j := i) C hk dJ7_fill_53178_13 (by omega) (by omega) ?_
      refine tv_iinc (pc := 14) 0 [(2, tm_i (x + 1)), (3, tm_i (n : Nat)), (0, .ref (E.2.1 k)), (1, tm_i v)] C dJ7_fill_53178_14 rfl (by decide) rfl ?_
      refine tv_goto (pc := 17) 5 C dJ7_fill_53178_17 (by decide) ?_
      refine tv_sub (lv1 := [(2, tm_i (x + 1)), (3, tm_i (n : Nat)), (0, .ref (E.2.1 k)), (1, tm_i v)]) [0, 1, 2, 3] rfl ?_
      rw [tm_fill_s]
      exact ih (i + 1) (x + 1) (by omega) (by omega) (by omega)
/-- Arrays.fill of ints -/
theorem cJ_fill (E : tm_Ev) (l : Launch) (μ : tm_M) (k n : Nat) (v : Int) (hk : tm_tm[k]? = some (1, n, [])) : tm_Met E l yJ7_fill_53178 cJ7_fill_53178 4 none 0 [.ref (E.2.1 k), tm_i v] μ (tm_pv (fun μ' => μ' = tm_fill μ k n v)) := by
  refine tm_intro [(0, .ref (E.2.1 k)), (1, tm_i v)] rfl (by decide +kernel) (Nat.le_of_ble_eq_true rfl) ?_
  intro X hX C
  subst hX
  refine tv_iconst (pc := 0) C dJ7_fill_53178_0 ?_
  refine tv_istore_n (pc := 1) [(2, tm_i 0), (0, .ref (E.2.1 k)), (1, tm_i v)] C dJ7_fill_53178_1 rfl (by decide) rfl ?_
  refine tv_aload_n (pc := 2) 1 C dJ7_fill_53178_2 rfl rfl ?_
  refine tv_alen (pc := 3) 0 C hk rfl rfl rfl dJ7_fill_53178_3 ?_
  refine tv_istore_n (pc := 4) [(3, tm_i (n : Nat)), (2, tm_i 0), (0, .ref (E.2.1 k)), (1, tm_i v)] C dJ7_fill_53178_4 rfl (by decide) rfl ?_
  refine tv_sub (lv1 := [(2, tm_i 0), (3, tm_i (n : Nat)), (0, .ref (E.2.1 k)), (1, tm_i v)]) [1, 0, 2, 3] rfl ?_
  refine tv_mem (tm_fill μ k 0 v) (tm_fill_0 μ k v).symm ?_
  exact l_fill C μ k n v hk (tm_n hk) _ ⟨rfl, rfl⟩ (n + 1) 0 0 rfl (by omega) (by omega)
theorem c2_isFull (E : tm_Ev) (l : Launch) (μ : tm_M) (k k1 n : Nat) (hk : tm_tm[k]? = some (0, 2, [some k1, none])) (hk1 : tm_tm[k1]? = some (1, n, [])) (hz : 0 ≤ μ k 1 ∧ μ k 1 ≤ n) : tm_Met E l yX2_isFull cX2_isFull 1 (some .boolean) 0 [.ref (E.2.1 k)] μ (tm_pi (fun z μ' => z = (if (n : Int) ≤ μ k 1 then 1 else 0) ∧ μ' = μ)) := by
  refine tm_intro [(0, .ref (E.2.1 k))] rfl (by decide +kernel) (Nat.le_of_ble_eq_true rfl) ?_
  intro X hX C
  subst hX
  have hn := tm_n hk1
  refine tv_aload_n (pc := 0) 0 C dX2_isFull_0 rfl rfl ?_
  refine tv_geti (pc := 1) (z := μ k 1) C hk rfl fl_X2_19 dX2_isFull_1 rfl ?_
  refine tv_aload_n (pc := 4) 0 C dX2_isFull_4 rfl rfl ?_
  refine tv_getr (pc := 5) (q := k1) C hk rfl fl_X2_13 dX2_isFull_5 ?_
  refine tv_alen (pc := 8) 0 C hk1 rfl rfl rfl dX2_isFull_8 ?_
  refine tv_icmp_lt (pc := 9) 16 C dX2_isFull_9 (by decide) (by omega) (by omega) (fun h9 => ?_) (fun h9 => ?_)
  · skip
    refine tv_iconst (pc := 16) C dX2_isFull_16 ?_
    refine tv_zret (pc := 17) C dX2_isFull_17 (by omega) ?_
    exact ⟨_, rfl, by split <;> omega, rfl⟩
  · skip
    refine tv_iconst (pc := 12) C dX2_isFull_12 ?_
    refine tv_goto (pc := 13) 17 C dX2_isFull_13 (by decide) ?_
    refine tv_zret (pc := 17) C dX2_isFull_17 (by omega) ?_
    exact ⟨_, rfl, by split <;> omega, rfl⟩
theorem c2_add (E : tm_Ev) (l : Launch) (μ : tm_M) (k k1 n : Nat) (hk : tm_tm[k]? = some (0, 2, [some k1, none])) (hk1 : tm_tm[k1]? = some (1, n, [])) (hz : 0 ≤ μ k 1 ∧ μ k 1 ≤ n) (v : Int) (hne : k ≠ k1) : tm_Met E l yX2_add cX2_add 2 none 1 [.ref (E.2.1 k), tm_i v] μ (tm_pv (fun μ' => (μ k 1 < n → μ' = tm_up (tm_up μ k1 (μ k 1).toNat v) k 1 (μ k 1 + 1)) ∧ ((n : Int) ≤ μ k 1 → μ' = μ))) := by
  refine tm_intro [(0, .ref (E.2.1 k)), (1, tm_i v)] rfl (by decide +kernel) (Nat.le_of_ble_eq_true rfl) ?_
  intro X hX C
  subst hX
  have hn := tm_n hk1
  refine tv_aload_n (pc := 0) 0 C dX2_add_0 rfl rfl ?_
  refine tv_callV (pc := 1) [] [] C (c2_isFull E _ μ k k1 n hk hk1 (by omega)) cv_X2_23 hk rfl (by decide) rfl (Nat.le_of_ble_eq_true rfl) rfl dX2_add_1 (tm_kp ?_)
  refine tv_ifneB (pc := 4) 27 C dX2_add_4 (by decide) (fun h4 => ?_) (fun h4 => ?_)
  · skip
    refine tv_vret (pc := 27) C dX2_add_27 ?_
    exact ⟨rfl, by refine ⟨?_, ?_⟩ <;> intro h <;> first | (exfalso; omega) | rfl⟩
  · skip
    refine tv_aload_n (pc := 7) 0 C dX2_add_7 rfl rfl ?_
    refine tv_getr (pc := 8) (q := k1) C hk rfl fl_X2_13 dX2_add_8 ?_
    refine tv_aload_n (pc := 11) 0 C dX2_add_11 rfl rfl ?_
    refine tv_geti (pc := 12) (z := μ k 1) C hk rfl fl_X2_19 dX2_add_12 rfl ?_
    refine tv_iload_n (pc := 15) 1 C dX2_add_15 rfl rfl ?_
    refine tv_iast (pc := 16) (j := (μ k 1).toNat) C hk1 dX2_add_16 (by omega) rfl ?_
    refine tv_aload_n (pc := 17) 0 C dX2_add_17 rfl rfl ?_
    refine tv_dup (pc := 18) C dX2_add_18 rfl ?_
    refine tv_geti (pc := 19) (z := μ k 1) C hk rfl fl_X2_19 dX2_add_19 ((tm_uk hne).trans (rfl)) ?_
    refine tv_iconst (pc := 22) C dX2_add_22 ?_
    refine tv_iadd (pc := 23) C dX2_add_23 ?_
    refine tv_puti (pc := 24) C hk rfl fp_X2_19 dX2_add_24 ?_
    refine tv_vret (pc := 27) C dX2_add_27 ?_
    exact ⟨rfl, by refine ⟨?_, ?_⟩ <;> intro h <;> first | (exfalso; omega) | rfl⟩
end
section
/-! the hour, as numbers -/
def sp_fill (sea z fl rc : Int) : Int := z + (min (max (sea - z) 0) fl + 3 * rc)
def sp_wet (sea z fl rc lk : Int) : Int := max (min (sp_fill sea z fl rc) 20 - lk) 0
def sp_spl (sea z fl rc : Int) : Int := max (sp_fill sea z fl rc - 20) 0
def sp_G (dr g wet sea hd w sh : Int) : Prop := ¬ 0 < dr ∧ ¬ g = -1 ∧ hd + (2 - g) + w / sh ≤ wet - sea
abbrev sp_Gd (dr g wet sea hd w sh : Int) : Decidable (sp_G dr g wet sea hd w sh) := by unfold sp_G; infer_instance
/-- 1 if a sack is ground, else 0 -/
def sp_g (dr g wet sea hd w sh : Int) : Int := if 0 < dr then 0 else if g = -1 then 0 else if hd + (2 - g) + w / sh ≤ wet - sea then 1 else 0
theorem sp_g01 (dr g wet sea hd w sh : Int) : sp_g dr g wet sea hd w sh = 0 ∨ sp_g dr g wet sea hd w sh = 1 := by
  unfold sp_g
  split
  · exact Or.inl rfl
  · split
    · exact Or.inl rfl
    · split
      · exact Or.inr rfl
      · exact Or.inl rfl
/-- a pond's four numbers written anew -/
def tm_pd (μ : tm_M) (P : Nat) (a b c d : Int) : tm_M := tm_up (tm_up (tm_up (tm_up μ P 0 a) P 1 b) P 2 c) P 3 d
theorem tm_pd_0 {μ : tm_M} {P : Nat} {a b c d : Int} : tm_pd μ P a b c d P 0 = a := by simp [tm_pd, tm_up]
theorem tm_pd_1 {μ : tm_M} {P : Nat} {a b c d : Int} : tm_pd μ P a b c d P 1 = b := by simp [tm_pd, tm_up]
theorem tm_pd_2 {μ : tm_M} {P : Nat} {a b c d : Int} : tm_pd μ P a b c d P 2 = c := by simp [tm_pd, tm_up]
theorem tm_pd_3 {μ : tm_M} {P : Nat} {a b c d : Int} : tm_pd μ P a b c d P 3 = d := by simp [tm_pd, tm_up]
theorem tm_pd_f {μ : tm_M} {P x : Nat} {a b c d : Int} (h : x ≠ P) : tm_pd μ P a b c d x = μ x := by
  unfold tm_pd
  rw [tm_uf h, tm_uf h, tm_uf h, tm_uf h]
theorem tm_pd_of {μ μ1 : tm_M} {P : Nat} {a b c d : Int} (h0 : μ1 P 0 = a) (h1 : μ1 P 1 = b) (h2 : μ1 P 2 = c) (h3 : μ1 P 3 = d) (hk : ∀ x, x ≠ P → μ1 x = μ x) (hj : ∀ j, 4 ≤ j → μ1 P j = μ P j) : μ1 = tm_pd μ P a b c d := by
  funext x j
  by_cases hx : x = P
  · subst hx
    match j with
    | 0 => rw [h0, tm_pd_0]
    | 1 => rw [h1, tm_pd_1]
    | 2 => rw [h2, tm_pd_2]
    | 3 => rw [h3, tm_pd_3]
    | j + 4 =>
      rw [hj (j + 4) (by omega)]
      unfold tm_pd
      rw [tm_uj (by omega), tm_uj (by omega), tm_uj (by omega), tm_uj (by omega)]
  · rw [hk x hx, tm_pd_f hx]
end
section
theorem c4_begin_a (E : tm_Ev) (l : Launch) (μ : tm_M) (P : Nat) (hP : P = 36 ∨ (63 ≤ P ∧ P ≤ 71)) (hkP : tm_tm[P]? = some (0, 4, [none, none, none, none])) : tm_Met E l yX4_begin cX4_begin 2 none 0 [.ref (E.2.1 P), .ref (E.2.1 29)] μ (tm_pv (fun μ' => μ' = tm_pd μ P 0 (μ 30 0) 0 0)) := by
  refine tm_intro [(0, .ref (E.2.1 P)), (1, .ref (E.2.1 29))] rfl (by decide +kernel) (Nat.le_of_ble_eq_true rfl) ?_
  intro X hX C
  subst hX
  refine tv_aload_n (pc := 0) 0 C dX4_begin_0 rfl rfl ?_
  refine tv_iconst (pc := 1) C dX4_begin_1 ?_
  refine tv_puti (pc := 2) C hkP rfl fp_X4_9 dX4_begin_2 ?_
  refine tv_aload_n (pc := 5) 0 C dX4_begin_5 rfl rfl ?_
  refine tv_aload_n (pc := 6) 1 C dX4_begin_6 rfl rfl ?_
  refine tv_getr (pc := 7) (q := 30) C rfl rfl fl_X4_15 dX4_begin_7 ?_
  refine tv_iconst (pc := 10) C dX4_begin_10 ?_
  refine tv_iald (pc := 11) (j := 0) (z := μ 30 0) C rfl dX4_begin_11 (by omega) rfl ((tm_uk (by omega)).trans (rfl)) ?_
  refine tv_puti (pc := 12) C hkP rfl fp_X4_21 dX4_begin_12 ?_
  refine tv_aload_n (pc := 15) 0 C dX4_begin_15 rfl rfl ?_
  refine tv_iconst (pc := 16) C dX4_begin_16 ?_
  refine tv_puti (pc := 17) C hkP rfl fp_X4_24 dX4_begin_17 ?_
  refine tv_aload_n (pc := 20) 0 C dX4_begin_20 rfl rfl ?_
  refine tv_iconst (pc := 21) C dX4_begin_21 ?_
  refine tv_puti (pc := 22) C hkP rfl fp_X4_27 dX4_begin_22 ?_
  refine tv_vret (pc := 25) C dX4_begin_25 ?_
  exact ⟨rfl, rfl⟩
theorem c4_dull_a (E : tm_Ev) (l : Launch) (μ : tm_M) (P : Nat) (hP : P = 36 ∨ (63 ≤ P ∧ P ≤ 71)) (hkP : tm_tm[P]? = some (0, 4, [none, none, none, none])) (hw : 0 ≤ μ P 2 ∧ μ P 2 ≤ 1000) (hs : 1 ≤ μ 30 4 ∧ μ 30 4 ≤ 9) : tm_Met E l yX4_dullness cX4_dullness 3 (some .int) 0 [.ref (E.2.1 P), .ref (E.2.1 29)] μ (tm_pi (fun z μ' => z = μ P 2 / μ 30 4 ∧ μ' = μ)) := by
  refine tm_intro [(0, .ref (E.2.1 P)), (1, .ref (E.2.1 29))] rfl (by decide +kernel) (Nat.le_of_ble_eq_true rfl) ?_
  intro X hX C
  subst hX
  refine tv_aload_n (pc := 0) 1 C dX4_dullness_0 rfl rfl ?_
  refine tv_getr (pc := 1) (q := 30) C rfl rfl fl_X4_15 dX4_dullness_1 ?_
  refine tv_iconst (pc := 4) C dX4_dullness_4 ?_
  refine tv_iald (pc := 5) (j := 4) (z := μ 30 4) C rfl dX4_dullness_5 (by omega) rfl rfl ?_
  refine tv_istore_n (pc := 6) [(2, tm_i (μ 30 4)), (0, .ref (E.2.1 P)), (1, .ref (E.2.1 29))] C dX4_dullness_6 rfl (by decide) rfl ?_
  refine tv_iload_n (pc := 7) 0 C dX4_dullness_7 rfl rfl ?_
  refine tv_if_le (pc := 8) 20 C dX4_dullness_8 (by decide) (by omega) (fun h8 => ?_) (fun h8 => ?_)
  · skip
    exfalso; omega
  · skip
    refine tv_aload_n (pc := 11) 1 C dX4_dullness_11 rfl rfl ?_
    refine tv_geti (pc := 12) (z := μ P 2) C hkP rfl fl_X4_24 dX4_dullness_12 rfl ?_
    refine tv_iload_n (pc := 15) 0 C dX4_dullness_15 rfl rfl ?_
    refine tv_idiv (pc := 16) C dX4_dullness_16 (by omega) (by omega) ?_
    refine tv_goto (pc := 17) 21 C dX4_dullness_17 (by decide) ?_
    refine tv_iret (pc := 21) C dX4_dullness_21 ?_
    exact ⟨_, rfl, rfl, rfl⟩
set_option maxHeartbeats 4000000 in
theorem c4_pass_a (E : tm_Ev) (l : Launch) (μ : tm_M) (P : Nat) (hP : P = 36 ∨ (63 ≤ P ∧ P ≤ 71)) (hkP : tm_tm[P]? = some (0, 4, [none, none, none, none])) (h : Nat) (g : Int) (hh : μ P 0 = (h : Int)) (hh2 : h < 40) (hg : g = -1 ∨ (0 ≤ g ∧ g ≤ 2)) (h1 : 0 ≤ μ P 1 ∧ μ P 1 ≤ 20) (h2 : 0 ≤ μ P 2 ∧ μ P 2 ≤ 1000) (h3 : 0 ≤ μ P 3 ∧ μ P 3 ≤ 100000) (hs : 0 ≤ μ 31 h ∧ μ 31 h ≤ 18) (hf : 1 ≤ μ 30 1 ∧ μ 30 1 ≤ 9) (hl : 0 ≤ μ 30 2 ∧ μ 30 2 ≤ 9) (hd : 0 ≤ μ 30 3 ∧ μ 30 3 ≤ 9) (hs4 : 1 ≤ μ 30 4 ∧ μ 30 4 ≤ 9) (hr : 0 ≤ μ 32 h ∧ μ 32 h ≤ 10) (hdr : 0 ≤ μ 33 h ∧ μ 33 h ≤ 10) : tm_Met E l yX4_pass cX4_pass 5 (some .boolean) 2 [.ref (E.2.1 P), .ref (E.2.1 29), tm_i g] μ (tm_pi (fun z μ' => z = sp_g (μ 33 h) g (sp_wet (μ 31 h) (μ P 1) (μ 30 1) (μ 32 h) (μ 30 2)) (μ 31 h) (μ 30 3) (μ P 2) (μ 30 4) ∧ μ' = tm_pd μ P ((h : Int) + 1) (sp_wet (μ 31 h) (μ P 1) (μ 30 1) (μ 32 h) (μ 30 2) - (sp_g (μ 33 h) g (sp_wet (μ 31 h) (μ P 1) (μ 30 1) (μ 32 h) (μ 30 2)) (μ 31 h) (μ 30 3) (μ P 2) (μ 30 4)) * min (sp_wet (μ 31 h) (μ P 1) (μ 30 1) (μ 32 h) (μ 30 2)) (3 - g)) (if 0 < μ 33 h then 0 else μ P 2 + (sp_g (μ 33 h) g (sp_wet (μ 31 h) (μ P 1) (μ 30 1) (μ 32 h) (μ 30 2)) (μ 31 h) (μ 30 3) (μ P 2) (μ 30 4))) (μ P 3 + sp_spl (μ 31 h) (μ P 1) (μ 30 1) (μ 32 h)))) := by
  refine tm_intro [(0, .ref (E.2.1 P)), (1, .ref (E.2.1 29)), (2, tm_i g)] rfl (by decide +kernel) (Nat.le_of_ble_eq_true rfl) ?_
  intro X hX C
  subst hX
  have hq4 : 0 ≤ μ P 2 / μ 30 4 ∧ μ P 2 / μ 30 4 ≤ 1000 := ⟨Int.ediv_nonneg h2.1 (by omega), Int.le_trans (Int.ediv_le_self _ h2.1) h2.2⟩
  refine tv_aload_n (pc := 0) 0 C dX4_pass_0 rfl rfl ?_
  refine tv_geti (pc := 1) (z := (h : Int)) C hkP rfl fl_X4_9 dX4_pass_1 hh ?_
  refine tv_if_lt (pc := 4) 16 C dX4_pass_4 (by decide) (by omega) (fun h4 => ?_) (fun h4 => ?_)
  · skip
    exfalso; omega
  · skip
    refine tv_aload_n (pc := 7) 0 C dX4_pass_7 rfl rfl ?_
    refine tv_geti (pc := 8) (z := (h : Int)) C hkP rfl fl_X4_9 dX4_pass_8 hh ?_
    refine tv_bipush (pc := 11) C dX4_pass_11 (by decide) ?_
    refine tv_icmp_lt (pc := 13) 18 C dX4_pass_13 (by decide) (by omega) (by omega) (fun h13 => ?_) (fun h13 => ?_)
    · skip
      refine tv_aload_n (pc := 18) 1 C dX4_pass_18 rfl rfl ?_
      refine tv_getr (pc := 19) (q := 31) C rfl rfl fl_X4_30 dX4_pass_19 ?_
      refine tv_aload_n (pc := 22) 0 C dX4_pass_22 rfl rfl ?_
      refine tv_geti (pc := 23) (z := (h : Int)) C hkP rfl fl_X4_9 dX4_pass_23 hh ?_
      refine tv_iald (pc := 26) (j := h) (z := μ 31 h) C rfl dX4_pass_26 (by omega) (Int.toNat_natCast _) rfl ?_
      refine tv_istore_n (pc := 27) [(3, tm_i (μ 31 h)), (0, .ref (E.2.1 P)), (1, .ref (E.2.1 29)), (2, tm_i g)] C dX4_pass_27 rfl (by decide) rfl ?_
      refine tv_aload_n (pc := 28) 1 C dX4_pass_28 rfl rfl ?_
      refine tv_dup (pc := 29) C dX4_pass_29 rfl ?_
      refine tv_geti (pc := 30) (z := μ P 1) C hkP rfl fl_X4_21 dX4_pass_30 rfl ?_
      refine tv_iload_n (pc := 33) 0 C dX4_pass_33 rfl rfl ?_
      refine tv_aload_n (pc := 34) 1 C dX4_pass_34 rfl rfl ?_
      refine tv_geti (pc := 35) (z := μ P 1) C hkP rfl fl_X4_21 dX4_pass_35 rfl ?_
      refine tv_isub (pc := 38) C dX4_pass_38 ?_
      refine tv_iconst (pc := 39) C dX4_pass_39 ?_
      refine tv_mmax (pc := 40) C mx_X4_33 (by omega) (by omega) dX4_pass_40 (Nat.le_of_ble_eq_true rfl) ?_
      refine tv_aload_n (pc := 43) 2 C dX4_pass_43 rfl rfl ?_
      refine tv_getr (pc := 44) (q := 30) C rfl rfl fl_X4_15 dX4_pass_44 ?_
      refine tv_iconst (pc := 47) C dX4_pass_47 ?_
      refine tv_iald (pc := 48) (j := 1) (z := μ 30 1) C rfl dX4_pass_48 (by omega) rfl rfl ?_
      refine tv_mmin (pc := 49) C mx_X4_39 (by omega) (by omega) dX4_pass_49 (Nat.le_of_ble_eq_true rfl) ?_
      refine tv_iconst (pc := 52) C dX4_pass_52 ?_
      refine tv_aload_n (pc := 53) 2 C dX4_pass_53 rfl rfl ?_
      refine tv_getr (pc := 54) (q := 32) C rfl rfl fl_X4_42 dX4_pass_54 ?_
      refine tv_aload_n (pc := 57) 1 C dX4_pass_57 rfl rfl ?_
      refine tv_geti (pc := 58) (z := (h : Int)) C hkP rfl fl_X4_9 dX4_pass_58 hh ?_
      refine tv_iald (pc := 61) (j := h) (z := μ 32 h) C rfl dX4_pass_61 (by omega) (Int.toNat_natCast _) rfl ?_
      refine tv_imul (pc := 62) C dX4_pass_62 ?_
      refine tv_iadd (pc := 63) C dX4_pass_63 ?_
      refine tv_iadd (pc := 64) C dX4_pass_64 ?_
      refine tv_puti (pc := 65) C hkP rfl fp_X4_21 dX4_pass_65 ?_
      refine tv_aload_n (pc := 68) 1 C dX4_pass_68 rfl rfl ?_
      refine tv_geti (pc := 69) (z := (μ P 1) + ((min (max ((μ 31 h) - (μ P 1)) 0) (μ 30 1)) + (3 * (μ 32 h)))) C hkP rfl fl_X4_21 dX4_pass_69 tm_us ?_
      refine tv_bipush (pc := 72) C dX4_pass_72 (by decide) ?_
      refine tv_icmp_le (pc := 74) 99 C dX4_pass_74 (by decide) (by omega) (by omega) (fun h74 => ?_) (fun h74 => ?_)
      · skip
        refine tv_aload_n (pc := 99) 1 C dX4_pass_99 rfl rfl ?_
        refine tv_aload_n (pc := 100) 1 C dX4_pass_100 rfl rfl ?_
        refine tv_geti (pc := 101) (z := (μ P 1) + ((min (max ((μ 31 h) - (μ P 1)) 0) (μ 30 1)) + (3 * (μ 32 h)))) C hkP rfl fl_X4_21 dX4_pass_101 tm_us ?_
        refine tv_aload_n (pc := 104) 2 C dX4_pass_104 rfl rfl ?_
        refine tv_getr (pc := 105) (q := 30) C rfl rfl fl_X4_15 dX4_pass_105 ?_
        refine tv_iconst (pc := 108) C dX4_pass_108 ?_
        refine tv_iald (pc := 109) (j := 2) (z := μ 30 2) C rfl dX4_pass_109 (by omega) rfl ((tm_uk (by omega)).trans (rfl)) ?_
        refine tv_isub (pc := 110) C dX4_pass_110 ?_
        refine tv_iconst (pc := 111) C dX4_pass_111 ?_
        refine tv_mmax (pc := 112) C mx_X4_33 (by omega) (by omega) dX4_pass_112 (Nat.le_of_ble_eq_true rfl) ?_
        refine tv_puti (pc := 115) C hkP rfl fp_X4_21 dX4_pass_115 ?_
        refine tv_aload_n (pc := 118) 2 C dX4_pass_118 rfl rfl ?_
        refine tv_getr (pc := 119) (q := 33) C rfl rfl fl_X4_45 dX4_pass_119 ?_
        refine tv_aload_n (pc := 122) 1 C dX4_pass_122 rfl rfl ?_
        refine tv_geti (pc := 123) (z := (h : Int)) C hkP rfl fl_X4_9 dX4_pass_123 ((tm_uj (by decide)).trans ((tm_uj (by decide)).trans (hh))) ?_
        refine tv_iald (pc := 126) (j := h) (z := μ 33 h) C rfl dX4_pass_126 (by omega) (Int.toNat_natCast _) ((tm_uk (by omega)).trans ((tm_uk (by omega)).trans (rfl))) ?_
        refine tv_if_le (pc := 127) 134 C dX4_pass_127 (by decide) (by omega) (fun h127 => ?_) (fun h127 => ?_)
        · skip
          refine tv_iconst (pc := 134) C dX4_pass_134 ?_
          refine tv_istore (pc := 135) [(4, tm_i 0), (3, tm_i (μ 31 h)), (0, .ref (E.2.1 P)), (1, .ref (E.2.1 29)), (2, tm_i g)] C dX4_pass_135 (by decide) rfl ?_
          refine tv_aload_n (pc := 137) 2 C dX4_pass_137 rfl rfl ?_
          refine tv_dup (pc := 138) C dX4_pass_138 rfl ?_
          refine tv_geti (pc := 139) (z := (h : Int)) C hkP rfl fl_X4_9 dX4_pass_139 ((tm_uj (by decide)).trans ((tm_uj (by decide)).trans (hh))) ?_
          refine tv_iconst (pc := 142) C dX4_pass_142 ?_
          refine tv_iadd (pc := 143) C dX4_pass_143 ?_
          refine tv_puti (pc := 144) C hkP rfl fp_X4_9 dX4_pass_144 ?_
          refine tv_iload (pc := 147) 0 C dX4_pass_147 rfl ?_
          refine tv_if_eq (pc := 149) 159 C dX4_pass_149 (by decide) (by omega) (fun _ => ?_) (fun q => absurd q (by decide))
          refine tv_iload_n (pc := 159) 4 C dX4_pass_159 rfl rfl ?_
          refine tv_iconst (pc := 160) C dX4_pass_160 ?_
          refine tv_icmp_eq (pc := 161) 191 C dX4_pass_161 (by decide) (by omega) (by omega) (fun h161 => ?_) (fun h161 => ?_)
          · skip
            refine tv_iconst (pc := 191) C dX4_pass_191 ?_
            refine tv_zret (pc := 192) C dX4_pass_192 (by omega) ?_
            have hg9 : sp_g (μ 33 h) g (sp_wet (μ 31 h) (μ P 1) (μ 30 1) (μ 32 h) (μ 30 2)) (μ 31 h) (μ 30 3) (μ P 2) (μ 30 4) = 0 := by unfold sp_g; first | (rw [if_pos (by omega)]; done) | (rw [if_neg (by omega), if_pos (by omega)]; done) | (rw [if_neg (by omega), if_neg (by omega), if_pos (by unfold sp_wet sp_fill; omega)]; done) | (rw [if_neg (by omega), if_neg (by omega), if_neg (by unfold sp_wet sp_fill; omega)]; done)
            refine ⟨_, rfl, hg9.symm, ?_⟩
            rw [hg9]
            refine tm_pd_of (tm_us) (((tm_uj (by decide)).trans (tm_us)).trans (by unfold sp_wet sp_fill; omega)) (((tm_uj (by decide)).trans ((tm_uj (by decide)).trans ((tm_uj (by decide)).trans (rfl)))).trans (by first | (rw [if_pos (by omega)]; done) | (rw [if_neg (by omega)]; done) | (rw [if_neg (by omega)]; omega))) (((tm_uj (by decide)).trans ((tm_uj (by decide)).trans ((tm_uj (by decide)).trans (rfl)))).trans (by unfold sp_spl sp_fill; omega)) (fun x hx => by simp only [tm_uf hx]) (fun j hj => by simp only [tm_uj (show j ≠ 0 by omega), tm_uj (show j ≠ 1 by omega), tm_uj (show j ≠ 2 by omega), tm_uj (show j ≠ 3 by omega)])
          · skip
            refine tv_aload_n (pc := 164) 2 C dX4_pass_164 rfl rfl ?_
            refine tv_geti (pc := 165) (z := max (((μ P 1) + ((min (max ((μ 31 h) - (μ P 1)) 0) (μ 30 1)) + (3 * (μ 32 h)))) - (μ 30 2)) 0) C hkP rfl fl_X4_21 dX4_pass_165 ((tm_uj (by decide)).trans (tm_us)) ?_
            refine tv_iload_n (pc := 168) 1 C dX4_pass_168 rfl rfl ?_
            refine tv_isub (pc := 169) C dX4_pass_169 ?_
            refine tv_aload_n (pc := 170) 3 C dX4_pass_170 rfl rfl ?_
            refine tv_getr (pc := 171) (q := 30) C rfl rfl fl_X4_15 dX4_pass_171 ?_
            refine tv_iconst (pc := 174) C dX4_pass_174 ?_
            refine tv_iald (pc := 175) (j := 3) (z := μ 30 3) C rfl dX4_pass_175 (by omega) rfl ((tm_uk (by omega)).trans ((tm_uk (by omega)).trans ((tm_uk (by omega)).trans (rfl)))) ?_
            refine tv_getsN (pc := 176) 3 C (by decide) gs_X4_48 dX4_pass_176 ?_
            refine tv_iload_n (pc := 179) 4 C dX4_pass_179 rfl rfl ?_
            refine tv_sald (pc := 180) (z := 2 - g) 3 C (by decide) dX4_pass_180 (show 0 ≤ g ∧ g < ((3 : Nat) : Int) by omega) (by rcases (show g = 0 ∨ g = 1 ∨ g = 2 by omega) with rfl | rfl | rfl <;> rfl) ?_
            refine tv_iadd (pc := 181) C dX4_pass_181 ?_
            refine tv_aload_n (pc := 182) 2 C dX4_pass_182 rfl rfl ?_
            refine tv_aload_n (pc := 183) 3 C dX4_pass_183 rfl rfl ?_
            refine tv_callV (pc := 184) [.ref (E.2.1 29)] [tm_i ((μ 30 3) + (2 - g)), tm_i ((max (((μ P 1) + ((min (max ((μ 31 h) - (μ P 1)) 0) (μ 30 1)) + (3 * (μ 32 h)))) - (μ 30 2)) 0) - (μ 31 h))] C (c4_dull_a E _ (tm_up (tm_up (tm_up μ P 1 ((μ P 1) + ((min (max ((μ 31 h) - (μ P 1)) 0) (μ 30 1)) + (3 * (μ 32 h))))) P 1 (max (((μ P 1) + ((min (max ((μ 31 h) - (μ P 1)) 0) (μ 30 1)) + (3 * (μ 32 h)))) - (μ 30 2)) 0)) P 0 ((h : Int) + 1)) P hP hkP (by rw [show (tm_up (tm_up (tm_up μ P 1 ((μ P 1) + ((min (max ((μ 31 h) - (μ P 1)) 0) (μ 30 1)) + (3 * (μ 32 h))))) P 1 (max (((μ P 1) + ((min (max ((μ 31 h) - (μ P 1)) 0) (μ 30 1)) + (3 * (μ 32 h)))) - (μ 30 2)) 0)) P 0 ((h : Int) + 1)) P 2 = μ P 2 from (tm_uj (by decide)).trans ((tm_uj (by decide)).trans ((tm_uj (by decide)).trans (rfl)))]; omega) (by rw [show (tm_up (tm_up (tm_up μ P 1 ((μ P 1) + ((min (max ((μ 31 h) - (μ P 1)) 0) (μ 30 1)) + (3 * (μ 32 h))))) P 1 (max (((μ P 1) + ((min (max ((μ 31 h) - (μ P 1)) 0) (μ 30 1)) + (3 * (μ 32 h)))) - (μ 30 2)) 0)) P 0 ((h : Int) + 1)) 30 4 = μ 30 4 from (tm_uk (by omega)).trans ((tm_uk (by omega)).trans ((tm_uk (by omega)).trans (rfl)))]; omega)) cv_X4_51 hkP rfl (by decide) rfl (Nat.le_of_ble_eq_true rfl) rfl dX4_pass_184 (tm_ki ?_)
            rintro z9 μ9 ⟨hz9, rfl⟩
            have hz9 : z9 = μ P 2 / μ 30 4 := by rw [hz9, show (tm_up (tm_up (tm_up μ P 1 ((μ P 1) + ((min (max ((μ 31 h) - (μ P 1)) 0) (μ 30 1)) + (3 * (μ 32 h))))) P 1 (max (((μ P 1) + ((min (max ((μ 31 h) - (μ P 1)) 0) (μ 30 1)) + (3 * (μ 32 h)))) - (μ 30 2)) 0)) P 0 ((h : Int) + 1)) P 2 = μ P 2 from (tm_uj (by decide)).trans ((tm_uj (by decide)).trans ((tm_uj (by decide)).trans (rfl))), show (tm_up (tm_up (tm_up μ P 1 ((μ P 1) + ((min (max ((μ 31 h) - (μ P 1)) 0) (μ 30 1)) + (3 * (μ 32 h))))) P 1 (max (((μ P 1) + ((min (max ((μ 31 h) - (μ P 1)) 0) (μ 30 1)) + (3 * (μ 32 h)))) - (μ 30 2)) 0)) P 0 ((h : Int) + 1)) 30 4 = μ 30 4 from (tm_uk (by omega)).trans ((tm_uk (by omega)).trans ((tm_uk (by omega)).trans (rfl)))]
            subst hz9
            refine tv_iadd (pc := 187) C dX4_pass_187 ?_
            refine tv_icmp_ge (pc := 188) 193 C dX4_pass_188 (by decide) (by omega) (by omega) (fun h188 => ?_) (fun h188 => ?_)
            · skip
              refine tv_aload_n (pc := 193) 2 C dX4_pass_193 rfl rfl ?_
              refine tv_aload_n (pc := 194) 2 C dX4_pass_194 rfl rfl ?_
              refine tv_geti (pc := 195) (z := max (((μ P 1) + ((min (max ((μ 31 h) - (μ P 1)) 0) (μ 30 1)) + (3 * (μ 32 h)))) - (μ 30 2)) 0) C hkP rfl fl_X4_21 dX4_pass_195 ((tm_uj (by decide)).trans (tm_us)) ?_
              refine tv_getsN (pc := 198) 4 C (by decide) gs_X4_55 dX4_pass_198 ?_
              refine tv_iload_n (pc := 201) 4 C dX4_pass_201 rfl rfl ?_
              refine tv_sald (pc := 202) (z := 3 - g) 4 C (by decide) dX4_pass_202 (show 0 ≤ g ∧ g < ((3 : Nat) : Int) by omega) (by rcases (show g = 0 ∨ g = 1 ∨ g = 2 by omega) with rfl | rfl | rfl <;> rfl) ?_
              refine tv_isub (pc := 203) C dX4_pass_203 ?_
              refine tv_iconst (pc := 204) C dX4_pass_204 ?_
              refine tv_mmax (pc := 205) C mx_X4_33 (by omega) (by omega) dX4_pass_205 (Nat.le_of_ble_eq_true rfl) ?_
              refine tv_puti (pc := 208) C hkP rfl fp_X4_21 dX4_pass_208 ?_
              refine tv_aload_n (pc := 211) 2 C dX4_pass_211 rfl rfl ?_
              refine tv_dup (pc := 212) C dX4_pass_212 rfl ?_
              refine tv_geti (pc := 213) (z := μ P 2) C hkP rfl fl_X4_24 dX4_pass_213 ((tm_uj (by decide)).trans ((tm_uj (by decide)).trans ((tm_uj (by decide)).trans ((tm_uj (by decide)).trans (rfl))))) ?_
              refine tv_iconst (pc := 216) C dX4_pass_216 ?_
              refine tv_iadd (pc := 217) C dX4_pass_217 ?_
              refine tv_puti (pc := 218) C hkP rfl fp_X4_24 dX4_pass_218 ?_
              refine tv_iconst (pc := 221) C dX4_pass_221 ?_
              refine tv_zret (pc := 222) C dX4_pass_222 (by omega) ?_
              have hg9 : sp_g (μ 33 h) g (sp_wet (μ 31 h) (μ P 1) (μ 30 1) (μ 32 h) (μ 30 2)) (μ 31 h) (μ 30 3) (μ P 2) (μ 30 4) = 1 := by unfold sp_g; first | (rw [if_pos (by omega)]; done) | (rw [if_neg (by omega), if_pos (by omega)]; done) | (rw [if_neg (by omega), if_neg (by omega), if_pos (by unfold sp_wet sp_fill; omega)]; done) | (rw [if_neg (by omega), if_neg (by omega), if_neg (by unfold sp_wet sp_fill; omega)]; done)
              refine ⟨_, rfl, hg9.symm, ?_⟩
              rw [hg9]
              refine tm_pd_of ((tm_uj (by decide)).trans ((tm_uj (by decide)).trans (tm_us))) (((tm_uj (by decide)).trans (tm_us)).trans (by unfold sp_wet sp_fill; omega)) ((tm_us).trans (by first | (rw [if_pos (by omega)]; done) | (rw [if_neg (by omega)]; done) | (rw [if_neg (by omega)]; omega))) (((tm_uj (by decide)).trans ((tm_uj (by decide)).trans ((tm_uj (by decide)).trans ((tm_uj (by decide)).trans ((tm_uj (by decide)).trans (rfl)))))).trans (by unfold sp_spl sp_fill; omega)) (fun x hx => by simp only [tm_uf hx]) (fun j hj => by simp only [tm_uj (show j ≠ 0 by omega), tm_uj (show j ≠ 1 by omega), tm_uj (show j ≠ 2 by omega), tm_uj (show j ≠ 3 by omega)])
            · skip
              refine tv_iconst (pc := 191) C dX4_pass_191 ?_
              refine tv_zret (pc := 192) C dX4_pass_192 (by omega) ?_
              have hg9 : sp_g (μ 33 h) g (sp_wet (μ 31 h) (μ P 1) (μ 30 1) (μ 32 h) (μ 30 2)) (μ 31 h) (μ 30 3) (μ P 2) (μ 30 4) = 0 := by unfold sp_g; first | (rw [if_pos (by omega)]; done) | (rw [if_neg (by omega), if_pos (by omega)]; done) | (rw [if_neg (by omega), if_neg (by omega), if_pos (by unfold sp_wet sp_fill; omega)]; done) | (rw [if_neg (by omega), if_neg (by omega), if_neg (by unfold sp_wet sp_fill; omega)]; done)
              refine ⟨_, rfl, hg9.symm, ?_⟩
              rw [hg9]
              refine tm_pd_of (tm_us) (((tm_uj (by decide)).trans (tm_us)).trans (by unfold sp_wet sp_fill; omega)) (((tm_uj (by decide)).trans ((tm_uj (by decide)).trans ((tm_uj (by decide)).trans (rfl)))).trans (by first | (rw [if_pos (by omega)]; done) | (rw [if_neg (by omega)]; done) | (rw [if_neg (by omega)]; omega))) (((tm_uj (by decide)).trans ((tm_uj (by decide)).trans ((tm_uj (by decide)).trans (rfl)))).trans (by unfold sp_spl sp_fill; omega)) (fun x hx => by simp only [tm_uf hx]) (fun j hj => by simp only [tm_uj (show j ≠ 0 by omega), tm_uj (show j ≠ 1 by omega), tm_uj (show j ≠ 2 by omega), tm_uj (show j ≠ 3 by omega)])
        · skip
          refine tv_iconst (pc := 130) C dX4_pass_130 ?_
          refine tv_goto (pc := 131) 135 C dX4_pass_131 (by decide) ?_
          refine tv_istore (pc := 135) [(4, tm_i 1), (3, tm_i (μ 31 h)), (0, .ref (E.2.1 P)), (1, .ref (E.2.1 29)), (2, tm_i g)] C dX4_pass_135 (by decide) rfl ?_
          refine tv_aload_n (pc := 137) 2 C dX4_pass_137 rfl rfl ?_
          refine tv_dup (pc := 138) C dX4_pass_138 rfl ?_
          refine tv_geti (pc := 139) (z := (h : Int)) C hkP rfl fl_X4_9 dX4_pass_139 ((tm_uj (by decide)).trans ((tm_uj (by decide)).trans (hh))) ?_
          refine tv_iconst (pc := 142) C dX4_pass_142 ?_
          refine tv_iadd (pc := 143) C dX4_pass_143 ?_
          refine tv_puti (pc := 144) C hkP rfl fp_X4_9 dX4_pass_144 ?_
          refine tv_iload (pc := 147) 0 C dX4_pass_147 rfl ?_
          refine tv_if_eq (pc := 149) 159 C dX4_pass_149 (by decide) (by omega) (fun q => absurd q (by decide)) (fun _ => ?_)
          refine tv_aload_n (pc := 152) 2 C dX4_pass_152 rfl rfl ?_
          refine tv_iconst (pc := 153) C dX4_pass_153 ?_
          refine tv_puti (pc := 154) C hkP rfl fp_X4_24 dX4_pass_154 ?_
          refine tv_iconst (pc := 157) C dX4_pass_157 ?_
          refine tv_zret (pc := 158) C dX4_pass_158 (by omega) ?_
          have hg9 : sp_g (μ 33 h) g (sp_wet (μ 31 h) (μ P 1) (μ 30 1) (μ 32 h) (μ 30 2)) (μ 31 h) (μ 30 3) (μ P 2) (μ 30 4) = 0 := by unfold sp_g; first | (rw [if_pos (by omega)]; done) | (rw [if_neg (by omega), if_pos (by omega)]; done) | (rw [if_neg (by omega), if_neg (by omega), if_pos (by unfold sp_wet sp_fill; omega)]; done) | (rw [if_neg (by omega), if_neg (by omega), if_neg (by unfold sp_wet sp_fill; omega)]; done)
          refine ⟨_, rfl, hg9.symm, ?_⟩
          rw [hg9]
          refine tm_pd_of ((tm_uj (by decide)).trans (tm_us)) (((tm_uj (by decide)).trans ((tm_uj (by decide)).trans (tm_us))).trans (by unfold sp_wet sp_fill; omega)) ((tm_us).trans (by first | (rw [if_pos (by omega)]; done) | (rw [if_neg (by omega)]; done) | (rw [if_neg (by omega)]; omega))) (((tm_uj (by decide)).trans ((tm_uj (by decide)).trans ((tm_uj (by decide)).trans ((tm_uj (by decide)).trans (rfl))))).trans (by unfold sp_spl sp_fill; omega)) (fun x hx => by simp only [tm_uf hx]) (fun j hj => by simp only [tm_uj (show j ≠ 0 by omega), tm_uj (show j ≠ 1 by omega), tm_uj (show j ≠ 2 by omega), tm_uj (show j ≠ 3 by omega)])
      · skip
        refine tv_aload_n (pc := 77) 1 C dX4_pass_77 rfl rfl ?_
        refine tv_dup (pc := 78) C dX4_pass_78 rfl ?_
        refine tv_geti (pc := 79) (z := μ P 3) C hkP rfl fl_X4_27 dX4_pass_79 ((tm_uj (by decide)).trans (rfl)) ?_
        refine tv_aload_n (pc := 82) 1 C dX4_pass_82 rfl rfl ?_
        refine tv_geti (pc := 83) (z := (μ P 1) + ((min (max ((μ 31 h) - (μ P 1)) 0) (μ 30 1)) + (3 * (μ 32 h)))) C hkP rfl fl_X4_21 dX4_pass_83 tm_us ?_
        refine tv_bipush (pc := 86) C dX4_pass_86 (by decide) ?_
        refine tv_isub (pc := 88) C dX4_pass_88 ?_
        refine tv_iadd (pc := 89) C dX4_pass_89 ?_
        refine tv_puti (pc := 90) C hkP rfl fp_X4_27 dX4_pass_90 ?_
        refine tv_aload_n (pc := 93) 1 C dX4_pass_93 rfl rfl ?_
        refine tv_bipush (pc := 94) C dX4_pass_94 (by decide) ?_
        refine tv_puti (pc := 96) C hkP rfl fp_X4_21 dX4_pass_96 ?_
        refine tv_aload_n (pc := 99) 1 C dX4_pass_99 rfl rfl ?_
        refine tv_aload_n (pc := 100) 1 C dX4_pass_100 rfl rfl ?_
        refine tv_geti (pc := 101) (z := 20) C hkP rfl fl_X4_21 dX4_pass_101 tm_us ?_
        refine tv_aload_n (pc := 104) 2 C dX4_pass_104 rfl rfl ?_
        refine tv_getr (pc := 105) (q := 30) C rfl rfl fl_X4_15 dX4_pass_105 ?_
        refine tv_iconst (pc := 108) C dX4_pass_108 ?_
        refine tv_iald (pc := 109) (j := 2) (z := μ 30 2) C rfl dX4_pass_109 (by omega) rfl ((tm_uk (by omega)).trans ((tm_uk (by omega)).trans ((tm_uk (by omega)).trans (rfl)))) ?_
        refine tv_isub (pc := 110) C dX4_pass_110 ?_
        refine tv_iconst (pc := 111) C dX4_pass_111 ?_
        refine tv_mmax (pc := 112) C mx_X4_33 (by omega) (by omega) dX4_pass_112 (Nat.le_of_ble_eq_true rfl) ?_
        refine tv_puti (pc := 115) C hkP rfl fp_X4_21 dX4_pass_115 ?_
        refine tv_aload_n (pc := 118) 2 C dX4_pass_118 rfl rfl ?_
        refine tv_getr (pc := 119) (q := 33) C rfl rfl fl_X4_45 dX4_pass_119 ?_
        refine tv_aload_n (pc := 122) 1 C dX4_pass_122 rfl rfl ?_
        refine tv_geti (pc := 123) (z := (h : Int)) C hkP rfl fl_X4_9 dX4_pass_123 ((tm_uj (by decide)).trans ((tm_uj (by decide)).trans ((tm_uj (by decide)).trans ((tm_uj (by decide)).trans (hh))))) ?_
        refine tv_iald (pc := 126) (j := h) (z := μ 33 h) C rfl dX4_pass_126 (by omega) (Int.toNat_natCast _) ((tm_uk (by omega)).trans ((tm_uk (by omega)).trans ((tm_uk (by omega)).trans ((tm_uk (by omega)).trans (rfl))))) ?_
        refine tv_if_le (pc := 127) 134 C dX4_pass_127 (by decide) (by omega) (fun h127 => ?_) (fun h127 => ?_)
        · skip
          refine tv_iconst (pc := 134) C dX4_pass_134 ?_
          refine tv_istore (pc := 135) [(4, tm_i 0), (3, tm_i (μ 31 h)), (0, .ref (E.2.1 P)), (1, .ref (E.2.1 29)), (2, tm_i g)] C dX4_pass_135 (by decide) rfl ?_
          refine tv_aload_n (pc := 137) 2 C dX4_pass_137 rfl rfl ?_
          refine tv_dup (pc := 138) C dX4_pass_138 rfl ?_
          refine tv_geti (pc := 139) (z := (h : Int)) C hkP rfl fl_X4_9 dX4_pass_139 ((tm_uj (by decide)).trans ((tm_uj (by decide)).trans ((tm_uj (by decide)).trans ((tm_uj (by decide)).trans (hh))))) ?_
          refine tv_iconst (pc := 142) C dX4_pass_142 ?_
          refine tv_iadd (pc := 143) C dX4_pass_143 ?_
          refine tv_puti (pc := 144) C hkP rfl fp_X4_9 dX4_pass_144 ?_
          refine tv_iload (pc := 147) 0 C dX4_pass_147 rfl ?_
          refine tv_if_eq (pc := 149) 159 C dX4_pass_149 (by decide) (by omega) (fun _ => ?_) (fun q => absurd q (by decide))
          refine tv_iload_n (pc := 159) 4 C dX4_pass_159 rfl rfl ?_
          refine tv_iconst (pc := 160) C dX4_pass_160 ?_
          refine tv_icmp_eq (pc := 161) 191 C dX4_pass_161 (by decide) (by omega) (by omega) (fun h161 => ?_) (fun h161 => ?_)
          · skip
            refine tv_iconst (pc := 191) C dX4_pass_191 ?_
            refine tv_zret (pc := 192) C dX4_pass_192 (by omega) ?_
            have hg9 : sp_g (μ 33 h) g (sp_wet (μ 31 h) (μ P 1) (μ 30 1) (μ 32 h) (μ 30 2)) (μ 31 h) (μ 30 3) (μ P 2) (μ 30 4) = 0 := by unfold sp_g; first | (rw [if_pos (by omega)]; done) | (rw [if_neg (by omega), if_pos (by omega)]; done) | (rw [if_neg (by omega), if_neg (by omega), if_pos (by unfold sp_wet sp_fill; omega)]; done) | (rw [if_neg (by omega), if_neg (by omega), if_neg (by unfold sp_wet sp_fill; omega)]; done)
            refine ⟨_, rfl, hg9.symm, ?_⟩
            rw [hg9]
            refine tm_pd_of (tm_us) (((tm_uj (by decide)).trans (tm_us)).trans (by unfold sp_wet sp_fill; omega)) (((tm_uj (by decide)).trans ((tm_uj (by decide)).trans ((tm_uj (by decide)).trans ((tm_uj (by decide)).trans ((tm_uj (by decide)).trans (rfl)))))).trans (by first | (rw [if_pos (by omega)]; done) | (rw [if_neg (by omega)]; done) | (rw [if_neg (by omega)]; omega))) (((tm_uj (by decide)).trans ((tm_uj (by decide)).trans ((tm_uj (by decide)).trans (tm_us)))).trans (by unfold sp_spl sp_fill; omega)) (fun x hx => by simp only [tm_uf hx]) (fun j hj => by simp only [tm_uj (show j ≠ 0 by omega), tm_uj (show j ≠ 1 by omega), tm_uj (show j ≠ 2 by omega), tm_uj (show j ≠ 3 by omega)])
          · skip
            refine tv_aload_n (pc := 164) 2 C dX4_pass_164 rfl rfl ?_
            refine tv_geti (pc := 165) (z := max (20 - (μ 30 2)) 0) C hkP rfl fl_X4_21 dX4_pass_165 ((tm_uj (by decide)).trans (tm_us)) ?_
            refine tv_iload_n (pc := 168) 1 C dX4_pass_168 rfl rfl ?_
            refine tv_isub (pc := 169) C dX4_pass_169 ?_
            refine tv_aload_n (pc := 170) 3 C dX4_pass_170 rfl rfl ?_
            refine tv_getr (pc := 171) (q := 30) C rfl rfl fl_X4_15 dX4_pass_171 ?_
            refine tv_iconst (pc := 174) C dX4_pass_174 ?_
            refine tv_iald (pc := 175) (j := 3) (z := μ 30 3) C rfl dX4_pass_175 (by omega) rfl ((tm_uk (by omega)).trans ((tm_uk (by omega)).trans ((tm_uk (by omega)).trans ((tm_uk (by omega)).trans ((tm_uk (by omega)).trans (rfl)))))) ?_
            refine tv_getsN (pc := 176) 3 C (by decide) gs_X4_48 dX4_pass_176 ?_
            refine tv_iload_n (pc := 179) 4 C dX4_pass_179 rfl rfl ?_
            refine tv_sald (pc := 180) (z := 2 - g) 3 C (by decide) dX4_pass_180 (show 0 ≤ g ∧ g < ((3 : Nat) : Int) by omega) (by rcases (show g = 0 ∨ g = 1 ∨ g = 2 by omega) with rfl | rfl | rfl <;> rfl) ?_
            refine tv_iadd (pc := 181) C dX4_pass_181 ?_
            refine tv_aload_n (pc := 182) 2 C dX4_pass_182 rfl rfl ?_
            refine tv_aload_n (pc := 183) 3 C dX4_pass_183 rfl rfl ?_
            refine tv_callV (pc := 184) [.ref (E.2.1 29)] [tm_i ((μ 30 3) + (2 - g)), tm_i ((max (20 - (μ 30 2)) 0) - (μ 31 h))] C (c4_dull_a E _ (tm_up (tm_up (tm_up (tm_up (tm_up μ P 1 ((μ P 1) + ((min (max ((μ 31 h) - (μ P 1)) 0) (μ 30 1)) + (3 * (μ 32 h))))) P 3 ((μ P 3) + (((μ P 1) + ((min (max ((μ 31 h) - (μ P 1)) 0) (μ 30 1)) + (3 * (μ 32 h)))) - 20))) P 1 20) P 1 (max (20 - (μ 30 2)) 0)) P 0 ((h : Int) + 1)) P hP hkP (by rw [show (tm_up (tm_up (tm_up (tm_up (tm_up μ P 1 ((μ P 1) + ((min (max ((μ 31 h) - (μ P 1)) 0) (μ 30 1)) + (3 * (μ 32 h))))) P 3 ((μ P 3) + (((μ P 1) + ((min (max ((μ 31 h) - (μ P 1)) 0) (μ 30 1)) + (3 * (μ 32 h)))) - 20))) P 1 20) P 1 (max (20 - (μ 30 2)) 0)) P 0 ((h : Int) + 1)) P 2 = μ P 2 from (tm_uj (by decide)).trans ((tm_uj (by decide)).trans ((tm_uj (by decide)).trans ((tm_uj (by decide)).trans ((tm_uj (by decide)).trans (rfl)))))]; omega) (by rw [show (tm_up (tm_up (tm_up (tm_up (tm_up μ P 1 ((μ P 1) + ((min (max ((μ 31 h) - (μ P 1)) 0) (μ 30 1)) + (3 * (μ 32 h))))) P 3 ((μ P 3) + (((μ P 1) + ((min (max ((μ 31 h) - (μ P 1)) 0) (μ 30 1)) + (3 * (μ 32 h)))) - 20))) P 1 20) P 1 (max (20 - (μ 30 2)) 0)) P 0 ((h : Int) + 1)) 30 4 = μ 30 4 from (tm_uk (by omega)).trans ((tm_uk (by omega)).trans ((tm_uk (by omega)).trans ((tm_uk (by omega)).trans ((tm_uk (by omega)).trans (rfl)))))]; omega)) cv_X4_51 hkP rfl (by decide) rfl (Nat.le_of_ble_eq_true rfl) rfl dX4_pass_184 (tm_ki ?_)
            rintro z9 μ9 ⟨hz9, rfl⟩
            have hz9 : z9 = μ P 2 / μ 30 4 := by rw [hz9, show (tm_up (tm_up (tm_up (tm_up (tm_up μ P 1 ((μ P 1) + ((min (max ((μ 31 h) - (μ P 1)) 0) (μ 30 1)) + (3 * (μ 32 h))))) P 3 ((μ P 3) + (((μ P 1) + ((min (max ((μ 31 h) - (μ P 1)) 0) (μ 30 1)) + (3 * (μ 32 h)))) - 20))) P 1 20) P 1 (max (20 - (μ 30 2)) 0)) P 0 ((h : Int) + 1)) P 2 = μ P 2 from (tm_uj (by decide)).trans ((tm_uj (by decide)).trans ((tm_uj (by decide)).trans ((tm_uj (by decide)).trans ((tm_uj (by decide)).trans (rfl))))), show (tm_up (tm_up (tm_up (tm_up (tm_up μ P 1 ((μ P 1) + ((min (max ((μ 31 h) - (μ P 1)) 0) (μ 30 1)) + (3 * (μ 32 h))))) P 3 ((μ P 3) + (((μ P 1) + ((min (max ((μ 31 h) - (μ P 1)) 0) (μ 30 1)) + (3 * (μ 32 h)))) - 20))) P 1 20) P 1 (max (20 - (μ 30 2)) 0)) P 0 ((h : Int) + 1)) 30 4 = μ 30 4 from (tm_uk (by omega)).trans ((tm_uk (by omega)).trans ((tm_uk (by omega)).trans ((tm_uk (by omega)).trans ((tm_uk (by omega)).trans (rfl)))))]
            subst hz9
            refine tv_iadd (pc := 187) C dX4_pass_187 ?_
            refine tv_icmp_ge (pc := 188) 193 C dX4_pass_188 (by decide) (by omega) (by omega) (fun h188 => ?_) (fun h188 => ?_)
            · skip
              refine tv_aload_n (pc := 193) 2 C dX4_pass_193 rfl rfl ?_
              refine tv_aload_n (pc := 194) 2 C dX4_pass_194 rfl rfl ?_
              refine tv_geti (pc := 195) (z := max (20 - (μ 30 2)) 0) C hkP rfl fl_X4_21 dX4_pass_195 ((tm_uj (by decide)).trans (tm_us)) ?_
              refine tv_getsN (pc := 198) 4 C (by decide) gs_X4_55 dX4_pass_198 ?_
              refine tv_iload_n (pc := 201) 4 C dX4_pass_201 rfl rfl ?_
              refine tv_sald (pc := 202) (z := 3 - g) 4 C (by decide) dX4_pass_202 (show 0 ≤ g ∧ g < ((3 : Nat) : Int) by omega) (by rcases (show g = 0 ∨ g = 1 ∨ g = 2 by omega) with rfl | rfl | rfl <;> rfl) ?_
              refine tv_isub (pc := 203) C dX4_pass_203 ?_
              refine tv_iconst (pc := 204) C dX4_pass_204 ?_
              refine tv_mmax (pc := 205) C mx_X4_33 (by omega) (by omega) dX4_pass_205 (Nat.le_of_ble_eq_true rfl) ?_
              refine tv_puti (pc := 208) C hkP rfl fp_X4_21 dX4_pass_208 ?_
              refine tv_aload_n (pc := 211) 2 C dX4_pass_211 rfl rfl ?_
              refine tv_dup (pc := 212) C dX4_pass_212 rfl ?_
              refine tv_geti (pc := 213) (z := μ P 2) C hkP rfl fl_X4_24 dX4_pass_213 ((tm_uj (by decide)).trans ((tm_uj (by decide)).trans ((tm_uj (by decide)).trans ((tm_uj (by decide)).trans ((tm_uj (by decide)).trans ((tm_uj (by decide)).trans (rfl))))))) ?_
              refine tv_iconst (pc := 216) C dX4_pass_216 ?_
              refine tv_iadd (pc := 217) C dX4_pass_217 ?_
              refine tv_puti (pc := 218) C hkP rfl fp_X4_24 dX4_pass_218 ?_
              refine tv_iconst (pc := 221) C dX4_pass_221 ?_
              refine tv_zret (pc := 222) C dX4_pass_222 (by omega) ?_
              have hg9 : sp_g (μ 33 h) g (sp_wet (μ 31 h) (μ P 1) (μ 30 1) (μ 32 h) (μ 30 2)) (μ 31 h) (μ 30 3) (μ P 2) (μ 30 4) = 1 := by unfold sp_g; first | (rw [if_pos (by omega)]; done) | (rw [if_neg (by omega), if_pos (by omega)]; done) | (rw [if_neg (by omega), if_neg (by omega), if_pos (by unfold sp_wet sp_fill; omega)]; done) | (rw [if_neg (by omega), if_neg (by omega), if_neg (by unfold sp_wet sp_fill; omega)]; done)
              refine ⟨_, rfl, hg9.symm, ?_⟩
              rw [hg9]
              refine tm_pd_of ((tm_uj (by decide)).trans ((tm_uj (by decide)).trans (tm_us))) (((tm_uj (by decide)).trans (tm_us)).trans (by unfold sp_wet sp_fill; omega)) ((tm_us).trans (by first | (rw [if_pos (by omega)]; done) | (rw [if_neg (by omega)]; done) | (rw [if_neg (by omega)]; omega))) (((tm_uj (by decide)).trans ((tm_uj (by decide)).trans ((tm_uj (by decide)).trans ((tm_uj (by decide)).trans ((tm_uj (by decide)).trans (tm_us)))))).trans (by unfold sp_spl sp_fill; omega)) (fun x hx => by simp only [tm_uf hx]) (fun j hj => by simp only [tm_uj (show j ≠ 0 by omega), tm_uj (show j ≠ 1 by omega), tm_uj (show j ≠ 2 by omega), tm_uj (show j ≠ 3 by omega)])
            · skip
              refine tv_iconst (pc := 191) C dX4_pass_191 ?_
              refine tv_zret (pc := 192) C dX4_pass_192 (by omega) ?_
              have hg9 : sp_g (μ 33 h) g (sp_wet (μ 31 h) (μ P 1) (μ 30 1) (μ 32 h) (μ 30 2)) (μ 31 h) (μ 30 3) (μ P 2) (μ 30 4) = 0 := by unfold sp_g; first | (rw [if_pos (by omega)]; done) | (rw [if_neg (by omega), if_pos (by omega)]; done) | (rw [if_neg (by omega), if_neg (by omega), if_pos (by unfold sp_wet sp_fill; omega)]; done) | (rw [if_neg (by omega), if_neg (by omega), if_neg (by unfold sp_wet sp_fill; omega)]; done)
              refine ⟨_, rfl, hg9.symm, ?_⟩
              rw [hg9]
              refine tm_pd_of (tm_us) (((tm_uj (by decide)).trans (tm_us)).trans (by unfold sp_wet sp_fill; omega)) (((tm_uj (by decide)).trans ((tm_uj (by decide)).trans ((tm_uj (by decide)).trans ((tm_uj (by decide)).trans ((tm_uj (by decide)).trans (rfl)))))).trans (by first | (rw [if_pos (by omega)]; done) | (rw [if_neg (by omega)]; done) | (rw [if_neg (by omega)]; omega))) (((tm_uj (by decide)).trans ((tm_uj (by decide)).trans ((tm_uj (by decide)).trans (tm_us)))).trans (by unfold sp_spl sp_fill; omega)) (fun x hx => by simp only [tm_uf hx]) (fun j hj => by simp only [tm_uj (show j ≠ 0 by omega), tm_uj (show j ≠ 1 by omega), tm_uj (show j ≠ 2 by omega), tm_uj (show j ≠ 3 by omega)])
        · skip
          refine tv_iconst (pc := 130) C dX4_pass_130 ?_
          refine tv_goto (pc := 131) 135 C dX4_pass_131 (by decide) ?_
          refine tv_istore (pc := 135) [(4, tm_i 1), (3, tm_i (μ 31 h)), (0, .ref (E.2.1 P)), (1, .ref (E.2.1 29)), (2, tm_i g)] C dX4_pass_135 (by decide) rfl ?_
          refine tv_aload_n (pc := 137) 2 C dX4_pass_137 rfl rfl ?_
          refine tv_dup (pc := 138) C dX4_pass_138 rfl ?_
          refine tv_geti (pc := 139) (z := (h : Int)) C hkP rfl fl_X4_9 dX4_pass_139 ((tm_uj (by decide)).trans ((tm_uj (by decide)).trans ((tm_uj (by decide)).trans ((tm_uj (by decide)).trans (hh))))) ?_
          refine tv_iconst (pc := 142) C dX4_pass_142 ?_
          refine tv_iadd (pc := 143) C dX4_pass_143 ?_
          refine tv_puti (pc := 144) C hkP rfl fp_X4_9 dX4_pass_144 ?_
          refine tv_iload (pc := 147) 0 C dX4_pass_147 rfl ?_
          refine tv_if_eq (pc := 149) 159 C dX4_pass_149 (by decide) (by omega) (fun q => absurd q (by decide)) (fun _ => ?_)
          refine tv_aload_n (pc := 152) 2 C dX4_pass_152 rfl rfl ?_
          refine tv_iconst (pc := 153) C dX4_pass_153 ?_
          refine tv_puti (pc := 154) C hkP rfl fp_X4_24 dX4_pass_154 ?_
          refine tv_iconst (pc := 157) C dX4_pass_157 ?_
          refine tv_zret (pc := 158) C dX4_pass_158 (by omega) ?_
          have hg9 : sp_g (μ 33 h) g (sp_wet (μ 31 h) (μ P 1) (μ 30 1) (μ 32 h) (μ 30 2)) (μ 31 h) (μ 30 3) (μ P 2) (μ 30 4) = 0 := by unfold sp_g; first | (rw [if_pos (by omega)]; done) | (rw [if_neg (by omega), if_pos (by omega)]; done) | (rw [if_neg (by omega), if_neg (by omega), if_pos (by unfold sp_wet sp_fill; omega)]; done) | (rw [if_neg (by omega), if_neg (by omega), if_neg (by unfold sp_wet sp_fill; omega)]; done)
          refine ⟨_, rfl, hg9.symm, ?_⟩
          rw [hg9]
          refine tm_pd_of ((tm_uj (by decide)).trans (tm_us)) (((tm_uj (by decide)).trans ((tm_uj (by decide)).trans (tm_us))).trans (by unfold sp_wet sp_fill; omega)) ((tm_us).trans (by first | (rw [if_pos (by omega)]; done) | (rw [if_neg (by omega)]; done) | (rw [if_neg (by omega)]; omega))) (((tm_uj (by decide)).trans ((tm_uj (by decide)).trans ((tm_uj (by decide)).trans ((tm_uj (by decide)).trans (tm_us))))).trans (by unfold sp_spl sp_fill; omega)) (fun x hx => by simp only [tm_uf hx]) (fun j hj => by simp only [tm_uj (show j ≠ 0 by omega), tm_uj (show j ≠ 1 by omega), tm_uj (show j ≠ 2 by omega), tm_uj (show j ≠ 3 by omega)])
    · skip
      exfalso; omega
theorem c4_begin_b (E : tm_Ev) (l : Launch) (μ : tm_M) (P : Nat) (hP : P = 50) (hkP : tm_tm[P]? = some (0, 4, [none, none, none, none])) : tm_Met E l yX4_begin cX4_begin 2 none 0 [.ref (E.2.1 P), .ref (E.2.1 43)] μ (tm_pv (fun μ' => μ' = tm_pd μ P 0 (μ 44 0) 0 0)) := by
  refine tm_intro [(0, .ref (E.2.1 P)), (1, .ref (E.2.1 43))] rfl (by decide +kernel) (Nat.le_of_ble_eq_true rfl) ?_
  intro X hX C
  subst hX
  refine tv_aload_n (pc := 0) 0 C dX4_begin_0 rfl rfl ?_
  refine tv_iconst (pc := 1) C dX4_begin_1 ?_
  refine tv_puti (pc := 2) C hkP rfl fp_X4_9 dX4_begin_2 ?_
  refine tv_aload_n (pc := 5) 0 C dX4_begin_5 rfl rfl ?_
  refine tv_aload_n (pc := 6) 1 C dX4_begin_6 rfl rfl ?_
  refine tv_getr (pc := 7) (q := 44) C rfl rfl fl_X4_15 dX4_begin_7 ?_
  refine tv_iconst (pc := 10) C dX4_begin_10 ?_
  refine tv_iald (pc := 11) (j := 0) (z := μ 44 0) C rfl dX4_begin_11 (by omega) rfl ((tm_uk (by omega)).trans (rfl)) ?_
  refine tv_puti (pc := 12) C hkP rfl fp_X4_21 dX4_begin_12 ?_
  refine tv_aload_n (pc := 15) 0 C dX4_begin_15 rfl rfl ?_
  refine tv_iconst (pc := 16) C dX4_begin_16 ?_
  refine tv_puti (pc := 17) C hkP rfl fp_X4_24 dX4_begin_17 ?_
  refine tv_aload_n (pc := 20) 0 C dX4_begin_20 rfl rfl ?_
  refine tv_iconst (pc := 21) C dX4_begin_21 ?_
  refine tv_puti (pc := 22) C hkP rfl fp_X4_27 dX4_begin_22 ?_
  refine tv_vret (pc := 25) C dX4_begin_25 ?_
  exact ⟨rfl, rfl⟩
theorem c4_dull_b (E : tm_Ev) (l : Launch) (μ : tm_M) (P : Nat) (hP : P = 50) (hkP : tm_tm[P]? = some (0, 4, [none, none, none, none])) (hw : 0 ≤ μ P 2 ∧ μ P 2 ≤ 1000) (hs : 1 ≤ μ 44 4 ∧ μ 44 4 ≤ 9) : tm_Met E l yX4_dullness cX4_dullness 3 (some .int) 0 [.ref (E.2.1 P), .ref (E.2.1 43)] μ (tm_pi (fun z μ' => z = μ P 2 / μ 44 4 ∧ μ' = μ)) := by
  refine tm_intro [(0, .ref (E.2.1 P)), (1, .ref (E.2.1 43))] rfl (by decide +kernel) (Nat.le_of_ble_eq_true rfl) ?_
  intro X hX C
  subst hX
  refine tv_aload_n (pc := 0) 1 C dX4_dullness_0 rfl rfl ?_
  refine tv_getr (pc := 1) (q := 44) C rfl rfl fl_X4_15 dX4_dullness_1 ?_
  refine tv_iconst (pc := 4) C dX4_dullness_4 ?_
  refine tv_iald (pc := 5) (j := 4) (z := μ 44 4) C rfl dX4_dullness_5 (by omega) rfl rfl ?_
  refine tv_istore_n (pc := 6) [(2, tm_i (μ 44 4)), (0, .ref (E.2.1 P)), (1, .ref (E.2.1 43))] C dX4_dullness_6 rfl (by decide) rfl ?_
  refine tv_iload_n (pc := 7) 0 C dX4_dullness_7 rfl rfl ?_
  refine tv_if_le (pc := 8) 20 C dX4_dullness_8 (by decide) (by omega) (fun h8 => ?_) (fun h8 => ?_)
  · skip
    exfalso; omega
  · skip
    refine tv_aload_n (pc := 11) 1 C dX4_dullness_11 rfl rfl ?_
    refine tv_geti (pc := 12) (z := μ P 2) C hkP rfl fl_X4_24 dX4_dullness_12 rfl ?_
    refine tv_iload_n (pc := 15) 0 C dX4_dullness_15 rfl rfl ?_
    refine tv_idiv (pc := 16) C dX4_dullness_16 (by omega) (by omega) ?_
    refine tv_goto (pc := 17) 21 C dX4_dullness_17 (by decide) ?_
    refine tv_iret (pc := 21) C dX4_dullness_21 ?_
    exact ⟨_, rfl, rfl, rfl⟩
set_option maxHeartbeats 4000000 in
theorem c4_pass_b (E : tm_Ev) (l : Launch) (μ : tm_M) (P : Nat) (hP : P = 50) (hkP : tm_tm[P]? = some (0, 4, [none, none, none, none])) (h : Nat) (g : Int) (hh : μ P 0 = (h : Int)) (hh2 : h < 40) (hg : g = -1 ∨ (0 ≤ g ∧ g ≤ 2)) (h1 : 0 ≤ μ P 1 ∧ μ P 1 ≤ 20) (h2 : 0 ≤ μ P 2 ∧ μ P 2 ≤ 1000) (h3 : 0 ≤ μ P 3 ∧ μ P 3 ≤ 100000) (hs : 0 ≤ μ 45 h ∧ μ 45 h ≤ 18) (hf : 1 ≤ μ 44 1 ∧ μ 44 1 ≤ 9) (hl : 0 ≤ μ 44 2 ∧ μ 44 2 ≤ 9) (hd : 0 ≤ μ 44 3 ∧ μ 44 3 ≤ 9) (hs4 : 1 ≤ μ 44 4 ∧ μ 44 4 ≤ 9) (hr : 0 ≤ μ 46 h ∧ μ 46 h ≤ 10) (hdr : 0 ≤ μ 47 h ∧ μ 47 h ≤ 10) : tm_Met E l yX4_pass cX4_pass 5 (some .boolean) 2 [.ref (E.2.1 P), .ref (E.2.1 43), tm_i g] μ (tm_pi (fun z μ' => z = sp_g (μ 47 h) g (sp_wet (μ 45 h) (μ P 1) (μ 44 1) (μ 46 h) (μ 44 2)) (μ 45 h) (μ 44 3) (μ P 2) (μ 44 4) ∧ μ' = tm_pd μ P ((h : Int) + 1) (sp_wet (μ 45 h) (μ P 1) (μ 44 1) (μ 46 h) (μ 44 2) - (sp_g (μ 47 h) g (sp_wet (μ 45 h) (μ P 1) (μ 44 1) (μ 46 h) (μ 44 2)) (μ 45 h) (μ 44 3) (μ P 2) (μ 44 4)) * min (sp_wet (μ 45 h) (μ P 1) (μ 44 1) (μ 46 h) (μ 44 2)) (3 - g)) (if 0 < μ 47 h then 0 else μ P 2 + (sp_g (μ 47 h) g (sp_wet (μ 45 h) (μ P 1) (μ 44 1) (μ 46 h) (μ 44 2)) (μ 45 h) (μ 44 3) (μ P 2) (μ 44 4))) (μ P 3 + sp_spl (μ 45 h) (μ P 1) (μ 44 1) (μ 46 h)))) := by
  refine tm_intro [(0, .ref (E.2.1 P)), (1, .ref (E.2.1 43)), (2, tm_i g)] rfl (by decide +kernel) (Nat.le_of_ble_eq_true rfl) ?_
  intro X hX C
  subst hX
  have hq4 : 0 ≤ μ P 2 / μ 44 4 ∧ μ P 2 / μ 44 4 ≤ 1000 := ⟨Int.ediv_nonneg h2.1 (by omega), Int.le_trans (Int.ediv_le_self _ h2.1) h2.2⟩
  refine tv_aload_n (pc := 0) 0 C dX4_pass_0 rfl rfl ?_
  refine tv_geti (pc := 1) (z := (h : Int)) C hkP rfl fl_X4_9 dX4_pass_1 hh ?_
  refine tv_if_lt (pc := 4) 16 C dX4_pass_4 (by decide) (by omega) (fun h4 => ?_) (fun h4 => ?_)
  · skip
    exfalso; omega
  · skip
    refine tv_aload_n (pc := 7) 0 C dX4_pass_7 rfl rfl ?_
    refine tv_geti (pc := 8) (z := (h : Int)) C hkP rfl fl_X4_9 dX4_pass_8 hh ?_
    refine tv_bipush (pc := 11) C dX4_pass_11 (by decide) ?_
    refine tv_icmp_lt (pc := 13) 18 C dX4_pass_13 (by decide) (by omega) (by omega) (fun h13 => ?_) (fun h13 => ?_)
    · skip
      refine tv_aload_n (pc := 18) 1 C dX4_pass_18 rfl rfl ?_
      refine tv_getr (pc := 19) (q := 45) C rfl rfl fl_X4_30 dX4_pass_19 ?_
      refine tv_aload_n (pc := 22) 0 C dX4_pass_22 rfl rfl ?_
      refine tv_geti (pc := 23) (z := (h : Int)) C hkP rfl fl_X4_9 dX4_pass_23 hh ?_
      refine tv_iald (pc := 26) (j := h) (z := μ 45 h) C rfl dX4_pass_26 (by omega) (Int.toNat_natCast _) rfl ?_
      refine tv_istore_n (pc := 27) [(3, tm_i (μ 45 h)), (0, .ref (E.2.1 P)), (1, .ref (E.2.1 43)), (2, tm_i g)] C dX4_pass_27 rfl (by decide) rfl ?_
      refine tv_aload_n (pc := 28) 1 C dX4_pass_28 rfl rfl ?_
      refine tv_dup (pc := 29) C dX4_pass_29 rfl ?_
      refine tv_geti (pc := 30) (z := μ P 1) C hkP rfl fl_X4_21 dX4_pass_30 rfl ?_
      refine tv_iload_n (pc := 33) 0 C dX4_pass_33 rfl rfl ?_
      refine tv_aload_n (pc := 34) 1 C dX4_pass_34 rfl rfl ?_
      refine tv_geti (pc := 35) (z := μ P 1) C hkP rfl fl_X4_21 dX4_pass_35 rfl ?_
      refine tv_isub (pc := 38) C dX4_pass_38 ?_
      refine tv_iconst (pc := 39) C dX4_pass_39 ?_
      refine tv_mmax (pc := 40) C mx_X4_33 (by omega) (by omega) dX4_pass_40 (Nat.le_of_ble_eq_true rfl) ?_
      refine tv_aload_n (pc := 43) 2 C dX4_pass_43 rfl rfl ?_
      refine tv_getr (pc := 44) (q := 44) C rfl rfl fl_X4_15 dX4_pass_44 ?_
      refine tv_iconst (pc := 47) C dX4_pass_47 ?_
      refine tv_iald (pc := 48) (j := 1) (z := μ 44 1) C rfl dX4_pass_48 (by omega) rfl rfl ?_
      refine tv_mmin (pc := 49) C mx_X4_39 (by omega) (by omega) dX4_pass_49 (Nat.le_of_ble_eq_true rfl) ?_
      refine tv_iconst (pc := 52) C dX4_pass_52 ?_
      refine tv_aload_n (pc := 53) 2 C dX4_pass_53 rfl rfl ?_
      refine tv_getr (pc := 54) (q := 46) C rfl rfl fl_X4_42 dX4_pass_54 ?_
      refine tv_aload_n (pc := 57) 1 C dX4_pass_57 rfl rfl ?_
      refine tv_geti (pc := 58) (z := (h : Int)) C hkP rfl fl_X4_9 dX4_pass_58 hh ?_
      refine tv_iald (pc := 61) (j := h) (z := μ 46 h) C rfl dX4_pass_61 (by omega) (Int.toNat_natCast _) rfl ?_
      refine tv_imul (pc := 62) C dX4_pass_62 ?_
      refine tv_iadd (pc := 63) C dX4_pass_63 ?_
      refine tv_iadd (pc := 64) C dX4_pass_64 ?_
      refine tv_puti (pc := 65) C hkP rfl fp_X4_21 dX4_pass_65 ?_
      refine tv_aload_n (pc := 68) 1 C dX4_pass_68 rfl rfl ?_
      refine tv_geti (pc := 69) (z := (μ P 1) + ((min (max ((μ 45 h) - (μ P 1)) 0) (μ 44 1)) + (3 * (μ 46 h)))) C hkP rfl fl_X4_21 dX4_pass_69 tm_us ?_
      refine tv_bipush (pc := 72) C dX4_pass_72 (by decide) ?_
      refine tv_icmp_le (pc := 74) 99 C dX4_pass_74 (by decide) (by omega) (by omega) (fun h74 => ?_) (fun h74 => ?_)
      · skip
        refine tv_aload_n (pc := 99) 1 C dX4_pass_99 rfl rfl ?_
        refine tv_aload_n (pc := 100) 1 C dX4_pass_100 rfl rfl ?_
        refine tv_geti (pc := 101) (z := (μ P 1) + ((min (max ((μ 45 h) - (μ P 1)) 0) (μ 44 1)) + (3 * (μ 46 h)))) C hkP rfl fl_X4_21 dX4_pass_101 tm_us ?_
        refine tv_aload_n (pc := 104) 2 C dX4_pass_104 rfl rfl ?_
        refine tv_getr (pc := 105) (q := 44) C rfl rfl fl_X4_15 dX4_pass_105 ?_
        refine tv_iconst (pc := 108) C dX4_pass_108 ?_
        refine tv_iald (pc := 109) (j := 2) (z := μ 44 2) C rfl dX4_pass_109 (by omega) rfl ((tm_uk (by omega)).trans (rfl)) ?_
        refine tv_isub (pc := 110) C dX4_pass_110 ?_
        refine tv_iconst (pc := 111) C dX4_pass_111 ?_
        refine tv_mmax (pc := 112) C mx_X4_33 (by omega) (by omega) dX4_pass_112 (Nat.le_of_ble_eq_true rfl) ?_
        refine tv_puti (pc := 115) C hkP rfl fp_X4_21 dX4_pass_115 ?_
        refine tv_aload_n (pc := 118) 2 C dX4_pass_118 rfl rfl ?_
        refine tv_getr (pc := 119) (q := 47) C rfl rfl fl_X4_45 dX4_pass_119 ?_
        refine tv_aload_n (pc := 122) 1 C dX4_pass_122 rfl rfl ?_
        refine tv_geti (pc := 123) (z := (h : Int)) C hkP rfl fl_X4_9 dX4_pass_123 ((tm_uj (by decide)).trans ((tm_uj (by decide)).trans (hh))) ?_
        refine tv_iald (pc := 126) (j := h) (z := μ 47 h) C rfl dX4_pass_126 (by omega) (Int.toNat_natCast _) ((tm_uk (by omega)).trans ((tm_uk (by omega)).trans (rfl))) ?_
        refine tv_if_le (pc := 127) 134 C dX4_pass_127 (by decide) (by omega) (fun h127 => ?_) (fun h127 => ?_)
        · skip
          refine tv_iconst (pc := 134) C dX4_pass_134 ?_
          refine tv_istore (pc := 135) [(4, tm_i 0), (3, tm_i (μ 45 h)), (0, .ref (E.2.1 P)), (1, .ref (E.2.1 43)), (2, tm_i g)] C dX4_pass_135 (by decide) rfl ?_
          refine tv_aload_n (pc := 137) 2 C dX4_pass_137 rfl rfl ?_
          refine tv_dup (pc := 138) C dX4_pass_138 rfl ?_
          refine tv_geti (pc := 139) (z := (h : Int)) C hkP rfl fl_X4_9 dX4_pass_139 ((tm_uj (by decide)).trans ((tm_uj (by decide)).trans (hh))) ?_
          refine tv_iconst (pc := 142) C dX4_pass_142 ?_
          refine tv_iadd (pc := 143) C dX4_pass_143 ?_
          refine tv_puti (pc := 144) C hkP rfl fp_X4_9 dX4_pass_144 ?_
          refine tv_iload (pc := 147) 0 C dX4_pass_147 rfl ?_
          refine tv_if_eq (pc := 149) 159 C dX4_pass_149 (by decide) (by omega) (fun _ => ?_) (fun q => absurd q (by decide))
          refine tv_iload_n (pc := 159) 4 C dX4_pass_159 rfl rfl ?_
          refine tv_iconst (pc := 160) C dX4_pass_160 ?_
          refine tv_icmp_eq (pc := 161) 191 C dX4_pass_161 (by decide) (by omega) (by omega) (fun h161 => ?_) (fun h161 => ?_)
          · skip
            refine tv_iconst (pc := 191) C dX4_pass_191 ?_
            refine tv_zret (pc := 192) C dX4_pass_192 (by omega) ?_
            have hg9 : sp_g (μ 47 h) g (sp_wet (μ 45 h) (μ P 1) (μ 44 1) (μ 46 h) (μ 44 2)) (μ 45 h) (μ 44 3) (μ P 2) (μ 44 4) = 0 := by unfold sp_g; first | (rw [if_pos (by omega)]; done) | (rw [if_neg (by omega), if_pos (by omega)]; done) | (rw [if_neg (by omega), if_neg (by omega), if_pos (by unfold sp_wet sp_fill; omega)]; done) | (rw [if_neg (by omega), if_neg (by omega), if_neg (by unfold sp_wet sp_fill; omega)]; done)
            refine ⟨_, rfl, hg9.symm, ?_⟩
            rw [hg9]
            refine tm_pd_of (tm_us) (((tm_uj (by decide)).trans (tm_us)).trans (by unfold sp_wet sp_fill; omega)) (((tm_uj (by decide)).trans ((tm_uj (by decide)).trans ((tm_uj (by decide)).trans (rfl)))).trans (by first | (rw [if_pos (by omega)]; done) | (rw [if_neg (by omega)]; done) | (rw [if_neg (by omega)]; omega))) (((tm_uj (by decide)).trans ((tm_uj (by decide)).trans ((tm_uj (by decide)).trans (rfl)))).trans (by unfold sp_spl sp_fill; omega)) (fun x hx => by simp only [tm_uf hx]) (fun j hj => by simp only [tm_uj (show j ≠ 0 by omega), tm_uj (show j ≠ 1 by omega), tm_uj (show j ≠ 2 by omega), tm_uj (show j ≠ 3 by omega)])
          · skip
            refine tv_aload_n (pc := 164) 2 C dX4_pass_164 rfl rfl ?_
            refine tv_geti (pc := 165) (z := max (((μ P 1) + ((min (max ((μ 45 h) - (μ P 1)) 0) (μ 44 1)) + (3 * (μ 46 h)))) - (μ 44 2)) 0) C hkP rfl fl_X4_21 dX4_pass_165 ((tm_uj (by decide)).trans (tm_us)) ?_
            refine tv_iload_n (pc := 168) 1 C dX4_pass_168 rfl rfl ?_
            refine tv_isub (pc := 169) C dX4_pass_169 ?_
            refine tv_aload_n (pc := 170) 3 C dX4_pass_170 rfl rfl ?_
            refine tv_getr (pc := 171) (q := 44) C rfl rfl fl_X4_15 dX4_pass_171 ?_
            refine tv_iconst (pc := 174) C dX4_pass_174 ?_
            refine tv_iald (pc := 175) (j := 3) (z := μ 44 3) C rfl dX4_pass_175 (by omega) rfl ((tm_uk (by omega)).trans ((tm_uk (by omega)).trans ((tm_uk (by omega)).trans (rfl)))) ?_
            refine tv_getsN (pc := 176) 3 C (by decide) gs_X4_48 dX4_pass_176 ?_
            refine tv_iload_n (pc := 179) 4 C dX4_pass_179 rfl rfl ?_
            refine tv_sald (pc := 180) (z := 2 - g) 3 C (by decide) dX4_pass_180 (show 0 ≤ g ∧ g < ((3 : Nat) : Int) by omega) (by rcases (show g = 0 ∨ g = 1 ∨ g = 2 by omega) with rfl | rfl | rfl <;> rfl) ?_
            refine tv_iadd (pc := 181) C dX4_pass_181 ?_
            refine tv_aload_n (pc := 182) 2 C dX4_pass_182 rfl rfl ?_
            refine tv_aload_n (pc := 183) 3 C dX4_pass_183 rfl rfl ?_
            refine tv_callV (pc := 184) [.ref (E.2.1 43)] [tm_i ((μ 44 3) + (2 - g)), tm_i ((max (((μ P 1) + ((min (max ((μ 45 h) - (μ P 1)) 0) (μ 44 1)) + (3 * (μ 46 h)))) - (μ 44 2)) 0) - (μ 45 h))] C (c4_dull_b E _ (tm_up (tm_up (tm_up μ P 1 ((μ P 1) + ((min (max ((μ 45 h) - (μ P 1)) 0) (μ 44 1)) + (3 * (μ 46 h))))) P 1 (max (((μ P 1) + ((min (max ((μ 45 h) - (μ P 1)) 0) (μ 44 1)) + (3 * (μ 46 h)))) - (μ 44 2)) 0)) P 0 ((h : Int) + 1)) P hP hkP (by rw [show (tm_up (tm_up (tm_up μ P 1 ((μ P 1) + ((min (max ((μ 45 h) - (μ P 1)) 0) (μ 44 1)) + (3 * (μ 46 h))))) P 1 (max (((μ P 1) + ((min (max ((μ 45 h) - (μ P 1)) 0) (μ 44 1)) + (3 * (μ 46 h)))) - (μ 44 2)) 0)) P 0 ((h : Int) + 1)) P 2 = μ P 2 from (tm_uj (by decide)).trans ((tm_uj (by decide)).trans ((tm_uj (by decide)).trans (rfl)))]; omega) (by rw [show (tm_up (tm_up (tm_up μ P 1 ((μ P 1) + ((min (max ((μ 45 h) - (μ P 1)) 0) (μ 44 1)) + (3 * (μ 46 h))))) P 1 (max (((μ P 1) + ((min (max ((μ 45 h) - (μ P 1)) 0) (μ 44 1)) + (3 * (μ 46 h)))) - (μ 44 2)) 0)) P 0 ((h : Int) + 1)) 44 4 = μ 44 4 from (tm_uk (by omega)).trans ((tm_uk (by omega)).trans ((tm_uk (by omega)).trans (rfl)))]; omega)) cv_X4_51 hkP rfl (by decide) rfl (Nat.le_of_ble_eq_true rfl) rfl dX4_pass_184 (tm_ki ?_)
            rintro z9 μ9 ⟨hz9, rfl⟩
            have hz9 : z9 = μ P 2 / μ 44 4 := by rw [hz9, show (tm_up (tm_up (tm_up μ P 1 ((μ P 1) + ((min (max ((μ 45 h) - (μ P 1)) 0) (μ 44 1)) + (3 * (μ 46 h))))) P 1 (max (((μ P 1) + ((min (max ((μ 45 h) - (μ P 1)) 0) (μ 44 1)) + (3 * (μ 46 h)))) - (μ 44 2)) 0)) P 0 ((h : Int) + 1)) P 2 = μ P 2 from (tm_uj (by decide)).trans ((tm_uj (by decide)).trans ((tm_uj (by decide)).trans (rfl))), show (tm_up (tm_up (tm_up μ P 1 ((μ P 1) + ((min (max ((μ 45 h) - (μ P 1)) 0) (μ 44 1)) + (3 * (μ 46 h))))) P 1 (max (((μ P 1) + ((min (max ((μ 45 h) - (μ P 1)) 0) (μ 44 1)) + (3 * (μ 46 h)))) - (μ 44 2)) 0)) P 0 ((h : Int) + 1)) 44 4 = μ 44 4 from (tm_uk (by omega)).trans ((tm_uk (by omega)).trans ((tm_uk (by omega)).trans (rfl)))]
            subst hz9
            refine tv_iadd (pc := 187) C dX4_pass_187 ?_
            refine tv_icmp_ge (pc := 188) 193 C dX4_pass_188 (by decide) (by omega) (by omega) (fun h188 => ?_) (fun h188 => ?_)
            · skip
              refine tv_aload_n (pc := 193) 2 C dX4_pass_193 rfl rfl ?_
              refine tv_aload_n (pc := 194) 2 C dX4_pass_194 rfl rfl ?_
              refine tv_geti (pc := 195) (z := max (((μ P 1) + ((min (max ((μ 45 h) - (μ P 1)) 0) (μ 44 1)) + (3 * (μ 46 h)))) - (μ 44 2)) 0) C hkP rfl fl_X4_21 dX4_pass_195 ((tm_uj (by decide)).trans (tm_us)) ?_
              refine tv_getsN (pc := 198) 4 C (by decide) gs_X4_55 dX4_pass_198 ?_
              refine tv_iload_n (pc := 201) 4 C dX4_pass_201 rfl rfl ?_
              refine tv_sald (pc := 202) (z := 3 - g) 4 C (by decide) dX4_pass_202 (show 0 ≤ g ∧ g < ((3 : Nat) : Int) by omega) (by rcases (show g = 0 ∨ g = 1 ∨ g = 2 by omega) with rfl | rfl | rfl <;> rfl) ?_
              refine tv_isub (pc := 203) C dX4_pass_203 ?_
              refine tv_iconst (pc := 204) C dX4_pass_204 ?_
              refine tv_mmax (pc := 205) C mx_X4_33 (by omega) (by omega) dX4_pass_205 (Nat.le_of_ble_eq_true rfl) ?_
              refine tv_puti (pc := 208) C hkP rfl fp_X4_21 dX4_pass_208 ?_
              refine tv_aload_n (pc := 211) 2 C dX4_pass_211 rfl rfl ?_
              refine tv_dup (pc := 212) C dX4_pass_212 rfl ?_
              refine tv_geti (pc := 213) (z := μ P 2) C hkP rfl fl_X4_24 dX4_pass_213 ((tm_uj (by decide)).trans ((tm_uj (by decide)).trans ((tm_uj (by decide)).trans ((tm_uj (by decide)).trans (rfl))))) ?_
              refine tv_iconst (pc := 216) C dX4_pass_216 ?_
              refine tv_iadd (pc := 217) C dX4_pass_217 ?_
              refine tv_puti (pc := 218) C hkP rfl fp_X4_24 dX4_pass_218 ?_
              refine tv_iconst (pc := 221) C dX4_pass_221 ?_
              refine tv_zret (pc := 222) C dX4_pass_222 (by omega) ?_
              have hg9 : sp_g (μ 47 h) g (sp_wet (μ 45 h) (μ P 1) (μ 44 1) (μ 46 h) (μ 44 2)) (μ 45 h) (μ 44 3) (μ P 2) (μ 44 4) = 1 := by unfold sp_g; first | (rw [if_pos (by omega)]; done) | (rw [if_neg (by omega), if_pos (by omega)]; done) | (rw [if_neg (by omega), if_neg (by omega), if_pos (by unfold sp_wet sp_fill; omega)]; done) | (rw [if_neg (by omega), if_neg (by omega), if_neg (by unfold sp_wet sp_fill; omega)]; done)
              refine ⟨_, rfl, hg9.symm, ?_⟩
              rw [hg9]
              refine tm_pd_of ((tm_uj (by decide)).trans ((tm_uj (by decide)).trans (tm_us))) (((tm_uj (by decide)).trans (tm_us)).trans (by unfold sp_wet sp_fill; omega)) ((tm_us).trans (by first | (rw [if_pos (by omega)]; done) | (rw [if_neg (by omega)]; done) | (rw [if_neg (by omega)]; omega))) (((tm_uj (by decide)).trans ((tm_uj (by decide)).trans ((tm_uj (by decide)).trans ((tm_uj (by decide)).trans ((tm_uj (by decide)).trans (rfl)))))).trans (by unfold sp_spl sp_fill; omega)) (fun x hx => by simp only [tm_uf hx]) (fun j hj => by simp only [tm_uj (show j ≠ 0 by omega), tm_uj (show j ≠ 1 by omega), tm_uj (show j ≠ 2 by omega), tm_uj (show j ≠ 3 by omega)])
            · skip
              refine tv_iconst (pc := 191) C dX4_pass_191 ?_
              refine tv_zret (pc := 192) C dX4_pass_192 (by omega) ?_
              have hg9 : sp_g (μ 47 h) g (sp_wet (μ 45 h) (μ P 1) (μ 44 1) (μ 46 h) (μ 44 2)) (μ 45 h) (μ 44 3) (μ P 2) (μ 44 4) = 0 := by unfold sp_g; first | (rw [if_pos (by omega)]; done) | (rw [if_neg (by omega), if_pos (by omega)]; done) | (rw [if_neg (by omega), if_neg (by omega), if_pos (by unfold sp_wet sp_fill; omega)]; done) | (rw [if_neg (by omega), if_neg (by omega), if_neg (by unfold sp_wet sp_fill; omega)]; done)
              refine ⟨_, rfl, hg9.symm, ?_⟩
              rw [hg9]
              refine tm_pd_of (tm_us) (((tm_uj (by decide)).trans (tm_us)).trans (by unfold sp_wet sp_fill; omega)) (((tm_uj (by decide)).trans ((tm_uj (by decide)).trans ((tm_uj (by decide)).trans (rfl)))).trans (by first | (rw [if_pos (by omega)]; done) | (rw [if_neg (by omega)]; done) | (rw [if_neg (by omega)]; omega))) (((tm_uj (by decide)).trans ((tm_uj (by decide)).trans ((tm_uj (by decide)).trans (rfl)))).trans (by unfold sp_spl sp_fill; omega)) (fun x hx => by simp only [tm_uf hx]) (fun j hj => by simp only [tm_uj (show j ≠ 0 by omega), tm_uj (show j ≠ 1 by omega), tm_uj (show j ≠ 2 by omega), tm_uj (show j ≠ 3 by omega)])
        · skip
          refine tv_iconst (pc := 130) C dX4_pass_130 ?_
          refine tv_goto (pc := 131) 135 C dX4_pass_131 (by decide) ?_
          refine tv_istore (pc := 135) [(4, tm_i 1), (3, tm_i (μ 45 h)), (0, .ref (E.2.1 P)), (1, .ref (E.2.1 43)), (2, tm_i g)] C dX4_pass_135 (by decide) rfl ?_
          refine tv_aload_n (pc := 137) 2 C dX4_pass_137 rfl rfl ?_
          refine tv_dup (pc := 138) C dX4_pass_138 rfl ?_
          refine tv_geti (pc := 139) (z := (h : Int)) C hkP rfl fl_X4_9 dX4_pass_139 ((tm_uj (by decide)).trans ((tm_uj (by decide)).trans (hh))) ?_
          refine tv_iconst (pc := 142) C dX4_pass_142 ?_
          refine tv_iadd (pc := 143) C dX4_pass_143 ?_
          refine tv_puti (pc := 144) C hkP rfl fp_X4_9 dX4_pass_144 ?_
          refine tv_iload (pc := 147) 0 C dX4_pass_147 rfl ?_
          refine tv_if_eq (pc := 149) 159 C dX4_pass_149 (by decide) (by omega) (fun q => absurd q (by decide)) (fun _ => ?_)
          refine tv_aload_n (pc := 152) 2 C dX4_pass_152 rfl rfl ?_
          refine tv_iconst (pc := 153) C dX4_pass_153 ?_
          refine tv_puti (pc := 154) C hkP rfl fp_X4_24 dX4_pass_154 ?_
          refine tv_iconst (pc := 157) C dX4_pass_157 ?_
          refine tv_zret (pc := 158) C dX4_pass_158 (by omega) ?_
          have hg9 : sp_g (μ 47 h) g (sp_wet (μ 45 h) (μ P 1) (μ 44 1) (μ 46 h) (μ 44 2)) (μ 45 h) (μ 44 3) (μ P 2) (μ 44 4) = 0 := by unfold sp_g; first | (rw [if_pos (by omega)]; done) | (rw [if_neg (by omega), if_pos (by omega)]; done) | (rw [if_neg (by omega), if_neg (by omega), if_pos (by unfold sp_wet sp_fill; omega)]; done) | (rw [if_neg (by omega), if_neg (by omega), if_neg (by unfold sp_wet sp_fill; omega)]; done)
          refine ⟨_, rfl, hg9.symm, ?_⟩
          rw [hg9]
          refine tm_pd_of ((tm_uj (by decide)).trans (tm_us)) (((tm_uj (by decide)).trans ((tm_uj (by decide)).trans (tm_us))).trans (by unfold sp_wet sp_fill; omega)) ((tm_us).trans (by first | (rw [if_pos (by omega)]; done) | (rw [if_neg (by omega)]; done) | (rw [if_neg (by omega)]; omega))) (((tm_uj (by decide)).trans ((tm_uj (by decide)).trans ((tm_uj (by decide)).trans ((tm_uj (by decide)).trans (rfl))))).trans (by unfold sp_spl sp_fill; omega)) (fun x hx => by simp only [tm_uf hx]) (fun j hj => by simp only [tm_uj (show j ≠ 0 by omega), tm_uj (show j ≠ 1 by omega), tm_uj (show j ≠ 2 by omega), tm_uj (show j ≠ 3 by omega)])
      · skip
        refine tv_aload_n (pc := 77) 1 C dX4_pass_77 rfl rfl ?_
        refine tv_dup (pc := 78) C dX4_pass_78 rfl ?_
        refine tv_geti (pc := 79) (z := μ P 3) C hkP rfl fl_X4_27 dX4_pass_79 ((tm_uj (by decide)).trans (rfl)) ?_
        refine tv_aload_n (pc := 82) 1 C dX4_pass_82 rfl rfl ?_
        refine tv_geti (pc := 83) (z := (μ P 1) + ((min (max ((μ 45 h) - (μ P 1)) 0) (μ 44 1)) + (3 * (μ 46 h)))) C hkP rfl fl_X4_21 dX4_pass_83 tm_us ?_
        refine tv_bipush (pc := 86) C dX4_pass_86 (by decide) ?_
        refine tv_isub (pc := 88) C dX4_pass_88 ?_
        refine tv_iadd (pc := 89) C dX4_pass_89 ?_
        refine tv_puti (pc := 90) C hkP rfl fp_X4_27 dX4_pass_90 ?_
        refine tv_aload_n (pc := 93) 1 C dX4_pass_93 rfl rfl ?_
        refine tv_bipush (pc := 94) C dX4_pass_94 (by decide) ?_
        refine tv_puti (pc := 96) C hkP rfl fp_X4_21 dX4_pass_96 ?_
        refine tv_aload_n (pc := 99) 1 C dX4_pass_99 rfl rfl ?_
        refine tv_aload_n (pc := 100) 1 C dX4_pass_100 rfl rfl ?_
        refine tv_geti (pc := 101) (z := 20) C hkP rfl fl_X4_21 dX4_pass_101 tm_us ?_
        refine tv_aload_n (pc := 104) 2 C dX4_pass_104 rfl rfl ?_
        refine tv_getr (pc := 105) (q := 44) C rfl rfl fl_X4_15 dX4_pass_105 ?_
        refine tv_iconst (pc := 108) C dX4_pass_108 ?_
        refine tv_iald (pc := 109) (j := 2) (z := μ 44 2) C rfl dX4_pass_109 (by omega) rfl ((tm_uk (by omega)).trans ((tm_uk (by omega)).trans ((tm_uk (by omega)).trans (rfl)))) ?_
        refine tv_isub (pc := 110) C dX4_pass_110 ?_
        refine tv_iconst (pc := 111) C dX4_pass_111 ?_
        refine tv_mmax (pc := 112) C mx_X4_33 (by omega) (by omega) dX4_pass_112 (Nat.le_of_ble_eq_true rfl) ?_
        refine tv_puti (pc := 115) C hkP rfl fp_X4_21 dX4_pass_115 ?_
        refine tv_aload_n (pc := 118) 2 C dX4_pass_118 rfl rfl ?_
        refine tv_getr (pc := 119) (q := 47) C rfl rfl fl_X4_45 dX4_pass_119 ?_
        refine tv_aload_n (pc := 122) 1 C dX4_pass_122 rfl rfl ?_
        refine tv_geti (pc := 123) (z := (h : Int)) C hkP rfl fl_X4_9 dX4_pass_123 ((tm_uj (by decide)).trans ((tm_uj (by decide)).trans ((tm_uj (by decide)).trans ((tm_uj (by decide)).trans (hh))))) ?_
        refine tv_iald (pc := 126) (j := h) (z := μ 47 h) C rfl dX4_pass_126 (by omega) (Int.toNat_natCast _) ((tm_uk (by omega)).trans ((tm_uk (by omega)).trans ((tm_uk (by omega)).trans ((tm_uk (by omega)).trans (rfl))))) ?_
        refine tv_if_le (pc := 127) 134 C dX4_pass_127 (by decide) (by omega) (fun h127 => ?_) (fun h127 => ?_)
        · skip
          refine tv_iconst (pc := 134) C dX4_pass_134 ?_
          refine tv_istore (pc := 135) [(4, tm_i 0), (3, tm_i (μ 45 h)), (0, .ref (E.2.1 P)), (1, .ref (E.2.1 43)), (2, tm_i g)] C dX4_pass_135 (by decide) rfl ?_
          refine tv_aload_n (pc := 137) 2 C dX4_pass_137 rfl rfl ?_
          refine tv_dup (pc := 138) C dX4_pass_138 rfl ?_
          refine tv_geti (pc := 139) (z := (h : Int)) C hkP rfl fl_X4_9 dX4_pass_139 ((tm_uj (by decide)).trans ((tm_uj (by decide)).trans ((tm_uj (by decide)).trans ((tm_uj (by decide)).trans (hh))))) ?_
          refine tv_iconst (pc := 142) C dX4_pass_142 ?_
          refine tv_iadd (pc := 143) C dX4_pass_143 ?_
          refine tv_puti (pc := 144) C hkP rfl fp_X4_9 dX4_pass_144 ?_
          refine tv_iload (pc := 147) 0 C dX4_pass_147 rfl ?_
          refine tv_if_eq (pc := 149) 159 C dX4_pass_149 (by decide) (by omega) (fun _ => ?_) (fun q => absurd q (by decide))
          refine tv_iload_n (pc := 159) 4 C dX4_pass_159 rfl rfl ?_
          refine tv_iconst (pc := 160) C dX4_pass_160 ?_
          refine tv_icmp_eq (pc := 161) 191 C dX4_pass_161 (by decide) (by omega) (by omega) (fun h161 => ?_) (fun h161 => ?_)
          · skip
            refine tv_iconst (pc := 191) C dX4_pass_191 ?_
            refine tv_zret (pc := 192) C dX4_pass_192 (by omega) ?_
            have hg9 : sp_g (μ 47 h) g (sp_wet (μ 45 h) (μ P 1) (μ 44 1) (μ 46 h) (μ 44 2)) (μ 45 h) (μ 44 3) (μ P 2) (μ 44 4) = 0 := by unfold sp_g; first | (rw [if_pos (by omega)]; done) | (rw [if_neg (by omega), if_pos (by omega)]; done) | (rw [if_neg (by omega), if_neg (by omega), if_pos (by unfold sp_wet sp_fill; omega)]; done) | (rw [if_neg (by omega), if_neg (by omega), if_neg (by unfold sp_wet sp_fill; omega)]; done)
            refine ⟨_, rfl, hg9.symm, ?_⟩
            rw [hg9]
            refine tm_pd_of (tm_us) (((tm_uj (by decide)).trans (tm_us)).trans (by unfold sp_wet sp_fill; omega)) (((tm_uj (by decide)).trans ((tm_uj (by decide)).trans ((tm_uj (by decide)).trans ((tm_uj (by decide)).trans ((tm_uj (by decide)).trans (rfl)))))).trans (by first | (rw [if_pos (by omega)]; done) | (rw [if_neg (by omega)]; done) | (rw [if_neg (by omega)]; omega))) (((tm_uj (by decide)).trans ((tm_uj (by decide)).trans ((tm_uj (by decide)).trans (tm_us)))).trans (by unfold sp_spl sp_fill; omega)) (fun x hx => by simp only [tm_uf hx]) (fun j hj => by simp only [tm_uj (show j ≠ 0 by omega), tm_uj (show j ≠ 1 by omega), tm_uj (show j ≠ 2 by omega), tm_uj (show j ≠ 3 by omega)])
          · skip
            refine tv_aload_n (pc := 164) 2 C dX4_pass_164 rfl rfl ?_
            refine tv_geti (pc := 165) (z := max (20 - (μ 44 2)) 0) C hkP rfl fl_X4_21 dX4_pass_165 ((tm_uj (by decide)).trans (tm_us)) ?_
            refine tv_iload_n (pc := 168) 1 C dX4_pass_168 rfl rfl ?_
            refine tv_isub (pc := 169) C dX4_pass_169 ?_
            refine tv_aload_n (pc := 170) 3 C dX4_pass_170 rfl rfl ?_
            refine tv_getr (pc := 171) (q := 44) C rfl rfl fl_X4_15 dX4_pass_171 ?_
            refine tv_iconst (pc := 174) C dX4_pass_174 ?_
            refine tv_iald (pc := 175) (j := 3) (z := μ 44 3) C rfl dX4_pass_175 (by omega) rfl ((tm_uk (by omega)).trans ((tm_uk (by omega)).trans ((tm_uk (by omega)).trans ((tm_uk (by omega)).trans ((tm_uk (by omega)).trans (rfl)))))) ?_
            refine tv_getsN (pc := 176) 3 C (by decide) gs_X4_48 dX4_pass_176 ?_
            refine tv_iload_n (pc := 179) 4 C dX4_pass_179 rfl rfl ?_
            refine tv_sald (pc := 180) (z := 2 - g) 3 C (by decide) dX4_pass_180 (show 0 ≤ g ∧ g < ((3 : Nat) : Int) by omega) (by rcases (show g = 0 ∨ g = 1 ∨ g = 2 by omega) with rfl | rfl | rfl <;> rfl) ?_
            refine tv_iadd (pc := 181) C dX4_pass_181 ?_
            refine tv_aload_n (pc := 182) 2 C dX4_pass_182 rfl rfl ?_
            refine tv_aload_n (pc := 183) 3 C dX4_pass_183 rfl rfl ?_
            refine tv_callV (pc := 184) [.ref (E.2.1 43)] [tm_i ((μ 44 3) + (2 - g)), tm_i ((max (20 - (μ 44 2)) 0) - (μ 45 h))] C (c4_dull_b E _ (tm_up (tm_up (tm_up (tm_up (tm_up μ P 1 ((μ P 1) + ((min (max ((μ 45 h) - (μ P 1)) 0) (μ 44 1)) + (3 * (μ 46 h))))) P 3 ((μ P 3) + (((μ P 1) + ((min (max ((μ 45 h) - (μ P 1)) 0) (μ 44 1)) + (3 * (μ 46 h)))) - 20))) P 1 20) P 1 (max (20 - (μ 44 2)) 0)) P 0 ((h : Int) + 1)) P hP hkP (by rw [show (tm_up (tm_up (tm_up (tm_up (tm_up μ P 1 ((μ P 1) + ((min (max ((μ 45 h) - (μ P 1)) 0) (μ 44 1)) + (3 * (μ 46 h))))) P 3 ((μ P 3) + (((μ P 1) + ((min (max ((μ 45 h) - (μ P 1)) 0) (μ 44 1)) + (3 * (μ 46 h)))) - 20))) P 1 20) P 1 (max (20 - (μ 44 2)) 0)) P 0 ((h : Int) + 1)) P 2 = μ P 2 from (tm_uj (by decide)).trans ((tm_uj (by decide)).trans ((tm_uj (by decide)).trans ((tm_uj (by decide)).trans ((tm_uj (by decide)).trans (rfl)))))]; omega) (by rw [show (tm_up (tm_up (tm_up (tm_up (tm_up μ P 1 ((μ P 1) + ((min (max ((μ 45 h) - (μ P 1)) 0) (μ 44 1)) + (3 * (μ 46 h))))) P 3 ((μ P 3) + (((μ P 1) + ((min (max ((μ 45 h) - (μ P 1)) 0) (μ 44 1)) + (3 * (μ 46 h)))) - 20))) P 1 20) P 1 (max (20 - (μ 44 2)) 0)) P 0 ((h : Int) + 1)) 44 4 = μ 44 4 from (tm_uk (by omega)).trans ((tm_uk (by omega)).trans ((tm_uk (by omega)).trans ((tm_uk (by omega)).trans ((tm_uk (by omega)).trans (rfl)))))]; omega)) cv_X4_51 hkP rfl (by decide) rfl (Nat.le_of_ble_eq_true rfl) rfl dX4_pass_184 (tm_ki ?_)
            rintro z9 μ9 ⟨hz9, rfl⟩
            have hz9 : z9 = μ P 2 / μ 44 4 := by rw [hz9, show (tm_up (tm_up (tm_up (tm_up (tm_up μ P 1 ((μ P 1) + ((min (max ((μ 45 h) - (μ P 1)) 0) (μ 44 1)) + (3 * (μ 46 h))))) P 3 ((μ P 3) + (((μ P 1) + ((min (max ((μ 45 h) - (μ P 1)) 0) (μ 44 1)) + (3 * (μ 46 h)))) - 20))) P 1 20) P 1 (max (20 - (μ 44 2)) 0)) P 0 ((h : Int) + 1)) P 2 = μ P 2 from (tm_uj (by decide)).trans ((tm_uj (by decide)).trans ((tm_uj (by decide)).trans ((tm_uj (by decide)).trans ((tm_uj (by decide)).trans (rfl))))), show (tm_up (tm_up (tm_up (tm_up (tm_up μ P 1 ((μ P 1) + ((min (max ((μ 45 h) - (μ P 1)) 0) (μ 44 1)) + (3 * (μ 46 h))))) P 3 ((μ P 3) + (((μ P 1) + ((min (max ((μ 45 h) - (μ P 1)) 0) (μ 44 1)) + (3 * (μ 46 h)))) - 20))) P 1 20) P 1 (max (20 - (μ 44 2)) 0)) P 0 ((h : Int) + 1)) 44 4 = μ 44 4 from (tm_uk (by omega)).trans ((tm_uk (by omega)).trans ((tm_uk (by omega)).trans ((tm_uk (by omega)).trans ((tm_uk (by omega)).trans (rfl)))))]
            subst hz9
            refine tv_iadd (pc := 187) C dX4_pass_187 ?_
            refine tv_icmp_ge (pc := 188) 193 C dX4_pass_188 (by decide) (by omega) (by omega) (fun h188 => ?_) (fun h188 => ?_)
            · skip
              refine tv_aload_n (pc := 193) 2 C dX4_pass_193 rfl rfl ?_
              refine tv_aload_n (pc := 194) 2 C dX4_pass_194 rfl rfl ?_
              refine tv_geti (pc := 195) (z := max (20 - (μ 44 2)) 0) C hkP rfl fl_X4_21 dX4_pass_195 ((tm_uj (by decide)).trans (tm_us)) ?_
              refine tv_getsN (pc := 198) 4 C (by decide) gs_X4_55 dX4_pass_198 ?_
              refine tv_iload_n (pc := 201) 4 C dX4_pass_201 rfl rfl ?_
              refine tv_sald (pc := 202) (z := 3 - g) 4 C (by decide) dX4_pass_202 (show 0 ≤ g ∧ g < ((3 : Nat) : Int) by omega) (by rcases (show g = 0 ∨ g = 1 ∨ g = 2 by omega) with rfl | rfl | rfl <;> rfl) ?_
              refine tv_isub (pc := 203) C dX4_pass_203 ?_
              refine tv_iconst (pc := 204) C dX4_pass_204 ?_
              refine tv_mmax (pc := 205) C mx_X4_33 (by omega) (by omega) dX4_pass_205 (Nat.le_of_ble_eq_true rfl) ?_
              refine tv_puti (pc := 208) C hkP rfl fp_X4_21 dX4_pass_208 ?_
              refine tv_aload_n (pc := 211) 2 C dX4_pass_211 rfl rfl ?_
              refine tv_dup (pc := 212) C dX4_pass_212 rfl ?_
              refine tv_geti (pc := 213) (z := μ P 2) C hkP rfl fl_X4_24 dX4_pass_213 ((tm_uj (by decide)).trans ((tm_uj (by decide)).trans ((tm_uj (by decide)).trans ((tm_uj (by decide)).trans ((tm_uj (by decide)).trans ((tm_uj (by decide)).trans (rfl))))))) ?_
              refine tv_iconst (pc := 216) C dX4_pass_216 ?_
              refine tv_iadd (pc := 217) C dX4_pass_217 ?_
              refine tv_puti (pc := 218) C hkP rfl fp_X4_24 dX4_pass_218 ?_
              refine tv_iconst (pc := 221) C dX4_pass_221 ?_
              refine tv_zret (pc := 222) C dX4_pass_222 (by omega) ?_
              have hg9 : sp_g (μ 47 h) g (sp_wet (μ 45 h) (μ P 1) (μ 44 1) (μ 46 h) (μ 44 2)) (μ 45 h) (μ 44 3) (μ P 2) (μ 44 4) = 1 := by unfold sp_g; first | (rw [if_pos (by omega)]; done) | (rw [if_neg (by omega), if_pos (by omega)]; done) | (rw [if_neg (by omega), if_neg (by omega), if_pos (by unfold sp_wet sp_fill; omega)]; done) | (rw [if_neg (by omega), if_neg (by omega), if_neg (by unfold sp_wet sp_fill; omega)]; done)
              refine ⟨_, rfl, hg9.symm, ?_⟩
              rw [hg9]
              refine tm_pd_of ((tm_uj (by decide)).trans ((tm_uj (by decide)).trans (tm_us))) (((tm_uj (by decide)).trans (tm_us)).trans (by unfold sp_wet sp_fill; omega)) ((tm_us).trans (by first | (rw [if_pos (by omega)]; done) | (rw [if_neg (by omega)]; done) | (rw [if_neg (by omega)]; omega))) (((tm_uj (by decide)).trans ((tm_uj (by decide)).trans ((tm_uj (by decide)).trans ((tm_uj (by decide)).trans ((tm_uj (by decide)).trans (tm_us)))))).trans (by unfold sp_spl sp_fill; omega)) (fun x hx => by simp only [tm_uf hx]) (fun j hj => by simp only [tm_uj (show j ≠ 0 by omega), tm_uj (show j ≠ 1 by omega), tm_uj (show j ≠ 2 by omega), tm_uj (show j ≠ 3 by omega)])
            · skip
              refine tv_iconst (pc := 191) C dX4_pass_191 ?_
              refine tv_zret (pc := 192) C dX4_pass_192 (by omega) ?_
              have hg9 : sp_g (μ 47 h) g (sp_wet (μ 45 h) (μ P 1) (μ 44 1) (μ 46 h) (μ 44 2)) (μ 45 h) (μ 44 3) (μ P 2) (μ 44 4) = 0 := by unfold sp_g; first | (rw [if_pos (by omega)]; done) | (rw [if_neg (by omega), if_pos (by omega)]; done) | (rw [if_neg (by omega), if_neg (by omega), if_pos (by unfold sp_wet sp_fill; omega)]; done) | (rw [if_neg (by omega), if_neg (by omega), if_neg (by unfold sp_wet sp_fill; omega)]; done)
              refine ⟨_, rfl, hg9.symm, ?_⟩
              rw [hg9]
              refine tm_pd_of (tm_us) (((tm_uj (by decide)).trans (tm_us)).trans (by unfold sp_wet sp_fill; omega)) (((tm_uj (by decide)).trans ((tm_uj (by decide)).trans ((tm_uj (by decide)).trans ((tm_uj (by decide)).trans ((tm_uj (by decide)).trans (rfl)))))).trans (by first | (rw [if_pos (by omega)]; done) | (rw [if_neg (by omega)]; done) | (rw [if_neg (by omega)]; omega))) (((tm_uj (by decide)).trans ((tm_uj (by decide)).trans ((tm_uj (by decide)).trans (tm_us)))).trans (by unfold sp_spl sp_fill; omega)) (fun x hx => by simp only [tm_uf hx]) (fun j hj => by simp only [tm_uj (show j ≠ 0 by omega), tm_uj (show j ≠ 1 by omega), tm_uj (show j ≠ 2 by omega), tm_uj (show j ≠ 3 by omega)])
        · skip
          refine tv_iconst (pc := 130) C dX4_pass_130 ?_
          refine tv_goto (pc := 131) 135 C dX4_pass_131 (by decide) ?_
          refine tv_istore (pc := 135) [(4, tm_i 1), (3, tm_i (μ 45 h)), (0, .ref (E.2.1 P)), (1, .ref (E.2.1 43)), (2, tm_i g)] C dX4_pass_135 (by decide) rfl ?_
          refine tv_aload_n (pc := 137) 2 C dX4_pass_137 rfl rfl ?_
          refine tv_dup (pc := 138) C dX4_pass_138 rfl ?_
          refine tv_geti (pc := 139) (z := (h : Int)) C hkP rfl fl_X4_9 dX4_pass_139 ((tm_uj (by decide)).trans ((tm_uj (by decide)).trans ((tm_uj (by decide)).trans ((tm_uj (by decide)).trans (hh))))) ?_
          refine tv_iconst (pc := 142) C dX4_pass_142 ?_
          refine tv_iadd (pc := 143) C dX4_pass_143 ?_
          refine tv_puti (pc := 144) C hkP rfl fp_X4_9 dX4_pass_144 ?_
          refine tv_iload (pc := 147) 0 C dX4_pass_147 rfl ?_
          refine tv_if_eq (pc := 149) 159 C dX4_pass_149 (by decide) (by omega) (fun q => absurd q (by decide)) (fun _ => ?_)
          refine tv_aload_n (pc := 152) 2 C dX4_pass_152 rfl rfl ?_
          refine tv_iconst (pc := 153) C dX4_pass_153 ?_
          refine tv_puti (pc := 154) C hkP rfl fp_X4_24 dX4_pass_154 ?_
          refine tv_iconst (pc := 157) C dX4_pass_157 ?_
          refine tv_zret (pc := 158) C dX4_pass_158 (by omega) ?_
          have hg9 : sp_g (μ 47 h) g (sp_wet (μ 45 h) (μ P 1) (μ 44 1) (μ 46 h) (μ 44 2)) (μ 45 h) (μ 44 3) (μ P 2) (μ 44 4) = 0 := by unfold sp_g; first | (rw [if_pos (by omega)]; done) | (rw [if_neg (by omega), if_pos (by omega)]; done) | (rw [if_neg (by omega), if_neg (by omega), if_pos (by unfold sp_wet sp_fill; omega)]; done) | (rw [if_neg (by omega), if_neg (by omega), if_neg (by unfold sp_wet sp_fill; omega)]; done)
          refine ⟨_, rfl, hg9.symm, ?_⟩
          rw [hg9]
          refine tm_pd_of ((tm_uj (by decide)).trans (tm_us)) (((tm_uj (by decide)).trans ((tm_uj (by decide)).trans (tm_us))).trans (by unfold sp_wet sp_fill; omega)) ((tm_us).trans (by first | (rw [if_pos (by omega)]; done) | (rw [if_neg (by omega)]; done) | (rw [if_neg (by omega)]; omega))) (((tm_uj (by decide)).trans ((tm_uj (by decide)).trans ((tm_uj (by decide)).trans ((tm_uj (by decide)).trans (tm_us))))).trans (by unfold sp_spl sp_fill; omega)) (fun x hx => by simp only [tm_uf hx]) (fun j hj => by simp only [tm_uj (show j ≠ 0 by omega), tm_uj (show j ≠ 1 by omega), tm_uj (show j ≠ 2 by omega), tm_uj (show j ≠ 3 by omega)])
    · skip
      exfalso; omega
end
section
theorem zz_end : True := trivial
end
