theorem tv_iadd {E : tm_Ev} {X : tm_X} {Q : State → Prop} {own : String} {cc : ByteArray} {nL : Nat} {ret : Option FieldType} {d pc : Nat} {lv : List (Nat × Value)} {st : List Value} {μ : tm_M} {a b : Int} (C : tm_C E X own cc nL ret d) (hd : decode cc pc = .ok (.iadd, 1)) (k : tm_V E X Q nL (pc + 1) lv (tm_i (a + b) :: st) μ) : tm_V E X Q nL (pc) lv (tm_i b :: tm_i a :: st) μ := by
  intro ls H locs hl hP hS
  have k := k ls H locs hl hP hS
  unfold tm_i at k ⊢
  rw [Int32.ofInt_add] at k
  exact lv_iadd C.1 C.2.1 hd k
theorem tv_isub {E : tm_Ev} {X : tm_X} {Q : State → Prop} {own : String} {cc : ByteArray} {nL : Nat} {ret : Option FieldType} {d pc : Nat} {lv : List (Nat × Value)} {st : List Value} {μ : tm_M} {a b : Int} (C : tm_C E X own cc nL ret d) (hd : decode cc pc = .ok (.isub, 1)) (k : tm_V E X Q nL (pc + 1) lv (tm_i (a - b) :: st) μ) : tm_V E X Q nL (pc) lv (tm_i b :: tm_i a :: st) μ := by
  intro ls H locs hl hP hS
  have k := k ls H locs hl hP hS
  unfold tm_i at k ⊢
  rw [Int32.ofInt_sub] at k
  exact lv_isub C.1 C.2.1 hd k
theorem tv_imul {E : tm_Ev} {X : tm_X} {Q : State → Prop} {own : String} {cc : ByteArray} {nL : Nat} {ret : Option FieldType} {d pc : Nat} {lv : List (Nat × Value)} {st : List Value} {μ : tm_M} {a b : Int} (C : tm_C E X own cc nL ret d) (hd : decode cc pc = .ok (.imul, 1)) (k : tm_V E X Q nL (pc + 1) lv (tm_i (a * b) :: st) μ) : tm_V E X Q nL (pc) lv (tm_i b :: tm_i a :: st) μ := by
  intro ls H locs hl hP hS
  have k := k ls H locs hl hP hS
  unfold tm_i at k ⊢
  rw [Int32.ofInt_mul] at k
  exact lv_imul C.1 C.2.1 hd k
theorem tv_ladd {E : tm_Ev} {X : tm_X} {Q : State → Prop} {own : String} {cc : ByteArray} {nL : Nat} {ret : Option FieldType} {d pc : Nat} {lv : List (Nat × Value)} {st : List Value} {μ : tm_M} {a b : Int} (C : tm_C E X own cc nL ret d) (hd : decode cc pc = .ok (.ladd, 1)) (k : tm_V E X Q nL (pc + 1) lv (tm_l (a + b) :: st) μ) : tm_V E X Q nL (pc) lv (tm_l b :: tm_l a :: st) μ := by
  intro ls H locs hl hP hS
  have k := k ls H locs hl hP hS
  unfold tm_l at k ⊢
  rw [Int64.ofInt_add] at k
  exact lv_ladd C.1 C.2.1 hd k
theorem tv_lsub {E : tm_Ev} {X : tm_X} {Q : State → Prop} {own : String} {cc : ByteArray} {nL : Nat} {ret : Option FieldType} {d pc : Nat} {lv : List (Nat × Value)} {st : List Value} {μ : tm_M} {a b : Int} (C : tm_C E X own cc nL ret d) (hd : decode cc pc = .ok (.lsub, 1)) (k : tm_V E X Q nL (pc + 1) lv (tm_l (a - b) :: st) μ) : tm_V E X Q nL (pc) lv (tm_l b :: tm_l a :: st) μ := by
  intro ls H locs hl hP hS
  have k := k ls H locs hl hP hS
  unfold tm_l at k ⊢
  rw [Int64.ofInt_sub] at k
  exact lv_lsub C.1 C.2.1 hd k
theorem tv_lmul {E : tm_Ev} {X : tm_X} {Q : State → Prop} {own : String} {cc : ByteArray} {nL : Nat} {ret : Option FieldType} {d pc : Nat} {lv : List (Nat × Value)} {st : List Value} {μ : tm_M} {a b : Int} (C : tm_C E X own cc nL ret d) (hd : decode cc pc = .ok (.lmul, 1)) (k : tm_V E X Q nL (pc + 1) lv (tm_l (a * b) :: st) μ) : tm_V E X Q nL (pc) lv (tm_l b :: tm_l a :: st) μ := by
  intro ls H locs hl hP hS
  have k := k ls H locs hl hP hS
  unfold tm_l at k ⊢
  rw [Int64.ofInt_mul] at k
  exact lv_lmul C.1 C.2.1 hd k
theorem tv_iand {E : tm_Ev} {X : tm_X} {Q : State → Prop} {own : String} {cc : ByteArray} {nL : Nat} {ret : Option FieldType} {d pc : Nat} {lv : List (Nat × Value)} {st : List Value} {μ : tm_M} {a b z : Int} (C : tm_C E X own cc nL ret d) (hd : decode cc pc = .ok (.iand, 1)) (hz : Int32.ofInt a &&& Int32.ofInt b = Int32.ofInt z) (k : tm_V E X Q nL (pc + 1) lv (tm_i z :: st) μ) : tm_V E X Q nL (pc) lv (tm_i b :: tm_i a :: st) μ := by
  intro ls H locs hl hP hS
  have k := k ls H locs hl hP hS
  unfold tm_i at k ⊢
  rw [← hz] at k
  exact lv_iand C.1 C.2.1 hd k
theorem tv_ior {E : tm_Ev} {X : tm_X} {Q : State → Prop} {own : String} {cc : ByteArray} {nL : Nat} {ret : Option FieldType} {d pc : Nat} {lv : List (Nat × Value)} {st : List Value} {μ : tm_M} {a b z : Int} (C : tm_C E X own cc nL ret d) (hd : decode cc pc = .ok (.ior, 1)) (hz : Int32.ofInt a ||| Int32.ofInt b = Int32.ofInt z) (k : tm_V E X Q nL (pc + 1) lv (tm_i z :: st) μ) : tm_V E X Q nL (pc) lv (tm_i b :: tm_i a :: st) μ := by
  intro ls H locs hl hP hS
  have k := k ls H locs hl hP hS
  unfold tm_i at k ⊢
  rw [← hz] at k
  exact lv_ior C.1 C.2.1 hd k
theorem tv_ishl {E : tm_Ev} {X : tm_X} {Q : State → Prop} {own : String} {cc : ByteArray} {nL : Nat} {ret : Option FieldType} {d pc : Nat} {lv : List (Nat × Value)} {st : List Value} {μ : tm_M} {a b z : Int} (C : tm_C E X own cc nL ret d) (hd : decode cc pc = .ok (.ishl, 1)) (hz : Int32.ofInt a <<< (Int32.ofInt b &&& 31) = Int32.ofInt z) (k : tm_V E X Q nL (pc + 1) lv (tm_i z :: st) μ) : tm_V E X Q nL (pc) lv (tm_i b :: tm_i a :: st) μ := by
  intro ls H locs hl hP hS
  have k := k ls H locs hl hP hS
  unfold tm_i at k ⊢
  rw [← hz] at k
  exact lv_ishl C.1 C.2.1 hd k
theorem tv_ishr {E : tm_Ev} {X : tm_X} {Q : State → Prop} {own : String} {cc : ByteArray} {nL : Nat} {ret : Option FieldType} {d pc : Nat} {lv : List (Nat × Value)} {st : List Value} {μ : tm_M} {a b z : Int} (C : tm_C E X own cc nL ret d) (hd : decode cc pc = .ok (.ishr, 1)) (hz : Int32.ofInt a >>> (Int32.ofInt b &&& 31) = Int32.ofInt z) (k : tm_V E X Q nL (pc + 1) lv (tm_i z :: st) μ) : tm_V E X Q nL (pc) lv (tm_i b :: tm_i a :: st) μ := by
  intro ls H locs hl hP hS
  have k := k ls H locs hl hP hS
  unfold tm_i at k ⊢
  rw [← hz] at k
  exact lv_ishr C.1 C.2.1 hd k
theorem tv_iushr {E : tm_Ev} {X : tm_X} {Q : State → Prop} {own : String} {cc : ByteArray} {nL : Nat} {ret : Option FieldType} {d pc : Nat} {lv : List (Nat × Value)} {st : List Value} {μ : tm_M} {a b z : Int} (C : tm_C E X own cc nL ret d) (hd : decode cc pc = .ok (.iushr, 1)) (hz : ((Int32.ofInt a).toUInt32 >>> ((Int32.ofInt b).toUInt32 &&& Int32.toUInt32 31)).toInt32 = Int32.ofInt z) (k : tm_V E X Q nL (pc + 1) lv (tm_i z :: st) μ) : tm_V E X Q nL (pc) lv (tm_i b :: tm_i a :: st) μ := by
  intro ls H locs hl hP hS
  exact lv_iushr C.1 C.2.1 hd hz (k ls H locs hl hP hS)
theorem tv_lshl {E : tm_Ev} {X : tm_X} {Q : State → Prop} {own : String} {cc : ByteArray} {nL : Nat} {ret : Option FieldType} {d pc : Nat} {lv : List (Nat × Value)} {st : List Value} {μ : tm_M} {a b z : Int} (C : tm_C E X own cc nL ret d) (hd : decode cc pc = .ok (.lshl, 1)) (hz : Int64.ofInt a <<< ((Int32.ofInt b).toInt64 &&& 63) = Int64.ofInt z) (k : tm_V E X Q nL (pc + 1) lv (tm_l z :: st) μ) : tm_V E X Q nL (pc) lv (tm_i b :: tm_l a :: st) μ := by
  intro ls H locs hl hP hS
  exact lv_lshl C.1 C.2.1 hd hz (k ls H locs hl hP hS)
theorem tv_idiv {E : tm_Ev} {X : tm_X} {Q : State → Prop} {own : String} {cc : ByteArray} {nL : Nat} {ret : Option FieldType} {d pc : Nat} {lv : List (Nat × Value)} {st : List Value} {μ : tm_M} {a b : Int} (C : tm_C E X own cc nL ret d) (hd : decode cc pc = .ok (.idiv, 1)) (ha : 0 ≤ a ∧ a ≤ 2147483647) (hb : 0 < b ∧ b ≤ 2147483647) (k : tm_V E X Q nL (pc + 1) lv (tm_i (a / b) :: st) μ) : tm_V E X Q nL (pc) lv (tm_i b :: tm_i a :: st) μ := by
  intro ls H locs hl hP hS
  have k := k ls H locs hl hP hS
  unfold tm_i at k ⊢
  have e : Int32.ofInt (a / b) = Int32.ofInt a / Int32.ofInt b := by
    rw [← Int32.ofInt_tdiv (show (-2147483648 : Int) ≤ a by omega) (show a ≤ 2147483647 by omega) (show (-2147483648 : Int) ≤ b by omega) (show b ≤ 2147483647 by omega), Int.tdiv_eq_ediv_of_nonneg ha.1]
  rw [e] at k
  exact lv_idiv C.1 C.2.1 hd (fun q => by
    have := (tm_eqi (a := b) (b := 0) (by omega) (by omega)).mp q
    omega) k
theorem tv_irem {E : tm_Ev} {X : tm_X} {Q : State → Prop} {own : String} {cc : ByteArray} {nL : Nat} {ret : Option FieldType} {d pc : Nat} {lv : List (Nat × Value)} {st : List Value} {μ : tm_M} {a b : Int} (C : tm_C E X own cc nL ret d) (hd : decode cc pc = .ok (.irem, 1)) (ha : 0 ≤ a ∧ a ≤ 2147483647) (hb : 0 < b ∧ b ≤ 2147483647) (k : tm_V E X Q nL (pc + 1) lv (tm_i (a % b) :: st) μ) : tm_V E X Q nL (pc) lv (tm_i b :: tm_i a :: st) μ := by
  intro ls H locs hl hP hS
  have k := k ls H locs hl hP hS
  unfold tm_i at k ⊢
  have e : Int32.ofInt (a % b) = Int32.ofInt a - Int32.ofInt a / Int32.ofInt b * Int32.ofInt b := by
    rw [← Int32.ofInt_tdiv (show (-2147483648 : Int) ≤ a by omega) (show a ≤ 2147483647 by omega) (show (-2147483648 : Int) ≤ b by omega) (show b ≤ 2147483647 by omega), Int.tdiv_eq_ediv_of_nonneg ha.1, ← Int32.ofInt_mul, ← Int32.ofInt_sub, Int.emod_def, Int.mul_comm]
  rw [e] at k
  exact lv_irem C.1 C.2.1 hd (fun q => by
    have := (tm_eqi (a := b) (b := 0) (by omega) (by omega)).mp q
    omega) k
theorem tv_ldiv {E : tm_Ev} {X : tm_X} {Q : State → Prop} {own : String} {cc : ByteArray} {nL : Nat} {ret : Option FieldType} {d pc : Nat} {lv : List (Nat × Value)} {st : List Value} {μ : tm_M} {a b : Int} (C : tm_C E X own cc nL ret d) (hd : decode cc pc = .ok (.ldiv, 1)) (ha : 0 ≤ a ∧ a ≤ 9223372036854775807) (hb : 0 < b ∧ b ≤ 9223372036854775807) (k : tm_V E X Q nL (pc + 1) lv (tm_l (a / b) :: st) μ) : tm_V E X Q nL (pc) lv (tm_l b :: tm_l a :: st) μ := by
  intro ls H locs hl hP hS
  have k := k ls H locs hl hP hS
  unfold tm_l at k ⊢
  have e : Int64.ofInt (a / b) = Int64.ofInt a / Int64.ofInt b := by
    rw [← Int64.ofInt_tdiv (show (-9223372036854775808 : Int) ≤ a by omega) (show a ≤ 9223372036854775807 by omega) (show (-9223372036854775808 : Int) ≤ b by omega) (show b ≤ 9223372036854775807 by omega), Int.tdiv_eq_ediv_of_nonneg ha.1]
  rw [e] at k
  exact lv_ldiv C.1 C.2.1 hd (fun q => by
    have h2 := congrArg Int64.toInt q
    rw [Int64.toInt_ofInt_of_le (by omega) (by omega)] at h2
    have h3 : b = 0 := h2
    omega) k
theorem tv_lrem {E : tm_Ev} {X : tm_X} {Q : State → Prop} {own : String} {cc : ByteArray} {nL : Nat} {ret : Option FieldType} {d pc : Nat} {lv : List (Nat × Value)} {st : List Value} {μ : tm_M} {a b : Int} (C : tm_C E X own cc nL ret d) (hd : decode cc pc = .ok (.lrem, 1)) (ha : 0 ≤ a ∧ a ≤ 9223372036854775807) (hb : 0 < b ∧ b ≤ 9223372036854775807) (k : tm_V E X Q nL (pc + 1) lv (tm_l (a % b) :: st) μ) : tm_V E X Q nL (pc) lv (tm_l b :: tm_l a :: st) μ := by
  intro ls H locs hl hP hS
  have k := k ls H locs hl hP hS
  unfold tm_l at k ⊢
  have e : Int64.ofInt (a % b) = Int64.ofInt a - Int64.ofInt a / Int64.ofInt b * Int64.ofInt b := by
    rw [← Int64.ofInt_tdiv (show (-9223372036854775808 : Int) ≤ a by omega) (show a ≤ 9223372036854775807 by omega) (show (-9223372036854775808 : Int) ≤ b by omega) (show b ≤ 9223372036854775807 by omega), Int.tdiv_eq_ediv_of_nonneg ha.1, ← Int64.ofInt_mul, ← Int64.ofInt_sub, Int.emod_def, Int.mul_comm]
  rw [e] at k
  exact lv_lrem C.1 C.2.1 hd (fun q => by
    have h2 := congrArg Int64.toInt q
    rw [Int64.toInt_ofInt_of_le (by omega) (by omega)] at h2
    have h3 : b = 0 := h2
    omega) k
theorem tv_i2l {E : tm_Ev} {X : tm_X} {Q : State → Prop} {own : String} {cc : ByteArray} {nL : Nat} {ret : Option FieldType} {d pc : Nat} {lv : List (Nat × Value)} {st : List Value} {μ : tm_M} {a : Int} (C : tm_C E X own cc nL ret d) (hd : decode cc pc = .ok (.i2l, 1)) (ha : -2147483648 ≤ a ∧ a ≤ 2147483647) (k : tm_V E X Q nL (pc + 1) lv (tm_l a :: st) μ) : tm_V E X Q nL (pc) lv (tm_i a :: st) μ := by
  intro ls H locs hl hP hS
  exact lv_i2l C.1 C.2.1 hd (Int32.toInt64_ofInt ha.1 ha.2) (k ls H locs hl hP hS)
theorem tv_i2b {E : tm_Ev} {X : tm_X} {Q : State → Prop} {own : String} {cc : ByteArray} {nL : Nat} {ret : Option FieldType} {d pc : Nat} {lv : List (Nat × Value)} {st : List Value} {μ : tm_M} {a z : Int} (C : tm_C E X own cc nL ret d) (hd : decode cc pc = .ok (.i2b, 1)) (hz : (Int32.ofInt a).toInt8.toInt32 = Int32.ofInt z) (k : tm_V E X Q nL (pc + 1) lv (tm_i z :: st) μ) : tm_V E X Q nL (pc) lv (tm_i a :: st) μ := by
  intro ls H locs hl hP hS
  exact lv_i2b C.1 C.2.1 hd hz (k ls H locs hl hP hS)
theorem tv_i2s {E : tm_Ev} {X : tm_X} {Q : State → Prop} {own : String} {cc : ByteArray} {nL : Nat} {ret : Option FieldType} {d pc : Nat} {lv : List (Nat × Value)} {st : List Value} {μ : tm_M} {a z : Int} (C : tm_C E X own cc nL ret d) (hd : decode cc pc = .ok (.i2s, 1)) (hz : (Int32.ofInt a).toInt16.toInt32 = Int32.ofInt z) (k : tm_V E X Q nL (pc + 1) lv (tm_i z :: st) μ) : tm_V E X Q nL (pc) lv (tm_i a :: st) μ := by
  intro ls H locs hl hP hS
  exact lv_i2s C.1 C.2.1 hd hz (k ls H locs hl hP hS)
theorem tv_iconst {E : tm_Ev} {X : tm_X} {Q : State → Prop} {own : String} {cc : ByteArray} {nL : Nat} {ret : Option FieldType} {d pc : Nat} {lv : List (Nat × Value)} {st : List Value} {μ : tm_M} {n : Int} (C : tm_C E X own cc nL ret d) (hd : decode cc pc = .ok (.iconst n, 1)) (k : tm_V E X Q nL (pc + 1) lv (tm_i n :: st) μ) : tm_V E X Q nL (pc) lv st μ := by
  intro ls H locs hl hP hS
  exact lv_iconst C.1 C.2.1 hd rfl (k ls H locs hl hP hS)
theorem tv_bipush {E : tm_Ev} {X : tm_X} {Q : State → Prop} {own : String} {cc : ByteArray} {nL : Nat} {ret : Option FieldType} {d pc : Nat} {lv : List (Nat × Value)} {st : List Value} {μ : tm_M} {n : Int} (C : tm_C E X own cc nL ret d) (hd : decode cc pc = .ok (.bipush n, 2)) (hn : (Int8.ofInt n).toInt32 = Int32.ofInt n) (k : tm_V E X Q nL (pc + 2) lv (tm_i n :: st) μ) : tm_V E X Q nL (pc) lv st μ := by
  intro ls H locs hl hP hS
  exact lv_bipush C.1 C.2.1 hd hn (k ls H locs hl hP hS)
theorem tv_sipush {E : tm_Ev} {X : tm_X} {Q : State → Prop} {own : String} {cc : ByteArray} {nL : Nat} {ret : Option FieldType} {d pc : Nat} {lv : List (Nat × Value)} {st : List Value} {μ : tm_M} {n : Int} (C : tm_C E X own cc nL ret d) (hd : decode cc pc = .ok (.sipush n, 3)) (hn : (Int16.ofInt n).toInt32 = Int32.ofInt n) (k : tm_V E X Q nL (pc + 3) lv (tm_i n :: st) μ) : tm_V E X Q nL (pc) lv st μ := by
  intro ls H locs hl hP hS
  exact lv_sipush C.1 C.2.1 hd hn (k ls H locs hl hP hS)
theorem tv_lconst {E : tm_Ev} {X : tm_X} {Q : State → Prop} {own : String} {cc : ByteArray} {nL : Nat} {ret : Option FieldType} {d pc : Nat} {lv : List (Nat × Value)} {st : List Value} {μ : tm_M} {n : Fin 2} {z : Int} (C : tm_C E X own cc nL ret d) (hd : decode cc pc = .ok (.lconst n, 1)) (hz : Int64.ofNat (n : Nat) = Int64.ofInt z) (k : tm_V E X Q nL (pc + 1) lv (tm_l z :: st) μ) : tm_V E X Q nL (pc) lv st μ := by
  intro ls H locs hl hP hS
  exact lv_lconst C.1 C.2.1 hd hz (k ls H locs hl hP hS)
theorem tv_ldcw {E : tm_Ev} {X : tm_X} {Q : State → Prop} {own : String} {cc : ByteArray} {nL : Nat} {ret : Option FieldType} {d pc : Nat} {lv : List (Nat × Value)} {st : List Value} {μ : tm_M} {ix : Nat} {v : Int32} {z : Int} (C : tm_C E X own cc nL ret d) (hc : Cond.constant own ix v ∈ tm_tbl) (hd : decode cc pc = .ok (.ldc_w ix, 3)) (hz : v = Int32.ofInt z) (k : tm_V E X Q nL (pc + 3) lv (tm_i z :: st) μ) : tm_V E X Q nL (pc) lv st μ := by
  intro ls H locs hl hP hS
  subst hz
  exact lv_ldcw C.1 C.2.1 C.2.2.2.1 (C.2.2.2.2.1 _ hc) hd (k ls H locs hl hP hS)
theorem tv_ldc {E : tm_Ev} {X : tm_X} {Q : State → Prop} {own : String} {cc : ByteArray} {nL : Nat} {ret : Option FieldType} {d pc : Nat} {lv : List (Nat × Value)} {st : List Value} {μ : tm_M} {ix : Nat} {v : Int32} {z : Int} (C : tm_C E X own cc nL ret d) (hc : Cond.constant own ix v ∈ tm_tbl) (hd : decode cc pc = .ok (.ldc ix, 2)) (hz : v = Int32.ofInt z) (k : tm_V E X Q nL (pc + 2) lv (tm_i z :: st) μ) : tm_V E X Q nL (pc) lv st μ := by
  intro ls H locs hl hP hS
  subst hz
  exact lv_ldc C.1 C.2.1 C.2.2.2.1 (C.2.2.2.2.1 _ hc) hd (k ls H locs hl hP hS)
theorem tv_ldc2 {E : tm_Ev} {X : tm_X} {Q : State → Prop} {own : String} {cc : ByteArray} {nL : Nat} {ret : Option FieldType} {d pc : Nat} {lv : List (Nat × Value)} {st : List Value} {μ : tm_M} {ix : Nat} {v : Int64} {z : Int} (C : tm_C E X own cc nL ret d) (hc : Cond.constantLong own ix v ∈ tm_tbl) (hd : decode cc pc = .ok (.ldc2_w ix, 3)) (hz : v = Int64.ofInt z) (k : tm_V E X Q nL (pc + 3) lv (tm_l z :: st) μ) : tm_V E X Q nL (pc) lv st μ := by
  intro ls H locs hl hP hS
  subst hz
  exact lv_ldc2 C.1 C.2.1 C.2.2.2.1 (C.2.2.2.2.1 _ hc) hd (k ls H locs hl hP hS)
theorem tv_iload_n {E : tm_Ev} {X : tm_X} {Q : State → Prop} {own : String} {cc : ByteArray} {nL : Nat} {ret : Option FieldType} {d pc : Nat} {lv : List (Nat × Value)} {st : List Value} {μ : tm_M} {k : Fin 4} {i : Nat} {z : Int} (q : Nat) (C : tm_C E X own cc nL ret d) (hd : decode cc pc = .ok (.iload_n k, 1)) (hi : (k : Nat) = i) (hq : lv[q]? = some (i, tm_i z)) (kk : tm_V E X Q nL (pc + 1) lv (tm_i z :: st) μ) : tm_V E X Q nL (pc) lv st μ := by
  intro ls H locs hl hP hS
  exact lv_iload_n C.1 C.2.1 hd hi (lv_at hl q hq) (kk ls H locs hl hP hS)
theorem tv_iload {E : tm_Ev} {X : tm_X} {Q : State → Prop} {own : String} {cc : ByteArray} {nL : Nat} {ret : Option FieldType} {d pc : Nat} {lv : List (Nat × Value)} {st : List Value} {μ : tm_M} {i : Nat} {z : Int} (q : Nat) (C : tm_C E X own cc nL ret d) (hd : decode cc pc = .ok (.iload i, 2)) (hq : lv[q]? = some (i, tm_i z)) (kk : tm_V E X Q nL (pc + 2) lv (tm_i z :: st) μ) : tm_V E X Q nL (pc) lv st μ := by
  intro ls H locs hl hP hS
  exact lv_iload C.1 C.2.1 hd (lv_at hl q hq) (kk ls H locs hl hP hS)
theorem tv_lload_n {E : tm_Ev} {X : tm_X} {Q : State → Prop} {own : String} {cc : ByteArray} {nL : Nat} {ret : Option FieldType} {d pc : Nat} {lv : List (Nat × Value)} {st : List Value} {μ : tm_M} {k : Fin 4} {i : Nat} {z : Int} (q : Nat) (C : tm_C E X own cc nL ret d) (hd : decode cc pc = .ok (.lload_n k, 1)) (hi : (k : Nat) = i) (hq : lv[q]? = some (i, tm_l z)) (kk : tm_V E X Q nL (pc + 1) lv (tm_l z :: st) μ) : tm_V E X Q nL (pc) lv st μ := by
  intro ls H locs hl hP hS
  exact lv_lload_n C.1 C.2.1 hd hi (lv_at hl q hq) (kk ls H locs hl hP hS)
theorem tv_lload {E : tm_Ev} {X : tm_X} {Q : State → Prop} {own : String} {cc : ByteArray} {nL : Nat} {ret : Option FieldType} {d pc : Nat} {lv : List (Nat × Value)} {st : List Value} {μ : tm_M} {i : Nat} {z : Int} (q : Nat) (C : tm_C E X own cc nL ret d) (hd : decode cc pc = .ok (.lload i, 2)) (hq : lv[q]? = some (i, tm_l z)) (kk : tm_V E X Q nL (pc + 2) lv (tm_l z :: st) μ) : tm_V E X Q nL (pc) lv st μ := by
  intro ls H locs hl hP hS
  exact lv_lload C.1 C.2.1 hd (lv_at hl q hq) (kk ls H locs hl hP hS)
theorem tv_aload_n {E : tm_Ev} {X : tm_X} {Q : State → Prop} {own : String} {cc : ByteArray} {nL : Nat} {ret : Option FieldType} {d pc : Nat} {lv : List (Nat × Value)} {st : List Value} {μ : tm_M} {k : Fin 4} {i : Nat} {z : Nat} (q : Nat) (C : tm_C E X own cc nL ret d) (hd : decode cc pc = .ok (.aload_n k, 1)) (hi : (k : Nat) = i) (hq : lv[q]? = some (i, .ref z)) (kk : tm_V E X Q nL (pc + 1) lv (.ref z :: st) μ) : tm_V E X Q nL (pc) lv st μ := by
  intro ls H locs hl hP hS
  exact lv_aload_n C.1 C.2.1 hd hi (lv_at hl q hq) (kk ls H locs hl hP hS)
theorem tv_aload {E : tm_Ev} {X : tm_X} {Q : State → Prop} {own : String} {cc : ByteArray} {nL : Nat} {ret : Option FieldType} {d pc : Nat} {lv : List (Nat × Value)} {st : List Value} {μ : tm_M} {i : Nat} {z : Nat} (q : Nat) (C : tm_C E X own cc nL ret d) (hd : decode cc pc = .ok (.aload i, 2)) (hq : lv[q]? = some (i, .ref z)) (kk : tm_V E X Q nL (pc + 2) lv (.ref z :: st) μ) : tm_V E X Q nL (pc) lv st μ := by
  intro ls H locs hl hP hS
  exact lv_aload C.1 C.2.1 hd (lv_at hl q hq) (kk ls H locs hl hP hS)
theorem tv_istore_n {E : tm_Ev} {X : tm_X} {Q : State → Prop} {own : String} {cc : ByteArray} {nL : Nat} {ret : Option FieldType} {d pc : Nat} {lv : List (Nat × Value)} {st : List Value} {μ : tm_M} {k : Fin 4} {i : Nat} {z : Int} (lv1 : List (Nat × Value)) (C : tm_C E X own cc nL ret d) (hd : decode cc pc = .ok (.istore_n k, 1)) (hi : (k : Nat) = i) (hn : i < nL) (hv : (i, tm_i z) :: lv.filter (fun q => !(q.1 == i) && !(q.1 + 1 == i && q.2.category == 2)) = lv1) (kk : tm_V E X Q nL (pc + 1) lv1 st μ) : tm_V E X Q nL (pc) lv (tm_i z :: st) μ := by
  intro ls H locs hl hP hS
  exact lv_istore_n C.1 C.2.1 hd hi hl hn hv (fun ls hl => kk ls H locs hl hP hS)
theorem tv_istore {E : tm_Ev} {X : tm_X} {Q : State → Prop} {own : String} {cc : ByteArray} {nL : Nat} {ret : Option FieldType} {d pc : Nat} {lv : List (Nat × Value)} {st : List Value} {μ : tm_M} {i : Nat} {z : Int} (lv1 : List (Nat × Value)) (C : tm_C E X own cc nL ret d) (hd : decode cc pc = .ok (.istore i, 2)) (hn : i < nL) (hv : (i, tm_i z) :: lv.filter (fun q => !(q.1 == i) && !(q.1 + 1 == i && q.2.category == 2)) = lv1) (kk : tm_V E X Q nL (pc + 2) lv1 st μ) : tm_V E X Q nL (pc) lv (tm_i z :: st) μ := by
  intro ls H locs hl hP hS
  exact lv_istore C.1 C.2.1 hd hl hn hv (fun ls hl => kk ls H locs hl hP hS)
theorem tv_lstore_n {E : tm_Ev} {X : tm_X} {Q : State → Prop} {own : String} {cc : ByteArray} {nL : Nat} {ret : Option FieldType} {d pc : Nat} {lv : List (Nat × Value)} {st : List Value} {μ : tm_M} {k : Fin 4} {i : Nat} {z : Int} (lv1 : List (Nat × Value)) (C : tm_C E X own cc nL ret d) (hd : decode cc pc = .ok (.lstore_n k, 1)) (hi : (k : Nat) = i) (hn : i + 1 < nL) (hv : (i, tm_l z) :: lv.filter (fun q => !(q.1 == i) && (!(q.1 == i + 1) && !(q.1 + 1 == i && q.2.category == 2))) = lv1) (kk : tm_V E X Q nL (pc + 1) lv1 st μ) : tm_V E X Q nL (pc) lv (tm_l z :: st) μ := by
  intro ls H locs hl hP hS
  exact lv_lstore_n C.1 C.2.1 hd hi hl hn hv (fun ls hl => kk ls H locs hl hP hS)
theorem tv_lstore {E : tm_Ev} {X : tm_X} {Q : State → Prop} {own : String} {cc : ByteArray} {nL : Nat} {ret : Option FieldType} {d pc : Nat} {lv : List (Nat × Value)} {st : List Value} {μ : tm_M} {i : Nat} {z : Int} (lv1 : List (Nat × Value)) (C : tm_C E X own cc nL ret d) (hd : decode cc pc = .ok (.lstore i, 2)) (hn : i + 1 < nL) (hv : (i, tm_l z) :: lv.filter (fun q => !(q.1 == i) && (!(q.1 == i + 1) && !(q.1 + 1 == i && q.2.category == 2))) = lv1) (kk : tm_V E X Q nL (pc + 2) lv1 st μ) : tm_V E X Q nL (pc) lv (tm_l z :: st) μ := by
  intro ls H locs hl hP hS
  exact lv_lstore C.1 C.2.1 hd hl hn hv (fun ls hl => kk ls H locs hl hP hS)
theorem tv_astore_n {E : tm_Ev} {X : tm_X} {Q : State → Prop} {own : String} {cc : ByteArray} {nL : Nat} {ret : Option FieldType} {d pc : Nat} {lv : List (Nat × Value)} {st : List Value} {μ : tm_M} {k : Fin 4} {i : Nat} {z : Nat} (lv1 : List (Nat × Value)) (C : tm_C E X own cc nL ret d) (hd : decode cc pc = .ok (.astore_n k, 1)) (hi : (k : Nat) = i) (hn : i < nL) (hv : (i, Value.ref z) :: lv.filter (fun q => !(q.1 == i) && !(q.1 + 1 == i && q.2.category == 2)) = lv1) (kk : tm_V E X Q nL (pc + 1) lv1 st μ) : tm_V E X Q nL (pc) lv (Value.ref z :: st) μ := by
  intro ls H locs hl hP hS
  exact lv_astore_n C.1 C.2.1 hd hi hl hn hv (fun ls hl => kk ls H locs hl hP hS)
theorem tv_astore {E : tm_Ev} {X : tm_X} {Q : State → Prop} {own : String} {cc : ByteArray} {nL : Nat} {ret : Option FieldType} {d pc : Nat} {lv : List (Nat × Value)} {st : List Value} {μ : tm_M} {i : Nat} {z : Nat} (lv1 : List (Nat × Value)) (C : tm_C E X own cc nL ret d) (hd : decode cc pc = .ok (.astore i, 2)) (hn : i < nL) (hv : (i, Value.ref z) :: lv.filter (fun q => !(q.1 == i) && !(q.1 + 1 == i && q.2.category == 2)) = lv1) (kk : tm_V E X Q nL (pc + 2) lv1 st μ) : tm_V E X Q nL (pc) lv (Value.ref z :: st) μ := by
  intro ls H locs hl hP hS
  exact lv_astore C.1 C.2.1 hd hl hn hv (fun ls hl => kk ls H locs hl hP hS)
theorem tv_iinc {E : tm_Ev} {X : tm_X} {Q : State → Prop} {own : String} {cc : ByteArray} {nL : Nat} {ret : Option FieldType} {d pc : Nat} {lv : List (Nat × Value)} {st : List Value} {μ : tm_M} {i : Nat} {n z : Int} (q : Nat) (lv1 : List (Nat × Value)) (C : tm_C E X own cc nL ret d) (hd : decode cc pc = .ok (.iinc i n, 3)) (hq : lv[q]? = some (i, tm_i z)) (hn : i < nL) (hv : (i, tm_i (z + n)) :: lv.filter (fun q => !(q.1 == i) && !(q.1 + 1 == i && q.2.category == 2)) = lv1) (kk : tm_V E X Q nL (pc + 3) lv1 st μ) : tm_V E X Q nL (pc) lv st μ := by
  intro ls H locs hl hP hS
  exact lv_iinc C.1 C.2.1 hd hl hq (v := Int32.ofInt (z + n)) (Int32.ofInt_add z n).symm hn hv (fun ls hl => kk ls H locs hl hP hS)
theorem tv_dup {E : tm_Ev} {X : tm_X} {Q : State → Prop} {own : String} {cc : ByteArray} {nL : Nat} {ret : Option FieldType} {d pc : Nat} {lv : List (Nat × Value)} {st : List Value} {μ : tm_M} {v : Value} (C : tm_C E X own cc nL ret d) (hd : decode cc pc = .ok (.dup, 1)) (hv : v.category = 1) (k : tm_V E X Q nL (pc + 1) lv (v :: v :: st) μ) : tm_V E X Q nL (pc) lv (v :: st) μ := by
  intro ls H locs hl hP hS
  exact lv_dup C.1 C.2.1 hd hv (k ls H locs hl hP hS)
theorem tv_dup2 {E : tm_Ev} {X : tm_X} {Q : State → Prop} {own : String} {cc : ByteArray} {nL : Nat} {ret : Option FieldType} {d pc : Nat} {lv : List (Nat × Value)} {st : List Value} {μ : tm_M} {v w : Value} (C : tm_C E X own cc nL ret d) (hd : decode cc pc = .ok (.dup2, 1)) (hv : v.category = 1) (hw : w.category = 1) (k : tm_V E X Q nL (pc + 1) lv (v :: w :: v :: w :: st) μ) : tm_V E X Q nL (pc) lv (v :: w :: st) μ := by
  intro ls H locs hl hP hS
  exact lv_dup2_11 C.1 C.2.1 hd hv hw (k ls H locs hl hP hS)
theorem tv_icmp_eq {E : tm_Ev} {X : tm_X} {Q : State → Prop} {own : String} {cc : ByteArray} {nL : Nat} {ret : Option FieldType} {d pc : Nat} {lv : List (Nat × Value)} {st : List Value} {μ : tm_M} {a b off : Int} (tgt : Nat) (C : tm_C E X own cc nL ret d) (hd : decode cc pc = .ok (.if_icmp .eq off, 3)) (ht : (pc : Int) + off = (tgt : Int)) (ha : -2147483648 ≤ a ∧ a ≤ 2147483647) (hb : -2147483648 ≤ b ∧ b ≤ 2147483647) (kt : a = b → tm_V E X Q nL (tgt) lv st μ) (kf : ¬ a = b → tm_V E X Q nL (pc + 3) lv st μ) : tm_V E X Q nL (pc) lv (tm_i b :: tm_i a :: st) μ := by
  intro ls H locs hl hP hS
  exact lv_icmp_eq C.1 C.2.1 hd ht (fun q => kt ((tm_eqi ha hb).mp q) ls H locs hl hP hS) (fun q => kf (fun z => q ((tm_eqi ha hb).mpr z)) ls H locs hl hP hS)
theorem tv_icmp_ne {E : tm_Ev} {X : tm_X} {Q : State → Prop} {own : String} {cc : ByteArray} {nL : Nat} {ret : Option FieldType} {d pc : Nat} {lv : List (Nat × Value)} {st : List Value} {μ : tm_M} {a b off : Int} (tgt : Nat) (C : tm_C E X own cc nL ret d) (hd : decode cc pc = .ok (.if_icmp .ne off, 3)) (ht : (pc : Int) + off = (tgt : Int)) (ha : -2147483648 ≤ a ∧ a ≤ 2147483647) (hb : -2147483648 ≤ b ∧ b ≤ 2147483647) (kt : ¬ a = b → tm_V E X Q nL (tgt) lv st μ) (kf : a = b → tm_V E X Q nL (pc + 3) lv st μ) : tm_V E X Q nL (pc) lv (tm_i b :: tm_i a :: st) μ := by
  intro ls H locs hl hP hS
  exact lv_icmp_ne C.1 C.2.1 hd ht (fun q => kt (fun z => q ((tm_eqi ha hb).mpr z)) ls H locs hl hP hS) (fun q => kf ((tm_eqi ha hb).mp q) ls H locs hl hP hS)
theorem tv_icmp_lt {E : tm_Ev} {X : tm_X} {Q : State → Prop} {own : String} {cc : ByteArray} {nL : Nat} {ret : Option FieldType} {d pc : Nat} {lv : List (Nat × Value)} {st : List Value} {μ : tm_M} {a b off : Int} (tgt : Nat) (C : tm_C E X own cc nL ret d) (hd : decode cc pc = .ok (.if_icmp .lt off, 3)) (ht : (pc : Int) + off = (tgt : Int)) (ha : -2147483648 ≤ a ∧ a ≤ 2147483647) (hb : -2147483648 ≤ b ∧ b ≤ 2147483647) (kt : a < b → tm_V E X Q nL (tgt) lv st μ) (kf : b ≤ a → tm_V E X Q nL (pc + 3) lv st μ) : tm_V E X Q nL (pc) lv (tm_i b :: tm_i a :: st) μ := by
  intro ls H locs hl hP hS
  exact lv_icmp_lt C.1 C.2.1 hd ht (fun q => kt ((tm_lti ha hb).mp q) ls H locs hl hP hS) (fun q => kf (Int.not_lt.mp fun z => q ((tm_lti ha hb).mpr z)) ls H locs hl hP hS)
theorem tv_icmp_ge {E : tm_Ev} {X : tm_X} {Q : State → Prop} {own : String} {cc : ByteArray} {nL : Nat} {ret : Option FieldType} {d pc : Nat} {lv : List (Nat × Value)} {st : List Value} {μ : tm_M} {a b off : Int} (tgt : Nat) (C : tm_C E X own cc nL ret d) (hd : decode cc pc = .ok (.if_icmp .ge off, 3)) (ht : (pc : Int) + off = (tgt : Int)) (ha : -2147483648 ≤ a ∧ a ≤ 2147483647) (hb : -2147483648 ≤ b ∧ b ≤ 2147483647) (kt : b ≤ a → tm_V E X Q nL (tgt) lv st μ) (kf : a < b → tm_V E X Q nL (pc + 3) lv st μ) : tm_V E X Q nL (pc) lv (tm_i b :: tm_i a :: st) μ := by
  intro ls H locs hl hP hS
  exact lv_icmp_ge C.1 C.2.1 hd ht (fun q => kt ((tm_lei hb ha).mp q) ls H locs hl hP hS) (fun q => kf (Int.not_le.mp fun z => q ((tm_lei hb ha).mpr z)) ls H locs hl hP hS)
theorem tv_icmp_gt {E : tm_Ev} {X : tm_X} {Q : State → Prop} {own : String} {cc : ByteArray} {nL : Nat} {ret : Option FieldType} {d pc : Nat} {lv : List (Nat × Value)} {st : List Value} {μ : tm_M} {a b off : Int} (tgt : Nat) (C : tm_C E X own cc nL ret d) (hd : decode cc pc = .ok (.if_icmp .gt off, 3)) (ht : (pc : Int) + off = (tgt : Int)) (ha : -2147483648 ≤ a ∧ a ≤ 2147483647) (hb : -2147483648 ≤ b ∧ b ≤ 2147483647) (kt : b < a → tm_V E X Q nL (tgt) lv st μ) (kf : a ≤ b → tm_V E X Q nL (pc + 3) lv st μ) : tm_V E X Q nL (pc) lv (tm_i b :: tm_i a :: st) μ := by
  intro ls H locs hl hP hS
  exact lv_icmp_gt C.1 C.2.1 hd ht (fun q => kt ((tm_lti hb ha).mp q) ls H locs hl hP hS) (fun q => kf (Int.not_lt.mp fun z => q ((tm_lti hb ha).mpr z)) ls H locs hl hP hS)
theorem tv_icmp_le {E : tm_Ev} {X : tm_X} {Q : State → Prop} {own : String} {cc : ByteArray} {nL : Nat} {ret : Option FieldType} {d pc : Nat} {lv : List (Nat × Value)} {st : List Value} {μ : tm_M} {a b off : Int} (tgt : Nat) (C : tm_C E X own cc nL ret d) (hd : decode cc pc = .ok (.if_icmp .le off, 3)) (ht : (pc : Int) + off = (tgt : Int)) (ha : -2147483648 ≤ a ∧ a ≤ 2147483647) (hb : -2147483648 ≤ b ∧ b ≤ 2147483647) (kt : a ≤ b → tm_V E X Q nL (tgt) lv st μ) (kf : b < a → tm_V E X Q nL (pc + 3) lv st μ) : tm_V E X Q nL (pc) lv (tm_i b :: tm_i a :: st) μ := by
  intro ls H locs hl hP hS
  exact lv_icmp_le C.1 C.2.1 hd ht (fun q => kt ((tm_lei ha hb).mp q) ls H locs hl hP hS) (fun q => kf (Int.not_le.mp fun z => q ((tm_lei ha hb).mpr z)) ls H locs hl hP hS)
theorem tv_if_eq {E : tm_Ev} {X : tm_X} {Q : State → Prop} {own : String} {cc : ByteArray} {nL : Nat} {ret : Option FieldType} {d pc : Nat} {lv : List (Nat × Value)} {st : List Value} {μ : tm_M} {a off : Int} (tgt : Nat) (C : tm_C E X own cc nL ret d) (hd : decode cc pc = .ok (.ifCond .eq off, 3)) (ht : (pc : Int) + off = (tgt : Int)) (ha : -2147483648 ≤ a ∧ a ≤ 2147483647) (kt : a = 0 → tm_V E X Q nL (tgt) lv st μ) (kf : ¬ a = 0 → tm_V E X Q nL (pc + 3) lv st μ) : tm_V E X Q nL (pc) lv (tm_i a :: st) μ := by
  intro ls H locs hl hP hS
  have hb : -2147483648 ≤ (0 : Int) ∧ (0 : Int) ≤ 2147483647 := by omega
  exact lv_if_eq C.1 C.2.1 hd ht (fun q => kt ((tm_eqi ha hb).mp q) ls H locs hl hP hS) (fun q => kf (fun z => q ((tm_eqi ha hb).mpr z)) ls H locs hl hP hS)
theorem tv_if_ne {E : tm_Ev} {X : tm_X} {Q : State → Prop} {own : String} {cc : ByteArray} {nL : Nat} {ret : Option FieldType} {d pc : Nat} {lv : List (Nat × Value)} {st : List Value} {μ : tm_M} {a off : Int} (tgt : Nat) (C : tm_C E X own cc nL ret d) (hd : decode cc pc = .ok (.ifCond .ne off, 3)) (ht : (pc : Int) + off = (tgt : Int)) (ha : -2147483648 ≤ a ∧ a ≤ 2147483647) (kt : ¬ a = 0 → tm_V E X Q nL (tgt) lv st μ) (kf : a = 0 → tm_V E X Q nL (pc + 3) lv st μ) : tm_V E X Q nL (pc) lv (tm_i a :: st) μ := by
  intro ls H locs hl hP hS
  have hb : -2147483648 ≤ (0 : Int) ∧ (0 : Int) ≤ 2147483647 := by omega
  exact lv_if_ne C.1 C.2.1 hd ht (fun q => kt (fun z => q ((tm_eqi ha hb).mpr z)) ls H locs hl hP hS) (fun q => kf ((tm_eqi ha hb).mp q) ls H locs hl hP hS)
theorem tv_if_lt {E : tm_Ev} {X : tm_X} {Q : State → Prop} {own : String} {cc : ByteArray} {nL : Nat} {ret : Option FieldType} {d pc : Nat} {lv : List (Nat × Value)} {st : List Value} {μ : tm_M} {a off : Int} (tgt : Nat) (C : tm_C E X own cc nL ret d) (hd : decode cc pc = .ok (.ifCond .lt off, 3)) (ht : (pc : Int) + off = (tgt : Int)) (ha : -2147483648 ≤ a ∧ a ≤ 2147483647) (kt : a < 0 → tm_V E X Q nL (tgt) lv st μ) (kf : 0 ≤ a → tm_V E X Q nL (pc + 3) lv st μ) : tm_V E X Q nL (pc) lv (tm_i a :: st) μ := by
  intro ls H locs hl hP hS
  have hb : -2147483648 ≤ (0 : Int) ∧ (0 : Int) ≤ 2147483647 := by omega
  exact lv_if_lt C.1 C.2.1 hd ht (fun q => kt ((tm_lti ha hb).mp q) ls H locs hl hP hS) (fun q => kf (Int.not_lt.mp fun z => q ((tm_lti ha hb).mpr z)) ls H locs hl hP hS)
theorem tv_if_ge {E : tm_Ev} {X : tm_X} {Q : State → Prop} {own : String} {cc : ByteArray} {nL : Nat} {ret : Option FieldType} {d pc : Nat} {lv : List (Nat × Value)} {st : List Value} {μ : tm_M} {a off : Int} (tgt : Nat) (C : tm_C E X own cc nL ret d) (hd : decode cc pc = .ok (.ifCond .ge off, 3)) (ht : (pc : Int) + off = (tgt : Int)) (ha : -2147483648 ≤ a ∧ a ≤ 2147483647) (kt : 0 ≤ a → tm_V E X Q nL (tgt) lv st μ) (kf : a < 0 → tm_V E X Q nL (pc + 3) lv st μ) : tm_V E X Q nL (pc) lv (tm_i a :: st) μ := by
  intro ls H locs hl hP hS
  have hb : -2147483648 ≤ (0 : Int) ∧ (0 : Int) ≤ 2147483647 := by omega
  exact lv_if_ge C.1 C.2.1 hd ht (fun q => kt ((tm_lei hb ha).mp q) ls H locs hl hP hS) (fun q => kf (Int.not_le.mp fun z => q ((tm_lei hb ha).mpr z)) ls H locs hl hP hS)
theorem tv_if_gt {E : tm_Ev} {X : tm_X} {Q : State → Prop} {own : String} {cc : ByteArray} {nL : Nat} {ret : Option FieldType} {d pc : Nat} {lv : List (Nat × Value)} {st : List Value} {μ : tm_M} {a off : Int} (tgt : Nat) (C : tm_C E X own cc nL ret d) (hd : decode cc pc = .ok (.ifCond .gt off, 3)) (ht : (pc : Int) + off = (tgt : Int)) (ha : -2147483648 ≤ a ∧ a ≤ 2147483647) (kt : 0 < a → tm_V E X Q nL (tgt) lv st μ) (kf : a ≤ 0 → tm_V E X Q nL (pc + 3) lv st μ) : tm_V E X Q nL (pc) lv (tm_i a :: st) μ := by
  intro ls H locs hl hP hS
  have hb : -2147483648 ≤ (0 : Int) ∧ (0 : Int) ≤ 2147483647 := by omega
  exact lv_if_gt C.1 C.2.1 hd ht (fun q => kt ((tm_lti hb ha).mp q) ls H locs hl hP hS) (fun q => kf (Int.not_lt.mp fun z => q ((tm_lti hb ha).mpr z)) ls H locs hl hP hS)
theorem tv_if_le {E : tm_Ev} {X : tm_X} {Q : State → Prop} {own : String} {cc : ByteArray} {nL : Nat} {ret : Option FieldType} {d pc : Nat} {lv : List (Nat × Value)} {st : List Value} {μ : tm_M} {a off : Int} (tgt : Nat) (C : tm_C E X own cc nL ret d) (hd : decode cc pc = .ok (.ifCond .le off, 3)) (ht : (pc : Int) + off = (tgt : Int)) (ha : -2147483648 ≤ a ∧ a ≤ 2147483647) (kt : a ≤ 0 → tm_V E X Q nL (tgt) lv st μ) (kf : 0 < a → tm_V E X Q nL (pc + 3) lv st μ) : tm_V E X Q nL (pc) lv (tm_i a :: st) μ := by
  intro ls H locs hl hP hS
  have hb : -2147483648 ≤ (0 : Int) ∧ (0 : Int) ≤ 2147483647 := by omega
  exact lv_if_le C.1 C.2.1 hd ht (fun q => kt ((tm_lei ha hb).mp q) ls H locs hl hP hS) (fun q => kf (Int.not_le.mp fun z => q ((tm_lei ha hb).mpr z)) ls H locs hl hP hS)
theorem tv_ifeqB {E : tm_Ev} {X : tm_X} {Q : State → Prop} {own : String} {cc : ByteArray} {nL : Nat} {ret : Option FieldType} {d pc : Nat} {lv : List (Nat × Value)} {st : List Value} {μ : tm_M} {p : Prop} [Decidable p] {off : Int} (tgt : Nat) (C : tm_C E X own cc nL ret d) (hd : decode cc pc = .ok (.ifCond .eq off, 3)) (ht : (pc : Int) + off = (tgt : Int)) (kt : ¬ p → tm_V E X Q nL (tgt) lv st μ) (kf : p → tm_V E X Q nL (pc + 3) lv st μ) : tm_V E X Q nL (pc) lv (tm_i (if p then 1 else 0) :: st) μ := by
  by_cases hp : p
  · rw [if_pos hp]
    exact tv_if_eq tgt C hd ht (by omega) (fun h => absurd h (by decide)) (fun _ => kf hp)
  · rw [if_neg hp]
    exact tv_if_eq tgt C hd ht (by omega) (fun _ => kt hp) (fun h => absurd rfl h)
theorem tv_ifneB {E : tm_Ev} {X : tm_X} {Q : State → Prop} {own : String} {cc : ByteArray} {nL : Nat} {ret : Option FieldType} {d pc : Nat} {lv : List (Nat × Value)} {st : List Value} {μ : tm_M} {p : Prop} [Decidable p] {off : Int} (tgt : Nat) (C : tm_C E X own cc nL ret d) (hd : decode cc pc = .ok (.ifCond .ne off, 3)) (ht : (pc : Int) + off = (tgt : Int)) (kt : p → tm_V E X Q nL (tgt) lv st μ) (kf : ¬ p → tm_V E X Q nL (pc + 3) lv st μ) : tm_V E X Q nL (pc) lv (tm_i (if p then 1 else 0) :: st) μ := by
  by_cases hp : p
  · rw [if_pos hp]
    exact tv_if_ne tgt C hd ht (by omega) (fun _ => kt hp) (fun h => absurd h (by decide))
  · rw [if_neg hp]
    exact tv_if_ne tgt C hd ht (by omega) (fun h => absurd rfl h) (fun _ => kf hp)
theorem tv_goto {E : tm_Ev} {X : tm_X} {Q : State → Prop} {own : String} {cc : ByteArray} {nL : Nat} {ret : Option FieldType} {d pc : Nat} {lv : List (Nat × Value)} {st : List Value} {μ : tm_M} {off : Int} (tgt : Nat) (C : tm_C E X own cc nL ret d) (hd : decode cc pc = .ok (.goto off, 3)) (ht : (pc : Int) + off = (tgt : Int)) (k : tm_V E X Q nL (tgt) lv st μ) : tm_V E X Q nL (pc) lv st μ := by
  intro ls H locs hl hP hS
  exact lv_goto C.1 C.2.1 hd ht (k ls H locs hl hP hS)
theorem tv_tabI {E : tm_Ev} {X : tm_X} {Q : State → Prop} {own : String} {cc : ByteArray} {nL : Nat} {ret : Option FieldType} {d pc : Nat} {lv : List (Nat × Value)} {st : List Value} {μ : tm_M} {a dflt lo hi off : Int} {offs : Array Int} {len : Nat} (tgt : Nat) (C : tm_C E X own cc nL ret d) (hd : decode cc pc = .ok (.tableswitch dflt lo hi offs, len)) (ha : -2147483648 ≤ a ∧ a ≤ 2147483647) (h1 : lo ≤ a ∧ a ≤ hi) (ho : offs[(a - lo).toNat]? = some off) (ht : (pc : Int) + off = (tgt : Int)) (k : tm_V E X Q nL (tgt) lv st μ) : tm_V E X Q nL (pc) lv (tm_i a :: st) μ := by
  intro ls H locs hl hP hS
  exact lv_tableIn C.1 C.2.1 hd (by rw [tm_ti ha]; omega) (by rw [tm_ti ha]; omega) (by rw [tm_ti ha]; exact ho) ht (k ls H locs hl hP hS)
theorem tv_tabO {E : tm_Ev} {X : tm_X} {Q : State → Prop} {own : String} {cc : ByteArray} {nL : Nat} {ret : Option FieldType} {d pc : Nat} {lv : List (Nat × Value)} {st : List Value} {μ : tm_M} {a dflt lo hi : Int} {offs : Array Int} {len : Nat} (tgt : Nat) (C : tm_C E X own cc nL ret d) (hd : decode cc pc = .ok (.tableswitch dflt lo hi offs, len)) (ha : -2147483648 ≤ a ∧ a ≤ 2147483647) (h1 : a < lo ∨ hi < a) (ht : (pc : Int) + dflt = (tgt : Int)) (k : tm_V E X Q nL (tgt) lv st μ) : tm_V E X Q nL (pc) lv (tm_i a :: st) μ := by
  intro ls H locs hl hP hS
  exact lv_tableOut C.1 C.2.1 hd (by rw [tm_ti ha]; exact h1) ht (k ls H locs hl hP hS)
theorem tv_iret {E : tm_Ev} {X : tm_X} {own : String} {cc : ByteArray} {nL : Nat} {d pc : Nat} {lv : List (Nat × Value)} {μ : tm_M} {post : Option Value → tm_M → Prop} {z : Int} (C : tm_C E X own cc nL (some .int) d) (hd : decode cc pc = .ok (.ireturn, 1)) (h : post (some (tm_i z)) μ) : tm_V E X (tm_Q E X post) nL pc lv [tm_i z] μ := by
  intro ls H locs hl hP hS
  exact W.iret C.1 C.2.1 C.2.2.2.2.2.2.2.1 (fun t ht hW => ⟨⟨_, μ, rfl, h, by rw [ht]; exact hP⟩, hS.F ht⟩) hS.2.2 hd C.2.2.2.2.2.2.2.2
theorem tv_zret {E : tm_Ev} {X : tm_X} {own : String} {cc : ByteArray} {nL : Nat} {d pc : Nat} {lv : List (Nat × Value)} {μ : tm_M} {post : Option Value → tm_M → Prop} {z : Int} (C : tm_C E X own cc nL (some .boolean) d) (hd : decode cc pc = .ok (.ireturn, 1)) (hz : z = 0 ∨ z = 1) (h : post (some (tm_i z)) μ) : tm_V E X (tm_Q E X post) nL pc lv [tm_i z] μ := by
  intro ls H locs hl hP hS
  exact W.zret C.1 C.2.1 C.2.2.2.2.2.2.2.1 (by rcases hz with rfl | rfl <;> rfl) (fun t ht hW => ⟨⟨_, μ, rfl, h, by rw [ht]; exact hP⟩, hS.F ht⟩) hS.2.2 hd C.2.2.2.2.2.2.2.2
theorem tv_lret {E : tm_Ev} {X : tm_X} {own : String} {cc : ByteArray} {nL : Nat} {d pc : Nat} {lv : List (Nat × Value)} {μ : tm_M} {post : Option Value → tm_M → Prop} {z : Int} (C : tm_C E X own cc nL (some .long) d) (hd : decode cc pc = .ok (.lreturn, 1)) (h : post (some (tm_l z)) μ) : tm_V E X (tm_Q E X post) nL pc lv [tm_l z] μ := by
  intro ls H locs hl hP hS
  exact W.lret C.1 C.2.1 C.2.2.2.2.2.2.2.1 (fun t ht hW => ⟨⟨_, μ, rfl, h, by rw [ht]; exact hP⟩, hS.F ht⟩) hS.2.2 hd C.2.2.2.2.2.2.2.2
theorem tv_vret {E : tm_Ev} {X : tm_X} {own : String} {cc : ByteArray} {nL : Nat} {d pc : Nat} {lv : List (Nat × Value)} {μ : tm_M} {post : Option Value → tm_M → Prop} (C : tm_C E X own cc nL none d) (hd : decode cc pc = .ok (.return_, 1)) (h : post none μ) : tm_V E X (tm_Q E X post) nL pc lv [] μ := by
  intro ls H locs hl hP hS
  exact W.vret C.1 C.2.1 C.2.2.2.2.2.2.2.1 (fun t ht hW => ⟨⟨_, μ, rfl, h, by rw [ht]; exact hP⟩, hS.F ht⟩) hS.2.2 hd C.2.2.2.2.2.2.2.2
