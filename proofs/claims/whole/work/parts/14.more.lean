/-! more rows: fewer locals, a renamed top, rows filled -/
theorem tv_sub {E : tm_Ev} {X : tm_X} {Q : State → Prop} {nL pc : Nat} {lv lv1 : List (Nat × Value)} {st : List Value} {μ : tm_M} (ks : List Nat) (hp : lv_pick lv ks = lv1) (k : tm_V E X Q nL pc lv1 st μ) : tm_V E X Q nL pc lv st μ := by
  intro ls H locs hl hP hS
  exact k ls H locs (lv_sub hl ks hp) hP hS
theorem tv_top {E : tm_Ev} {X : tm_X} {Q : State → Prop} {nL pc : Nat} {lv : List (Nat × Value)} {st : List Value} {μ : tm_M} {z : Int} (y : Int) (h : z = y) (k : tm_V E X Q nL pc lv (tm_i y :: st) μ) : tm_V E X Q nL pc lv (tm_i z :: st) μ := by
  subst h
  exact k
theorem tv_topl {E : tm_Ev} {X : tm_X} {Q : State → Prop} {nL pc : Nat} {lv : List (Nat × Value)} {st : List Value} {μ : tm_M} {z : Int} (y : Int) (h : z = y) (k : tm_V E X Q nL pc lv (tm_l y :: st) μ) : tm_V E X Q nL pc lv (tm_l z :: st) μ := by
  subst h
  exact k
theorem tv_mem {E : tm_Ev} {X : tm_X} {Q : State → Prop} {nL pc : Nat} {lv : List (Nat × Value)} {st : List Value} {μ : tm_M} (μ1 : tm_M) (h : μ = μ1) (k : tm_V E X Q nL pc lv st μ1) : tm_V E X Q nL pc lv st μ := by
  subst h
  exact k
/-- the row k holds v at its first n places -/
def tm_fill (μ : tm_M) (k n : Nat) (v : Int) : tm_M := fun a b => if a = k then (if b < n then v else μ a b) else μ a b
theorem tm_fill_0 (μ : tm_M) (k : Nat) (v : Int) : tm_fill μ k 0 v = μ := by
  funext a b
  simp [tm_fill]
theorem tm_fill_s (μ : tm_M) (k n : Nat) (v : Int) : tm_up (tm_fill μ k n v) k n v = tm_fill μ k (n + 1) v := by
  funext a b
  unfold tm_up tm_fill
  by_cases ha : a = k
  · simp only [ha, if_true]
    by_cases hb : b = n
    · simp [hb]
    · by_cases h2 : b < n
      · simp [hb, h2, Nat.lt_succ_of_lt h2]
      · have : ¬ b < n + 1 := by omega
        simp [hb, h2, this]
  · simp [ha]
theorem tm_fill_k {μ : tm_M} {k n a b : Nat} {v : Int} (h : a ≠ k) : tm_fill μ k n v a b = μ a b := by simp [tm_fill, h]
theorem tm_fill_f {μ : tm_M} {k n a : Nat} {v : Int} (h : a ≠ k) : tm_fill μ k n v a = μ a := by funext b; exact tm_fill_k h
theorem tm_fill_in {μ : tm_M} {k n b : Nat} {v : Int} (h : b < n) : tm_fill μ k n v k b = v := by simp [tm_fill, h]
theorem tm_fill_out {μ : tm_M} {k n b : Nat} {v : Int} (h : n ≤ b) : tm_fill μ k n v k b = μ k b := by
  have : ¬ b < n := by omega
  simp [tm_fill, this]
theorem tm_cp_k {μ : tm_M} {k0 k sp dp n a b : Nat} (h : a ≠ k) : tm_cp μ k0 k sp dp n a b = μ a b := by simp [tm_cp, h]
theorem tm_cp_f {μ : tm_M} {k0 k sp dp n a : Nat} (h : a ≠ k) : tm_cp μ k0 k sp dp n a = μ a := by funext b; exact tm_cp_k h
theorem tm_cp_in {μ : tm_M} {k0 k n b : Nat} (h : b < n) : tm_cp μ k0 k 0 0 n k b = μ k0 b := by simp [tm_cp, h]
/-! Math -/
def tm_mmax (own : String) (ix : Nat) : Prop := Cond.methodLink own ix Lib.Math.max.name ∈ tm_tbl ∧ Cond.static Lib.Math.max.name ∈ tm_tbl ∧ Cond.initialized "java/lang/Math" ∈ tm_tbl ∧ Cond.code Lib.Math.max.name Lib.Math.max.code 2 (some .int) ∈ tm_tbl
theorem tv_mmax {E : tm_Ev} {X : tm_X} {Q : State → Prop} {own : String} {cc : ByteArray} {nL : Nat} {ret : Option FieldType} {d pc : Nat} {lv : List (Nat × Value)} {st : List Value} {μ : tm_M} {ix : Nat} {a b : Int} (C : tm_C E X own cc nL ret (d + 1)) (hf : tm_mmax own ix) (ha : -2147483648 ≤ a ∧ a ≤ 2147483647) (hb : -2147483648 ≤ b ∧ b ≤ 2147483647) (hd : decode cc pc = .ok (.invokestatic ix, 3)) (hr : (st.map fun v => v.category).sum ≤ 8) (k : tm_V E X Q nL (pc + 3) lv (tm_i (max a b) :: st) μ) : tm_V E X Q nL pc lv (tm_i b :: tm_i a :: st) μ := by
  intro ls H locs hl hP hS
  have k := k ls H locs hl hP hS
  obtain ⟨f1, f2, f3, f4⟩ := hf
  have hT := C.2.2.2.2.1
  refine va_mmax C.1 C.2.1 (by rw [hl.1]; exact C.2.2.1) C.2.2.2.1 (hT _ f1) (hT _ f2) (hT _ f3) (hT _ f4) (by rw [C.2.2.2.2.2.2.1]; exact Nat.le_add_left 1 d) (by rw [C.2.2.2.2.2.2.1]; show _ + 13 ≤ 40 * (d + 1); omega) (Nat.zero_le _) (Nat.zero_le _) hd ?_
  have e : (if Int32.ofInt a < Int32.ofInt b then Int32.ofInt b else Int32.ofInt a) = Int32.ofInt (max a b) := by
    by_cases h : a < b
    · rw [if_pos ((tm_lti ha hb).mpr h)]
      congr 1
      omega
    · rw [if_neg (fun z => h ((tm_lti ha hb).mp z))]
      congr 1
      omega
  rw [e]
  exact k
def tm_mmin (own : String) (ix : Nat) : Prop := Cond.methodLink own ix Lib.Math.min.name ∈ tm_tbl ∧ Cond.static Lib.Math.min.name ∈ tm_tbl ∧ Cond.initialized "java/lang/Math" ∈ tm_tbl ∧ Cond.code Lib.Math.min.name Lib.Math.min.code 2 (some .int) ∈ tm_tbl
theorem tv_mmin {E : tm_Ev} {X : tm_X} {Q : State → Prop} {own : String} {cc : ByteArray} {nL : Nat} {ret : Option FieldType} {d pc : Nat} {lv : List (Nat × Value)} {st : List Value} {μ : tm_M} {ix : Nat} {a b : Int} (C : tm_C E X own cc nL ret (d + 1)) (hf : tm_mmin own ix) (ha : -2147483648 ≤ a ∧ a ≤ 2147483647) (hb : -2147483648 ≤ b ∧ b ≤ 2147483647) (hd : decode cc pc = .ok (.invokestatic ix, 3)) (hr : (st.map fun v => v.category).sum ≤ 8) (k : tm_V E X Q nL (pc + 3) lv (tm_i (min a b) :: st) μ) : tm_V E X Q nL pc lv (tm_i b :: tm_i a :: st) μ := by
  intro ls H locs hl hP hS
  have k := k ls H locs hl hP hS
  obtain ⟨f1, f2, f3, f4⟩ := hf
  have hT := C.2.2.2.2.1
  refine va_mmin C.1 C.2.1 (by rw [hl.1]; exact C.2.2.1) C.2.2.2.1 (hT _ f1) (hT _ f2) (hT _ f3) (hT _ f4) (by rw [C.2.2.2.2.2.2.1]; exact Nat.le_add_left 1 d) (by rw [C.2.2.2.2.2.2.1]; show _ + 13 ≤ 40 * (d + 1); omega) (Nat.zero_le _) (Nat.zero_le _) hd ?_
  have e : (if Int32.ofInt b < Int32.ofInt a then Int32.ofInt b else Int32.ofInt a) = Int32.ofInt (min a b) := by
    by_cases h : b < a
    · rw [if_pos ((tm_lti hb ha).mpr h)]
      congr 1
      omega
    · rw [if_neg (fun z => h ((tm_lti hb ha).mp z))]
      congr 1
      omega
  rw [e]
  exact k
theorem mx_X7_299 : tm_mmin RX7 299 := ⟨tm_mem 711 (by decide +kernel) rfl, tm_mem 458 (by decide +kernel) rfl, tm_mem 58 (by decide +kernel) rfl, tm_mem 459 (by decide +kernel) rfl⟩
theorem mx_X7_382 : tm_mmax RX7 382 := ⟨tm_mem 635 (by decide +kernel) rfl, tm_mem 85 (by decide +kernel) rfl, tm_mem 58 (by decide +kernel) rfl, tm_mem 86 (by decide +kernel) rfl⟩
theorem mx_X2_7 : tm_mmax RX2 7 := ⟨tm_mem 84 (by decide +kernel) rfl, tm_mem 85 (by decide +kernel) rfl, tm_mem 58 (by decide +kernel) rfl, tm_mem 86 (by decide +kernel) rfl⟩
theorem mx_X4_33 : tm_mmax RX4 33 := ⟨tm_mem 456 (by decide +kernel) rfl, tm_mem 85 (by decide +kernel) rfl, tm_mem 58 (by decide +kernel) rfl, tm_mem 86 (by decide +kernel) rfl⟩
theorem mx_X4_39 : tm_mmin RX4 39 := ⟨tm_mem 457 (by decide +kernel) rfl, tm_mem 458 (by decide +kernel) rfl, tm_mem 58 (by decide +kernel) rfl, tm_mem 459 (by decide +kernel) rfl⟩
