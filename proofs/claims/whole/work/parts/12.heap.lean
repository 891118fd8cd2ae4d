/-! rows of the heap -/
def tm_cls (ci : Nat) (Cn : String) (T : u_T) (N : Nat) (ty : Nat → FieldType) : Prop := vwCl[ci]? = some (Cn, T, N) ∧ (∀ w ∈ u_ws Cn T N, w ∈ tm_tbl) ∧ (∀ k, k < N → parseFieldDescriptor (T k).2.2.1 = some (ty k)) ∧ (∀ a, a < N → ∀ b, b < N → a ≠ b → (T a).2.1 ≠ (T b).2.1)
def tm_fl (own : String) (ix ci j : Nat) : Prop := ∃ (Cn : String) (T : u_T) (N : Nat) (ty : Nat → FieldType), tm_cls ci Cn T N ty ∧ j < N ∧ Cond.fieldLink own ix (T j).1 (T j).2.1 (T j).2.2.1 ∈ tm_tbl
def tm_fp (own : String) (ix ci j : Nat) (t : FieldType) : Prop := ∃ (Cn : String) (T : u_T) (N : Nat) (ty : Nat → FieldType), tm_cls ci Cn T N ty ∧ j < N ∧ Cond.fieldLink own ix (T j).1 (T j).2.1 (T j).2.2.1 ∈ tm_tbl ∧ (T j).2.2.2 = false ∧ parseFieldDescriptor (T j).2.2.1 = some t
theorem tm_small : ∀ t ∈ tm_tm, t.2.1 ≤ 2000 := by decide +kernel
theorem tm_n {k r n : Nat} {fs : List (Option Nat)} (hk : tm_tm[k]? = some (r, n, fs)) : n ≤ 2000 := tm_small _ (List.mem_of_getElem? hk)
theorem tv_geti {E : tm_Ev} {X : tm_X} {Q : State → Prop} {own : String} {cc : ByteArray} {nL : Nat} {ret : Option FieldType} {d pc : Nat} {lv : List (Nat × Value)} {st : List Value} {μ : tm_M} {k ci j ix : Nat} {fs : List (Option Nat)} {z : Int} (C : tm_C E X own cc nL ret d) (hk : tm_tm[k]? = some (0, ci, fs)) (hj : fs[j]? = some none) (hf : tm_fl own ix ci j) (hd : decode cc pc = .ok (.getfield ix, 3)) (hz : μ k j = z) (kk : tm_V E X Q nL (pc + 3) lv (tm_i z :: st) μ) : tm_V E X Q nL pc lv (.ref (E.2.1 k) :: st) μ := by
  intro ls H locs hl hP hS
  obtain ⟨Cn, T, N, ty, ⟨h1, h2, h3, h4⟩, hjN, hlk⟩ := hf
  refine va_get (D := E.1) (ci := ci) (v := tm_i z) C.1 C.2.1 C.2.2.2.2.1 h2 C.2.2.2.1 C.2.2.2.2.2.1.1 hP k (tm_ws_at hk) h1 j hjN (C.2.2.2.2.1 _ hlk) (fun _ h => h) ?_ hd (kk ls H locs hl hP hS)
  rw [tm_F_at, hj]
  simp [hz]
theorem tv_getr {E : tm_Ev} {X : tm_X} {Q : State → Prop} {own : String} {cc : ByteArray} {nL : Nat} {ret : Option FieldType} {d pc : Nat} {lv : List (Nat × Value)} {st : List Value} {μ : tm_M} {k ci j ix q : Nat} {fs : List (Option Nat)} (C : tm_C E X own cc nL ret d) (hk : tm_tm[k]? = some (0, ci, fs)) (hj : fs[j]? = some (some q)) (hf : tm_fl own ix ci j) (hd : decode cc pc = .ok (.getfield ix, 3)) (kk : tm_V E X Q nL (pc + 3) lv (.ref (E.2.1 q) :: st) μ) : tm_V E X Q nL pc lv (.ref (E.2.1 k) :: st) μ := by
  intro ls H locs hl hP hS
  obtain ⟨Cn, T, N, ty, ⟨h1, h2, h3, h4⟩, hjN, hlk⟩ := hf
  refine va_get (D := E.1) (ci := ci) (v := .ref (E.2.1 q)) C.1 C.2.1 C.2.2.2.2.1 h2 C.2.2.2.1 C.2.2.2.2.2.1.1 hP k (tm_ws_at hk) h1 j hjN (C.2.2.2.2.1 _ hlk) (fun _ h => h) ?_ hd (kk ls H locs hl hP hS)
  rw [tm_F_at, hj]
  rfl
theorem tm_up_eq {μ : tm_M} {k j : Nat} {z : Int} : ∀ a, a ≠ k → tm_up μ k j z a = μ a := fun a h => tm_uf h
theorem tv_puti {E : tm_Ev} {X : tm_X} {Q : State → Prop} {own : String} {cc : ByteArray} {nL : Nat} {ret : Option FieldType} {d pc : Nat} {lv : List (Nat × Value)} {st : List Value} {μ : tm_M} {k ci j ix : Nat} {fs : List (Option Nat)} {z : Int} (C : tm_C E X own cc nL ret d) (hk : tm_tm[k]? = some (0, ci, fs)) (hj : fs[j]? = some none) (hf : tm_fp own ix ci j .int) (hd : decode cc pc = .ok (.putfield ix, 3)) (kk : tm_V E X Q nL (pc + 3) lv st (tm_up μ k j z)) : tm_V E X Q nL pc lv (tm_i z :: .ref (E.2.1 k) :: st) μ := by
  intro ls H locs hl hP hS
  obtain ⟨Cn, T, N, ty, ⟨h1, h2, h3, h4⟩, hjN, hlk, hfin, hde⟩ := hf
  refine va_put (D := E.1) (ci := ci) (v := tm_i z) (ty := .int) C.1 C.2.1 C.2.2.2.2.1 h2 ty h3 h4 C.2.2.2.1 C.2.2.2.2.2.1.1 hP (tm_D C.2.2.2.2.2.1 μ) hS k (tm_ws_at hk) h1 j hjN (C.2.2.2.2.1 _ hlk) (fun _ h => h) hfin hde rfl rfl (by rw [tm_F_len]; exact (List.getElem?_eq_some_iff.mp hj).1) hd (fun H1 locs1 hP1 _ hS1 => ?_)
  refine kk ls H1 locs1 hl ?_ hS1
  rw [← tm_ws_set (μ := μ) (μ' := tm_up μ k j z) hk rfl tm_up_eq]
  have e : tm_e E.2.1 E.2.2.1 (tm_up μ k j z k) (0, ci, fs) = .inr (ci, (tm_F E.2.1 (μ k) 0 fs).set j (tm_i z)) := by
    rw [tm_F_set (g := tm_up μ k j z k) hj tm_us (fun b hb => tm_uj hb)]
    rfl
  rw [e]
  exact hP1
theorem tv_putz {E : tm_Ev} {X : tm_X} {Q : State → Prop} {own : String} {cc : ByteArray} {nL : Nat} {ret : Option FieldType} {d pc : Nat} {lv : List (Nat × Value)} {st : List Value} {μ : tm_M} {k ci j ix : Nat} {fs : List (Option Nat)} {z : Int} (C : tm_C E X own cc nL ret d) (hk : tm_tm[k]? = some (0, ci, fs)) (hj : fs[j]? = some none) (hf : tm_fp own ix ci j .boolean) (hd : decode cc pc = .ok (.putfield ix, 3)) (hz : z = 0 ∨ z = 1) (kk : tm_V E X Q nL (pc + 3) lv st (tm_up μ k j z)) : tm_V E X Q nL pc lv (tm_i z :: .ref (E.2.1 k) :: st) μ := by
  intro ls H locs hl hP hS
  obtain ⟨Cn, T, N, ty, ⟨h1, h2, h3, h4⟩, hjN, hlk, hfin, hde⟩ := hf
  refine va_put (D := E.1) (ci := ci) (v := tm_i z) (ty := .boolean) C.1 C.2.1 C.2.2.2.2.1 h2 ty h3 h4 C.2.2.2.1 C.2.2.2.2.2.1.1 hP (tm_D C.2.2.2.2.2.1 μ) hS k (tm_ws_at hk) h1 j hjN (C.2.2.2.2.1 _ hlk) (fun _ h => h) hfin hde (by rcases hz with rfl | rfl <;> rfl) (by rcases hz with rfl | rfl <;> rfl) (by rw [tm_F_len]; exact (List.getElem?_eq_some_iff.mp hj).1) hd (fun H1 locs1 hP1 _ hS1 => ?_)
  refine kk ls H1 locs1 hl ?_ hS1
  rw [← tm_ws_set (μ := μ) (μ' := tm_up μ k j z) hk rfl tm_up_eq]
  have e : tm_e E.2.1 E.2.2.1 (tm_up μ k j z k) (0, ci, fs) = .inr (ci, (tm_F E.2.1 (μ k) 0 fs).set j (tm_i z)) := by
    rw [tm_F_set (g := tm_up μ k j z k) hj tm_us (fun b hb => tm_uj hb)]
    rfl
  rw [e]
  exact hP1
theorem tv_iald {E : tm_Ev} {X : tm_X} {Q : State → Prop} {own : String} {cc : ByteArray} {nL : Nat} {ret : Option FieldType} {d pc : Nat} {lv : List (Nat × Value)} {st : List Value} {μ : tm_M} {k n : Nat} {fs : List (Option Nat)} {i z : Int} {j : Nat} (C : tm_C E X own cc nL ret d) (hk : tm_tm[k]? = some (1, n, fs)) (hd : decode cc pc = .ok (.iaload, 1)) (hi : 0 ≤ i ∧ i < (n : Int)) (hj : i.toNat = j) (hz : μ k j = z) (kk : tm_V E X Q nL (pc + 1) lv (tm_i z :: st) μ) : tm_V E X Q nL pc lv (tm_i i :: .ref (E.2.1 k) :: st) μ := by
  intro ls H locs hl hP hS
  have hn := tm_n hk
  refine va_iald (D := E.1) C.1 C.2.1 C.2.2.2.2.2.1.1 hP k 0 (tm_ws_at hk) rfl (tm_in (by omega) hi) hd ?_
  show W _ _ _ _ _ _ _ _ _ _ _ _ _ _ _ (F0 _ _ _ (Value.int (Int32.ofInt (μ k (Int32.ofInt i).toNatClampNeg)) :: st))
  rw [tm_cl (by omega), hj, hz]
  exact kk ls H locs hl hP hS
theorem tv_zald {E : tm_Ev} {X : tm_X} {Q : State → Prop} {own : String} {cc : ByteArray} {nL : Nat} {ret : Option FieldType} {d pc : Nat} {lv : List (Nat × Value)} {st : List Value} {μ : tm_M} {k n : Nat} {fs : List (Option Nat)} {i z : Int} {j : Nat} (C : tm_C E X own cc nL ret d) (hk : tm_tm[k]? = some (3, n, fs)) (hd : decode cc pc = .ok (.baload, 1)) (hi : 0 ≤ i ∧ i < (n : Int)) (hj : i.toNat = j) (hz : μ k j = z) (kk : tm_V E X Q nL (pc + 1) lv (tm_i z :: st) μ) : tm_V E X Q nL pc lv (tm_i i :: .ref (E.2.1 k) :: st) μ := by
  intro ls H locs hl hP hS
  have hn := tm_n hk
  refine va_zald (D := E.1) C.1 C.2.1 C.2.2.2.2.2.1.1 hP k 2 (tm_ws_at hk) rfl (tm_in (by omega) hi) hd ?_
  show W _ _ _ _ _ _ _ _ _ _ _ _ _ _ _ (F0 _ _ _ (Value.int (Int32.ofInt (μ k (Int32.ofInt i).toNatClampNeg)) :: st))
  rw [tm_cl (by omega), hj, hz]
  exact kk ls H locs hl hP hS
theorem tv_lald {E : tm_Ev} {X : tm_X} {Q : State → Prop} {own : String} {cc : ByteArray} {nL : Nat} {ret : Option FieldType} {d pc : Nat} {lv : List (Nat × Value)} {st : List Value} {μ : tm_M} {k n : Nat} {fs : List (Option Nat)} {i z : Int} {j : Nat} (C : tm_C E X own cc nL ret d) (hk : tm_tm[k]? = some (2, n, fs)) (hd : decode cc pc = .ok (.laload, 1)) (hi : 0 ≤ i ∧ i < (n : Int)) (hj : i.toNat = j) (hz : μ k j = z) (kk : tm_V E X Q nL (pc + 1) lv (tm_l z :: st) μ) : tm_V E X Q nL pc lv (tm_i i :: .ref (E.2.1 k) :: st) μ := by
  intro ls H locs hl hP hS
  have hn := tm_n hk
  refine va_lald (D := E.1) C.1 C.2.1 C.2.2.2.2.2.1.1 hP k 1 (tm_ws_at hk) rfl (tm_in (by omega) hi) hd ?_
  show W _ _ _ _ _ _ _ _ _ _ _ _ _ _ _ (F0 _ _ _ (Value.long (Int64.ofInt (μ k (Int32.ofInt i).toNatClampNeg)) :: st))
  rw [tm_cl (by omega), hj, hz]
  exact kk ls H locs hl hP hS
theorem tv_aald {E : tm_Ev} {X : tm_X} {Q : State → Prop} {own : String} {cc : ByteArray} {nL : Nat} {ret : Option FieldType} {d pc : Nat} {lv : List (Nat × Value)} {st : List Value} {μ : tm_M} {k n r q : Nat} {fs : List (Option Nat)} {i : Int} {j : Nat} (Cn : String) (C : tm_C E X own cc nL ret d) (hk : tm_tm[k]? = some (r + 4, n, fs)) (ht : (tm_tys E)[r + 3]? = some (E.2.2.1 (r + 3), .object Cn)) (hd : decode cc pc = .ok (.aaload, 1)) (hi : 0 ≤ i ∧ i < (n : Int)) (hj : i.toNat = j) (hq : fs[j]? = some (some q)) (kk : tm_V E X Q nL (pc + 1) lv (.ref (E.2.1 q) :: st) μ) : tm_V E X Q nL pc lv (tm_i i :: .ref (E.2.1 k) :: st) μ := by
  intro ls H locs hl hP hS
  have hn := tm_n hk
  refine va_aldq (D := E.1) C.1 C.2.1 C.2.2.2.2.2.1.1 hP k (r + 3) (tm_ws_at hk) ht (tm_in (by omega) hi) hd ?_
  rw [tm_cl (by omega), hj, List.getD_eq_getElem?_getD, hq]
  exact kk ls H locs hl hP hS
theorem tv_alen {E : tm_Ev} {X : tm_X} {Q : State → Prop} {own : String} {cc : ByteArray} {nL : Nat} {ret : Option FieldType} {d pc : Nat} {lv : List (Nat × Value)} {st : List Value} {μ : tm_M} {k n r : Nat} {fs : List (Option Nat)} (t : Nat) {c1 : ClassId} {ty : FieldType} {x : vp_A} (C : tm_C E X own cc nL ret d) (hk : tm_tm[k]? = some (r, n, fs)) (hx : tm_e E.2.1 E.2.2.1 (μ k) (r, n, fs) = .inl (c1, x)) (ht : (tm_tys E)[t]? = some (c1, ty)) (hn : x.1 = n) (hd : decode cc pc = .ok (.arraylength, 1)) (kk : tm_V E X Q nL (pc + 1) lv (tm_i (n : Int) :: st) μ) : tm_V E X Q nL pc lv (.ref (E.2.1 k) :: st) μ := by
  intro ls H locs hl hP hS
  refine va_alen (D := E.1) (v := Int32.ofInt (n : Int)) C.1 C.2.1 C.2.2.2.2.2.1.1 hP k t ((tm_ws_at hk).trans (by rw [hx])) ht (by rw [hn]; exact Int32.ofInt_eq_ofNat.symm) hd (kk ls H locs hl hP hS)
theorem tv_iast {E : tm_Ev} {X : tm_X} {Q : State → Prop} {own : String} {cc : ByteArray} {nL : Nat} {ret : Option FieldType} {d pc : Nat} {lv : List (Nat × Value)} {st : List Value} {μ : tm_M} {k n : Nat} {fs : List (Option Nat)} {i z : Int} {j : Nat} (C : tm_C E X own cc nL ret d) (hk : tm_tm[k]? = some (1, n, fs)) (hd : decode cc pc = .ok (.iastore, 1)) (hi : 0 ≤ i ∧ i < (n : Int)) (hj : i.toNat = j) (kk : tm_V E X Q nL (pc + 1) lv st (tm_up μ k j z)) : tm_V E X Q nL pc lv (tm_i z :: tm_i i :: .ref (E.2.1 k) :: st) μ := by
  intro ls H locs hl hP hS
  have hn := tm_n hk
  refine va_iast (D := E.1) C.1 C.2.1 C.2.2.2.2.2.1.1 hP (tm_D C.2.2.2.2.2.1 μ) hS k 0 (tm_ws_at hk) rfl (tm_in (by omega) hi) hd (fun H1 locs1 hP1 _ hS1 => ?_)
  refine kk ls H1 locs1 hl ?_ hS1
  rw [← tm_ws_set (μ := μ) (μ' := tm_up μ k j z) hk rfl tm_up_eq]
  have e : tm_e E.2.1 E.2.2.1 (tm_up μ k j z k) (1, n, fs) = .inl (E.2.2.1 0, n, .inl (upd (fun j => Int32.ofInt (μ k j)) (Int32.ofInt i).toNatClampNeg (Int32.ofInt z))) := by
    rw [tm_cl (by omega), hj]
    show Sum.inl (E.2.2.1 0, n, Sum.inl fun b => Int32.ofInt (tm_up μ k j z k b)) = _
    congr 3
    congr 1
    funext b
    by_cases hb : b = j
    · subst hb
      simp [upd, tm_us]
    · simp [upd, tm_uj hb, hb]
  rw [e]
  exact hP1
theorem tv_last {E : tm_Ev} {X : tm_X} {Q : State → Prop} {own : String} {cc : ByteArray} {nL : Nat} {ret : Option FieldType} {d pc : Nat} {lv : List (Nat × Value)} {st : List Value} {μ : tm_M} {k n : Nat} {fs : List (Option Nat)} {i z : Int} {j : Nat} (C : tm_C E X own cc nL ret d) (hk : tm_tm[k]? = some (2, n, fs)) (hd : decode cc pc = .ok (.lastore, 1)) (hi : 0 ≤ i ∧ i < (n : Int)) (hj : i.toNat = j) (kk : tm_V E X Q nL (pc + 1) lv st (tm_up μ k j z)) : tm_V E X Q nL pc lv (tm_l z :: tm_i i :: .ref (E.2.1 k) :: st) μ := by
  intro ls H locs hl hP hS
  have hn := tm_n hk
  refine va_last (D := E.1) C.1 C.2.1 C.2.2.2.2.2.1.1 hP (tm_D C.2.2.2.2.2.1 μ) hS k 1 (tm_ws_at hk) rfl (tm_in (by omega) hi) hd (fun H1 locs1 hP1 _ hS1 => ?_)
  refine kk ls H1 locs1 hl ?_ hS1
  rw [← tm_ws_set (μ := μ) (μ' := tm_up μ k j z) hk rfl tm_up_eq]
  have e : tm_e E.2.1 E.2.2.1 (tm_up μ k j z k) (2, n, fs) = .inl (E.2.2.1 1, n, .inr (.inl (vp_updL (fun j => Int64.ofInt (μ k j)) (Int32.ofInt i).toNatClampNeg (Int64.ofInt z)))) := by
    rw [tm_cl (by omega), hj]
    show Sum.inl (E.2.2.1 1, n, Sum.inr (Sum.inl fun b => Int64.ofInt (tm_up μ k j z k b))) = _
    congr 4
    congr 1
    funext b
    by_cases hb : b = j
    · subst hb
      simp [vp_updL, tm_us]
    · simp [vp_updL, tm_uj hb, hb]
  rw [e]
  exact hP1
theorem tv_zast {E : tm_Ev} {X : tm_X} {Q : State → Prop} {own : String} {cc : ByteArray} {nL : Nat} {ret : Option FieldType} {d pc : Nat} {lv : List (Nat × Value)} {st : List Value} {μ : tm_M} {k n : Nat} {fs : List (Option Nat)} {i z : Int} {j : Nat} (C : tm_C E X own cc nL ret d) (hk : tm_tm[k]? = some (3, n, fs)) (hd : decode cc pc = .ok (.bastore, 1)) (hi : 0 ≤ i ∧ i < (n : Int)) (hj : i.toNat = j) (hz : z = 0 ∨ z = 1) (kk : tm_V E X Q nL (pc + 1) lv st (tm_up μ k j z)) : tm_V E X Q nL pc lv (tm_i z :: tm_i i :: .ref (E.2.1 k) :: st) μ := by
  intro ls H locs hl hP hS
  have hn := tm_n hk
  refine va_zast (D := E.1) C.1 C.2.1 C.2.2.2.2.2.1.1 hP (tm_D C.2.2.2.2.2.1 μ) hS k 2 (tm_ws_at hk) rfl (tm_in (by omega) hi) hd (fun H1 locs1 hP1 _ hS1 => ?_)
  refine kk ls H1 locs1 hl ?_ hS1
  rw [← tm_ws_set (μ := μ) (μ' := tm_up μ k j z) hk rfl tm_up_eq]
  have hnz : vp_nar .boolean (Int32.ofInt z) = Int32.ofInt z := by rcases hz with rfl | rfl <;> rfl
  have e : tm_e E.2.1 E.2.2.1 (tm_up μ k j z k) (3, n, fs) = .inl (E.2.2.1 2, n, .inl (upd (fun j => Int32.ofInt (μ k j)) (Int32.ofInt i).toNatClampNeg (vp_nar .boolean (Int32.ofInt z)))) := by
    rw [tm_cl (by omega), hj, hnz]
    show Sum.inl (E.2.2.1 2, n, Sum.inl fun b => Int32.ofInt (tm_up μ k j z k b)) = _
    congr 3
    congr 1
    funext b
    by_cases hb : b = j
    · subst hb
      simp [upd, tm_us]
    · simp [upd, tm_uj hb, hb]
  rw [e]
  exact hP1
/-! statics -/
theorem tv_gets {E : tm_Ev} {X : tm_X} {Q : State → Prop} {own : String} {cc : ByteArray} {nL : Nat} {ret : Option FieldType} {d pc : Nat} {lv : List (Nat × Value)} {st : List Value} {μ : tm_M} {ix : Nat} (j : Nat) (C : tm_C E X own cc nL ret d) (hj : j < 5) (hf : Cond.fieldLink own ix RX7 (tm_sn j) "[I" ∈ tm_tbl) (hd : decode cc pc = .ok (.getstatic ix, 3)) (kk : tm_V E X Q nL (pc + 3) lv (.ref (E.2.2.2.1 j) :: st) μ) : tm_V E X Q nL pc lv st μ := by
  intro ls H locs hl hP hS
  exact va_gets C.1 C.2.1 (C.2.2.2.2.2.1.2.2.2.1 j hj).1 hS C.2.2.2.1 (C.2.2.2.2.1 _ hf) (fun _ h => h) hd (kk ls H locs hl hP hS)
theorem tv_getsN {E : tm_Ev} {X : tm_X} {Q : State → Prop} {own : String} {cc : ByteArray} {nL : Nat} {ret : Option FieldType} {d pc : Nat} {lv : List (Nat × Value)} {st : List Value} {μ : tm_M} {ix : Nat} (j : Nat) (C : tm_C E X own cc nL ret d) (hj : j < 5) (hf : Cond.fieldLinkNest own ix RX7 (tm_sn j) "[I" RX7 ∈ tm_nst) (hd : decode cc pc = .ok (.getstatic ix, 3)) (kk : tm_V E X Q nL (pc + 3) lv (.ref (E.2.2.2.1 j) :: st) μ) : tm_V E X Q nL pc lv st μ := by
  intro ls H locs hl hP hS
  exact va_getsN C.1 C.2.1 (C.2.2.2.2.2.1.2.2.2.1 j hj).1 hS C.2.2.2.1 (va_Nw.use rfl (C.2.2.2.2.2.1.2.2.2.2 _ hf)) (fun _ h => h) hd (kk ls H locs hl hP hS)
theorem tv_sald {E : tm_Ev} {X : tm_X} {Q : State → Prop} {own : String} {cc : ByteArray} {nL : Nat} {ret : Option FieldType} {d pc : Nat} {lv : List (Nat × Value)} {st : List Value} {μ : tm_M} {i z : Int} (j : Nat) (C : tm_C E X own cc nL ret d) (hj : j < 5) (hd : decode cc pc = .ok (.iaload, 1)) (hi : 0 ≤ i ∧ i < (tm_sl j : Int)) (hz : (tm_sv j).getD i.toNat 0 = z) (kk : tm_V E X Q nL (pc + 1) lv (tm_i z :: st) μ) : tm_V E X Q nL pc lv (tm_i i :: .ref (E.2.2.2.1 j) :: st) μ := by
  intro ls H locs hl hP hS
  have hs : tm_sl j ≤ 5 := by unfold tm_sl; split <;> omega
  exact va_ti C.1 C.2.1 (C.2.2.2.2.2.1.2.2.2.1 j hj).2 hS (tm_in (by omega) hi) (v := tm_i z) (by rw [tm_cl (by omega), hz]) hd (kk ls H locs hl hP hS)
/-! System.arraycopy of ints -/
def tm_cp (μ : tm_M) (k0 k sp dp n : Nat) : tm_M := fun a b => if a = k then (if dp ≤ b ∧ b < dp + n then μ k0 (sp + (b - dp)) else μ a b) else μ a b
def tm_acp (own : String) (ix : Nat) : Prop := Cond.methodLink own ix arraycopyName ∈ tm_tbl ∧ Cond.native arraycopyName ∈ tm_tbl ∧ Cond.static arraycopyName ∈ tm_tbl ∧ Cond.initialized "java/lang/System" ∈ tm_tbl
theorem tv_acopy {E : tm_Ev} {X : tm_X} {Q : State → Prop} {own : String} {cc : ByteArray} {nL : Nat} {ret : Option FieldType} {d pc : Nat} {lv : List (Nat × Value)} {st : List Value} {μ : tm_M} {ix k0 k n0 n1 : Nat} {fs0 fs1 : List (Option Nat)} {sp dp n : Int} {sp' dp' n' : Nat} (C : tm_C E X own cc nL ret (d + 1)) (hf : tm_acp own ix) (hk0 : tm_tm[k0]? = some (1, n0, fs0)) (hk : tm_tm[k]? = some (1, n1, fs1)) (h1 : 0 ≤ sp ∧ 0 ≤ dp ∧ 0 ≤ n ∧ sp + n ≤ (n0 : Int) ∧ dp + n ≤ (n1 : Int)) (e1 : sp.toNat = sp') (e2 : dp.toNat = dp') (e3 : n.toNat = n') (hr : (st.map fun v => v.category).sum ≤ 8) (hd : decode cc pc = .ok (.invokestatic ix, 3)) (kk : tm_V E X Q nL (pc + 3) lv st (tm_cp μ k0 k sp' dp' n')) : tm_V E X Q nL pc lv (tm_i n :: tm_i dp :: .ref (E.2.1 k) :: tm_i sp :: .ref (E.2.1 k0) :: st) μ := by
  intro ls H locs hl hP hS
  obtain ⟨f1, f2, f3, f4⟩ := hf
  have hn0 := tm_n hk0
  have hn1 := tm_n hk
  have hT := C.2.2.2.2.1
  have c1 : (Int32.ofInt sp).toNatClampNeg = sp' := by rw [tm_cl (by omega)]; exact e1
  have c2 : (Int32.ofInt dp).toNatClampNeg = dp' := by rw [tm_cl (by omega)]; exact e2
  have c3 : (Int32.ofInt n).toNatClampNeg = n' := by rw [tm_cl (by omega)]; exact e3
  have ng : ∀ {x : Int}, 0 ≤ x → x ≤ 2147483647 → ¬ Int32.ofInt x < 0 := fun {x} a b h => by
    have := (tm_lti (a := x) (b := 0) (by omega) (by omega)).mp h
    omega
  refine va_copyi (D := E.1) C.1 C.2.1 (by rw [hl.1]; exact C.2.2.1) C.2.2.2.1 (hT _ f1) (hT _ f2) (hT _ f3) (hT _ f4) C.2.2.2.2.2.1.1 hP (tm_D C.2.2.2.2.2.1 μ) hS k0 k 0 0 (tm_ws_at hk0) (tm_ws_at hk) rfl rfl rfl (ng h1.1 (by omega)) (ng h1.2.1 (by omega)) (ng h1.2.2.1 (by omega)) (by rw [c1, c3]; omega) (by rw [c2, c3]; omega) (fun _ _ => rfl) (by rw [C.2.2.2.2.2.2.1]; exact Nat.le_add_left 1 d) (by rw [C.2.2.2.2.2.2.1]; show _ + (nativeFrameWords "java/lang/System" "arraycopy" 5 + 11) ≤ 40 * (d + 1); have : nativeFrameWords "java/lang/System" "arraycopy" 5 + 11 ≤ 30 := (by decide); omega) hd (fun H1 locs1 hP1 _ hS1 => ?_)
  refine kk ls H1 locs1 hl ?_ hS1
  have ho : ∀ a, a ≠ k → tm_cp μ k0 k sp' dp' n' a = μ a := fun a h => by funext b; simp [tm_cp, h]
  rw [← tm_ws_set (μ := μ) (μ' := tm_cp μ k0 k sp' dp' n') hk rfl ho]
  rw [c1, c2, c3] at hP1
  have e : tm_e E.2.1 E.2.2.1 (tm_cp μ k0 k sp' dp' n' k) (1, n1, fs1) = .inl (E.2.2.1 0, n1, .inl (va_cpy (fun j => Int32.ofInt (μ k0 j)) (fun j => Int32.ofInt (μ k j)) sp' dp' n')) := by
    show Sum.inl (E.2.2.1 0, n1, Sum.inl fun b => Int32.ofInt (tm_cp μ k0 k sp' dp' n' k b)) = _
    congr 3
    congr 1
    funext b
    by_cases hb : dp' ≤ b ∧ b < dp' + n'
    · simp [tm_cp, va_cpy, hb]
    · simp only [tm_cp, va_cpy, if_true, if_neg hb]
  rw [e]
  exact hP1
/-! calls -/
def tm_pi (P : Int → tm_M → Prop) : Option Value → tm_M → Prop := fun v μ => ∃ z : Int, v = some (tm_i z) ∧ P z μ
def tm_pl (P : Int → tm_M → Prop) : Option Value → tm_M → Prop := fun v μ => ∃ z : Int, v = some (tm_l z) ∧ P z μ
def tm_pv (P : tm_M → Prop) : Option Value → tm_M → Prop := fun v μ => v = none ∧ P μ
def tm_nm (y : MethodName) (n : Nat) : Prop := y.cls ≠ "java/lang/invoke/MethodHandle" ∧ y.cls ≠ "java/lang/invoke/VarHandle" ∧ (parseMethodDescriptor y.desc).map (fun d => d.parameters.length) = some n
def tm_cv (own : String) (ix : Nat) (y : MethodName) (cc : ByteArray) (nL : Nat) (ret : Option FieldType) (n : Nat) : Prop := Cond.methodLink own ix y ∈ tm_tbl ∧ Cond.instanceMethod y ∈ tm_tbl ∧ Cond.selects y.cls y y ∈ tm_tbl ∧ Cond.initialized y.cls ∈ tm_tbl ∧ Cond.code y cc nL ret ∈ tm_tbl ∧ tm_nm y n ∧ nL ≤ 20
def tm_cs (own : String) (ix : Nat) (y : MethodName) (cc : ByteArray) (nL : Nat) (ret : Option FieldType) (n : Nat) : Prop := Cond.methodLink own ix y ∈ tm_tbl ∧ Cond.static y ∈ tm_tbl ∧ Cond.initialized y.cls ∈ tm_tbl ∧ Cond.code y cc nL ret ∈ tm_tbl ∧ tm_nm y n ∧ nL ≤ 20
def tm_cn (own : String) (ix : Nat) (y : MethodName) (cc : ByteArray) (nL : Nat) (ret : Option FieldType) (n : Nat) : Prop := Cond.methodLinkNest own ix y RX7 ∈ tm_nst ∧ Cond.static y ∈ tm_tbl ∧ Cond.initialized y.cls ∈ tm_tbl ∧ Cond.code y cc nL ret ∈ tm_tbl ∧ tm_nm y n ∧ nL ≤ 20
theorem tv_after {E : tm_Ev} {post : Option Value → tm_M → Prop} {p : Program} {l : Launch} {e : Env} {R : Room} {s : State} {m : MethodId} {args a : Array Value} {below : List Frame} {meth : Method} {c : Code} {H : Heap} {locs : List Loc} {Q : State → Prop} {pc : Nat} {ls : Array Slot} {rest st0 : List Value}
    (hr : va_Run p l e R s m args below meth c H locs 0 0 0 0 (F0 m pc ls st0) rest (tm_Qc E post a) (tm_A E)) (hS : va_S (tm_A E) s.heap H locs)
    (kk : ∀ (v : Option Value) (μ' : tm_M), post v μ' → ∀ (H1 : Heap) (locs1 : List Loc), va_P E.1 vwCl (tm_ws E μ') H1 → va_S (tm_A E) s.heap H1 locs1 → W p l e R s m args below meth c H1 locs1 0 0 Q (F0 m (pc + 3) ls (v.toList ++ rest))) : W p l e R s m args below meth c H locs 0 0 Q (F0 m pc ls st0) := by
  intro T hT X
  obtain ⟨v, st₀, t, T', L, h0, X', hL, e1, e2, ⟨⟨v', μ', hv, hp, hb⟩, hz, hk⟩, st⟩ := hr T hT X
  cases hv
  rw [h0] at hz hk
  obtain ⟨t2, a1, b1⟩ := kk v μ' hp T'.heap (locs ++ L) (by rw [e1]; exact hb)
    ⟨Nat.le_trans hS.1 (by rw [e1]; exact hz), fun q h1 h2 => by rw [e1, hk q (Nat.lt_of_lt_of_le h1 hS.1) h2]; exact hS.2.1 q h1 h2, fun q hq => (List.mem_append.mp hq).elim (hS.2.2 q) (fun h => hL q h)⟩ T' rfl X'
  exact ⟨t2, st t2 a1, b1⟩
theorem tv_callV {E : tm_Ev} {X : tm_X} {Q : State → Prop} {own : String} {cc : ByteArray} {nL : Nat} {ret : Option FieldType} {d pc : Nat} {lv : List (Nat × Value)} {st : List Value} {μ : tm_M} {k ci ix n d' nL' N : Nat} {y : MethodName} {cc' : ByteArray} {ret' : Option FieldType} {T : u_T} {fs : List (Option Nat)} {post : Option Value → tm_M → Prop} (As rest : List Value) (C : tm_C E X own cc nL ret d) (hM : tm_Met E X.2.1 y cc' nL' ret' d' (.ref (E.2.1 k) :: As) μ post) (cw : tm_cv own ix y cc' nL' ret' n) (hk : tm_tm[k]? = some (0, ci, fs)) (hc : vwCl[ci]? = some (y.cls, T, N)) (hdd : d' < d) (hn : As.length = n) (hr : (rest.map fun v => v.category).sum ≤ 8) (hst : st = As.reverse ++ .ref (E.2.1 k) :: rest) (hd : decode cc pc = .ok (.invokevirtual ix, 3))
    (kk : ∀ (v : Option Value) (μ' : tm_M), post v μ' → tm_V E X Q nL (pc + 3) lv (v.toList ++ rest) μ') : tm_V E X Q nL pc lv st μ := by
  intro ls H locs hl hP hS
  subst hst
  obtain ⟨w1, w2, w3, w4, w5, w6, w7⟩ := cw
  have hT := C.2.2.2.2.1
  have hR : (tm_rm d').frames + 1 ≤ X.2.2.2.1.frames ∧ 8 + (nL' + 11) + (tm_rm d').locals ≤ X.2.2.2.1.locals := by
    rw [C.2.2.2.2.2.2.1]
    exact ⟨hdd, show 8 + (nL' + 11) + 40 * d' ≤ 40 * d by omega⟩
  refine tv_after (va_runV (As := As) (rest := rest) ⟨C.1, C.2.1, C.2.2.1, C.2.2.2.1, hT⟩ hM ⟨callB_of n hT (tm_good w5) rfl rfl rfl (hT _ w4) (hT _ w1) w6 hR, hT _ w2, hT _ w3⟩ ⟨tm_blind, va_recv C.2.2.2.2.2.1.1 hP hc (tm_ws_at hk), fun U hU hW => ⟨rfl, by rw [hU]; exact hP, tm_K_step C.2.2.2.2.2.1 hS hU hW⟩⟩ rfl hn hl.1 rfl (lv_room hr) hd ⟨Nat.zero_le _, Nat.zero_le _⟩) hS ?_
  intro v μ' hp H1 locs1 hP1 hS1
  exact kk v μ' hp ls H1 locs1 hl hP1 hS1
theorem tv_callS {E : tm_Ev} {X : tm_X} {Q : State → Prop} {own : String} {cc : ByteArray} {nL : Nat} {ret : Option FieldType} {d pc : Nat} {lv : List (Nat × Value)} {st : List Value} {μ : tm_M} {ix n d' nL' : Nat} {y : MethodName} {cc' : ByteArray} {ret' : Option FieldType} {post : Option Value → tm_M → Prop} (As rest : List Value) (C : tm_C E X own cc nL ret d) (hM : tm_Met E X.2.1 y cc' nL' ret' d' As μ post) (cw : tm_cs own ix y cc' nL' ret' n) (hdd : d' < d) (hn : As.length = n) (hr : (rest.map fun v => v.category).sum ≤ 8) (hst : st = As.reverse ++ rest) (hd : decode cc pc = .ok (.invokestatic ix, 3))
    (kk : ∀ (v : Option Value) (μ' : tm_M), post v μ' → tm_V E X Q nL (pc + 3) lv (v.toList ++ rest) μ') : tm_V E X Q nL pc lv st μ := by
  intro ls H locs hl hP hS
  subst hst
  obtain ⟨w1, w2, w4, w5, w6, w7⟩ := cw
  have hT := C.2.2.2.2.1
  have hR : (tm_rm d').frames + 1 ≤ X.2.2.2.1.frames ∧ 8 + (nL' + 11) + (tm_rm d').locals ≤ X.2.2.2.1.locals := by
    rw [C.2.2.2.2.2.2.1]
    exact ⟨hdd, show 8 + (nL' + 11) + 40 * d' ≤ 40 * d by omega⟩
  refine tv_after (va_runS (As := As) (rest := rest) ⟨C.1, C.2.1, C.2.2.1, C.2.2.2.1, hT⟩ hM ⟨callB_of n hT (tm_good w5) rfl rfl rfl (hT _ w4) (hT _ w1) w6 hR, hT _ w2⟩ ⟨tm_blind, fun U hU hW => ⟨rfl, by rw [hU]; exact hP, tm_K_step C.2.2.2.2.2.1 hS hU hW⟩⟩ rfl hn hl.1 rfl (lv_room hr) hd ⟨Nat.zero_le _, Nat.zero_le _⟩) hS ?_
  intro v μ' hp H1 locs1 hP1 hS1
  exact kk v μ' hp ls H1 locs1 hl hP1 hS1
theorem tv_callN {E : tm_Ev} {X : tm_X} {Q : State → Prop} {own : String} {cc : ByteArray} {nL : Nat} {ret : Option FieldType} {d pc : Nat} {lv : List (Nat × Value)} {st : List Value} {μ : tm_M} {ix n d' nL' : Nat} {y : MethodName} {cc' : ByteArray} {ret' : Option FieldType} {post : Option Value → tm_M → Prop} (As rest : List Value) (C : tm_C E X own cc nL ret d) (hM : tm_Met E X.2.1 y cc' nL' ret' d' As μ post) (cw : tm_cn own ix y cc' nL' ret' n) (hdd : d' < d) (hn : As.length = n) (hr : (rest.map fun v => v.category).sum ≤ 8) (hst : st = As.reverse ++ rest) (hd : decode cc pc = .ok (.invokestatic ix, 3))
    (kk : ∀ (v : Option Value) (μ' : tm_M), post v μ' → tm_V E X Q nL (pc + 3) lv (v.toList ++ rest) μ') : tm_V E X Q nL pc lv st μ := by
  intro ls H locs hl hP hS
  subst hst
  obtain ⟨w1, w2, w4, w5, w6, w7⟩ := cw
  have hT := C.2.2.2.2.1
  have hR : (tm_rm d').frames + 1 ≤ X.2.2.2.1.frames ∧ 8 + (nL' + 11) + (tm_rm d').locals ≤ X.2.2.2.1.locals := by
    rw [C.2.2.2.2.2.2.1]
    exact ⟨hdd, show 8 + (nL' + 11) + 40 * d' ≤ 40 * d by omega⟩
  refine tv_after (va_runSN (As := As) (rest := rest) ⟨C.1, C.2.1, C.2.2.1, C.2.2.2.1, hT⟩ hM ⟨va_cnB n hT (tm_good w5) rfl rfl rfl (C.2.2.2.2.2.1.2.2.2.2 _ w1) (hT _ w4) w6 hR, hT _ w2, trivial⟩ ⟨tm_blind, fun U hU hW => ⟨rfl, by rw [hU]; exact hP, tm_K_step C.2.2.2.2.2.1 hS hU hW⟩⟩ rfl hn hl.1 rfl (lv_room hr) hd ⟨Nat.zero_le _, Nat.zero_le _⟩) hS ?_
  intro v μ' hp H1 locs1 hP1 hS1
  exact kk v μ' hp ls H1 locs1 hl hP1 hS1
theorem tm_ki {E : tm_Ev} {X : tm_X} {Q : State → Prop} {nL pc : Nat} {lv : List (Nat × Value)} {rest : List Value} {P : Int → tm_M → Prop} (kk : ∀ (z : Int) (μ' : tm_M), P z μ' → tm_V E X Q nL pc lv (tm_i z :: rest) μ') : ∀ (v : Option Value) (μ' : tm_M), tm_pi P v μ' → tm_V E X Q nL pc lv (v.toList ++ rest) μ' := by
  rintro v μ' ⟨z, rfl, h⟩
  exact kk z μ' h
theorem tm_kp {E : tm_Ev} {X : tm_X} {Q : State → Prop} {nL pc : Nat} {lv : List (Nat × Value)} {rest : List Value} {f : Int} {μ : tm_M} (kk : tm_V E X Q nL pc lv (tm_i f :: rest) μ) : ∀ (v : Option Value) (μ' : tm_M), tm_pi (fun z μ' => z = f ∧ μ' = μ) v μ' → tm_V E X Q nL pc lv (v.toList ++ rest) μ' := by
  rintro v μ' ⟨z, rfl, rfl, rfl⟩
  exact kk
theorem tm_kq {E : tm_Ev} {X : tm_X} {Q : State → Prop} {nL pc : Nat} {lv : List (Nat × Value)} {rest : List Value} {μ : tm_M} (kk : tm_V E X Q nL pc lv rest μ) : ∀ (v : Option Value) (μ' : tm_M), tm_pv (fun μ' => μ' = μ) v μ' → tm_V E X Q nL pc lv (v.toList ++ rest) μ' := by
  rintro v μ' ⟨rfl, rfl⟩
  exact kk
theorem tm_kl {E : tm_Ev} {X : tm_X} {Q : State → Prop} {nL pc : Nat} {lv : List (Nat × Value)} {rest : List Value} {P : Int → tm_M → Prop} (kk : ∀ (z : Int) (μ' : tm_M), P z μ' → tm_V E X Q nL pc lv (tm_l z :: rest) μ') : ∀ (v : Option Value) (μ' : tm_M), tm_pl P v μ' → tm_V E X Q nL pc lv (v.toList ++ rest) μ' := by
  rintro v μ' ⟨z, rfl, h⟩
  exact kk z μ' h
theorem tm_kv {E : tm_Ev} {X : tm_X} {Q : State → Prop} {nL pc : Nat} {lv : List (Nat × Value)} {rest : List Value} {P : tm_M → Prop} (kk : ∀ (μ' : tm_M), P μ' → tm_V E X Q nL pc lv rest μ') : ∀ (v : Option Value) (μ' : tm_M), tm_pv P v μ' → tm_V E X Q nL pc lv (v.toList ++ rest) μ' := by
  rintro v μ' ⟨rfl, h⟩
  exact kk μ' h
