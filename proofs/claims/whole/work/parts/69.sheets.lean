theorem tm_tl {a : Int} (ha : -9223372036854775808 ≤ a ∧ a ≤ 9223372036854775807) : (Int64.ofInt a).toInt = a := Int64.toInt_ofInt_of_le (by omega) (by omega)
def lc_z (a b : Int) : Int := if b < a then 1 else if a = b then 0 else -1
theorem tv_lcmp {E : tm_Ev} {X : tm_X} {Q : State → Prop} {own : String} {cc : ByteArray} {nL : Nat} {ret : Option FieldType} {d pc : Nat} {lv : List (Nat × Value)} {st : List Value} {μ : tm_M} {a b : Int} (C : tm_C E X own cc nL ret d) (hd : decode cc pc = .ok (.lcmp, 1)) (ha : -9223372036854775808 ≤ a ∧ a ≤ 9223372036854775807) (hb : -9223372036854775808 ≤ b ∧ b ≤ 9223372036854775807) (k : tm_V E X Q nL (pc + 1) lv (tm_i (lc_z a b) :: st) μ) : tm_V E X Q nL pc lv (tm_l b :: tm_l a :: st) μ := by
  intro ls H locs hl hP hS
  have k := k ls H locs hl hP hS
  have e : tm_i (lc_z a b) = .int (lg_cmp (Int64.ofInt a) (Int64.ofInt b)) := by
    unfold tm_i lc_z lg_cmp
    simp only [gt_iff_lt, Int64.lt_iff_toInt_lt, ← Int64.toInt_inj, tm_tl ha, tm_tl hb]
    by_cases h1 : b < a
    · simp only [if_pos h1]; rfl
    · by_cases h2 : a = b
      · simp only [if_neg h1, if_pos h2]; rfl
      · simp only [if_neg h1, if_neg h2]; rfl
  rw [e] at k
  exact W.lcmp C.1 C.2.1 hd k
theorem tv_lc_lt {E : tm_Ev} {X : tm_X} {Q : State → Prop} {own : String} {cc : ByteArray} {nL : Nat} {ret : Option FieldType} {d pc : Nat} {lv : List (Nat × Value)} {st : List Value} {μ : tm_M} {a b off : Int} (tgt : Nat) (C : tm_C E X own cc nL ret d) (hd : decode cc pc = .ok (.lcmp, 1)) (hd2 : decode cc (pc + 1) = .ok (.ifCond .lt off, 3)) (ht : ((pc + 1 : Nat) : Int) + off = (tgt : Int)) (ha : -9223372036854775808 ≤ a ∧ a ≤ 9223372036854775807) (hb : -9223372036854775808 ≤ b ∧ b ≤ 9223372036854775807) (kt : a < b → tm_V E X Q nL tgt lv st μ) (kf : b ≤ a → tm_V E X Q nL (pc + 1 + 3) lv st μ) : tm_V E X Q nL pc lv (tm_l b :: tm_l a :: st) μ := by
  refine tv_lcmp C hd ha hb ?_
  have hr : lc_z a b = 1 ∧ b < a ∨ lc_z a b = 0 ∧ a = b ∨ lc_z a b = -1 ∧ a < b := by
    unfold lc_z
    by_cases h1 : b < a
    · left; exact ⟨if_pos h1, h1⟩
    · right
      by_cases h2 : a = b
      · left; exact ⟨by rw [if_neg h1, if_pos h2], h2⟩
      · right; exact ⟨by rw [if_neg h1, if_neg h2], by omega⟩
  exact tv_if_lt tgt C hd2 ht (by omega) (fun h => kt (by omega)) (fun h => kf (by omega))
theorem tv_lc_ge {E : tm_Ev} {X : tm_X} {Q : State → Prop} {own : String} {cc : ByteArray} {nL : Nat} {ret : Option FieldType} {d pc : Nat} {lv : List (Nat × Value)} {st : List Value} {μ : tm_M} {a b off : Int} (tgt : Nat) (C : tm_C E X own cc nL ret d) (hd : decode cc pc = .ok (.lcmp, 1)) (hd2 : decode cc (pc + 1) = .ok (.ifCond .ge off, 3)) (ht : ((pc + 1 : Nat) : Int) + off = (tgt : Int)) (ha : -9223372036854775808 ≤ a ∧ a ≤ 9223372036854775807) (hb : -9223372036854775808 ≤ b ∧ b ≤ 9223372036854775807) (kt : b ≤ a → tm_V E X Q nL tgt lv st μ) (kf : a < b → tm_V E X Q nL (pc + 1 + 3) lv st μ) : tm_V E X Q nL pc lv (tm_l b :: tm_l a :: st) μ := by
  refine tv_lcmp C hd ha hb ?_
  have hr : lc_z a b = 1 ∧ b < a ∨ lc_z a b = 0 ∧ a = b ∨ lc_z a b = -1 ∧ a < b := by
    unfold lc_z
    by_cases h1 : b < a
    · left; exact ⟨if_pos h1, h1⟩
    · right
      by_cases h2 : a = b
      · left; exact ⟨by rw [if_neg h1, if_pos h2], h2⟩
      · right; exact ⟨by rw [if_neg h1, if_neg h2], by omega⟩
  exact tv_if_ge tgt C hd2 ht (by omega) (fun h => kt (by omega)) (fun h => kf (by omega))
theorem tv_lc_gt {E : tm_Ev} {X : tm_X} {Q : State → Prop} {own : String} {cc : ByteArray} {nL : Nat} {ret : Option FieldType} {d pc : Nat} {lv : List (Nat × Value)} {st : List Value} {μ : tm_M} {a b off : Int} (tgt : Nat) (C : tm_C E X own cc nL ret d) (hd : decode cc pc = .ok (.lcmp, 1)) (hd2 : decode cc (pc + 1) = .ok (.ifCond .gt off, 3)) (ht : ((pc + 1 : Nat) : Int) + off = (tgt : Int)) (ha : -9223372036854775808 ≤ a ∧ a ≤ 9223372036854775807) (hb : -9223372036854775808 ≤ b ∧ b ≤ 9223372036854775807) (kt : b < a → tm_V E X Q nL tgt lv st μ) (kf : a ≤ b → tm_V E X Q nL (pc + 1 + 3) lv st μ) : tm_V E X Q nL pc lv (tm_l b :: tm_l a :: st) μ := by
  refine tv_lcmp C hd ha hb ?_
  have hr : lc_z a b = 1 ∧ b < a ∨ lc_z a b = 0 ∧ a = b ∨ lc_z a b = -1 ∧ a < b := by
    unfold lc_z
    by_cases h1 : b < a
    · left; exact ⟨if_pos h1, h1⟩
    · right
      by_cases h2 : a = b
      · left; exact ⟨by rw [if_neg h1, if_pos h2], h2⟩
      · right; exact ⟨by rw [if_neg h1, if_neg h2], by omega⟩
  exact tv_if_gt tgt C hd2 ht (by omega) (fun h => kt (by omega)) (fun h => kf (by omega))
theorem tv_lc_le {E : tm_Ev} {X : tm_X} {Q : State → Prop} {own : String} {cc : ByteArray} {nL : Nat} {ret : Option FieldType} {d pc : Nat} {lv : List (Nat × Value)} {st : List Value} {μ : tm_M} {a b off : Int} (tgt : Nat) (C : tm_C E X own cc nL ret d) (hd : decode cc pc = .ok (.lcmp, 1)) (hd2 : decode cc (pc + 1) = .ok (.ifCond .le off, 3)) (ht : ((pc + 1 : Nat) : Int) + off = (tgt : Int)) (ha : -9223372036854775808 ≤ a ∧ a ≤ 9223372036854775807) (hb : -9223372036854775808 ≤ b ∧ b ≤ 9223372036854775807) (kt : a ≤ b → tm_V E X Q nL tgt lv st μ) (kf : b < a → tm_V E X Q nL (pc + 1 + 3) lv st μ) : tm_V E X Q nL pc lv (tm_l b :: tm_l a :: st) μ := by
  refine tv_lcmp C hd ha hb ?_
  have hr : lc_z a b = 1 ∧ b < a ∨ lc_z a b = 0 ∧ a = b ∨ lc_z a b = -1 ∧ a < b := by
    unfold lc_z
    by_cases h1 : b < a
    · left; exact ⟨if_pos h1, h1⟩
    · right
      by_cases h2 : a = b
      · left; exact ⟨by rw [if_neg h1, if_pos h2], h2⟩
      · right; exact ⟨by rw [if_neg h1, if_neg h2], by omega⟩
  exact tv_if_le tgt C hd2 ht (by omega) (fun h => kt (by omega)) (fun h => kf (by omega))
theorem tv_lc_eq {E : tm_Ev} {X : tm_X} {Q : State → Prop} {own : String} {cc : ByteArray} {nL : Nat} {ret : Option FieldType} {d pc : Nat} {lv : List (Nat × Value)} {st : List Value} {μ : tm_M} {a b off : Int} (tgt : Nat) (C : tm_C E X own cc nL ret d) (hd : decode cc pc = .ok (.lcmp, 1)) (hd2 : decode cc (pc + 1) = .ok (.ifCond .eq off, 3)) (ht : ((pc + 1 : Nat) : Int) + off = (tgt : Int)) (ha : -9223372036854775808 ≤ a ∧ a ≤ 9223372036854775807) (hb : -9223372036854775808 ≤ b ∧ b ≤ 9223372036854775807) (kt : a = b → tm_V E X Q nL tgt lv st μ) (kf : ¬ a = b → tm_V E X Q nL (pc + 1 + 3) lv st μ) : tm_V E X Q nL pc lv (tm_l b :: tm_l a :: st) μ := by
  refine tv_lcmp C hd ha hb ?_
  have hr : lc_z a b = 1 ∧ b < a ∨ lc_z a b = 0 ∧ a = b ∨ lc_z a b = -1 ∧ a < b := by
    unfold lc_z
    by_cases h1 : b < a
    · left; exact ⟨if_pos h1, h1⟩
    · right
      by_cases h2 : a = b
      · left; exact ⟨by rw [if_neg h1, if_pos h2], h2⟩
      · right; exact ⟨by rw [if_neg h1, if_neg h2], by omega⟩
  exact tv_if_eq tgt C hd2 ht (by omega) (fun h => kt (by omega)) (fun h => kf (by omega))
theorem tv_lc_ne {E : tm_Ev} {X : tm_X} {Q : State → Prop} {own : String} {cc : ByteArray} {nL : Nat} {ret : Option FieldType} {d pc : Nat} {lv : List (Nat × Value)} {st : List Value} {μ : tm_M} {a b off : Int} (tgt : Nat) (C : tm_C E X own cc nL ret d) (hd : decode cc pc = .ok (.lcmp, 1)) (hd2 : decode cc (pc + 1) = .ok (.ifCond .ne off, 3)) (ht : ((pc + 1 : Nat) : Int) + off = (tgt : Int)) (ha : -9223372036854775808 ≤ a ∧ a ≤ 9223372036854775807) (hb : -9223372036854775808 ≤ b ∧ b ≤ 9223372036854775807) (kt : ¬ a = b → tm_V E X Q nL tgt lv st μ) (kf : a = b → tm_V E X Q nL (pc + 1 + 3) lv st μ) : tm_V E X Q nL pc lv (tm_l b :: tm_l a :: st) μ := by
  refine tv_lcmp C hd ha hb ?_
  have hr : lc_z a b = 1 ∧ b < a ∨ lc_z a b = 0 ∧ a = b ∨ lc_z a b = -1 ∧ a < b := by
    unfold lc_z
    by_cases h1 : b < a
    · left; exact ⟨if_pos h1, h1⟩
    · right
      by_cases h2 : a = b
      · left; exact ⟨by rw [if_neg h1, if_pos h2], h2⟩
      · right; exact ⟨by rw [if_neg h1, if_neg h2], by omega⟩
  exact tv_if_ne tgt C hd2 ht (by omega) (fun h => kt (by omega)) (fun h => kf (by omega))
/-! what is seen, the sheets: the calls -/
def fd_s (s : tm_M) (n : Int) : tm_M := tm_up s 0 1 n
def sn_z (s : tm_M) (h v : Int) : Int := if (0 ≤ h ∧ h ≤ 39) ∧ (0 ≤ v ∧ v ≤ 20) then (if 8 ≤ s 0 0 then -4 else s 0 0 + 1) else -2
def sn_s (s : tm_M) (h v : Int) : tm_M := if (0 ≤ h ∧ h ≤ 39) ∧ (0 ≤ v ∧ v ≤ 20) then (if 8 ≤ s 0 0 then s else tm_up (tm_up (tm_up s 1 (s 0 0).toNat h) 2 (s 0 0).toNat v) 0 0 (s 0 0 + 1)) else s
def sh_z (k f n : Int) : Int := if (0 ≤ k ∧ k ≤ 3) ∧ (0 ≤ f ∧ f ≤ 2) ∧ n ≤ 60 then (if n < 0 then -15 else n) else -2
def sh_s (s : tm_M) (k f n : Int) : tm_M := if (0 ≤ k ∧ k ≤ 3) ∧ (0 ≤ f ∧ f ≤ 2) ∧ n ≤ 60 then (if n < 0 then fd_s s 5 else tm_fill (tm_up (tm_up (tm_up s 3 k.toNat 1) 4 k.toNat f) 5 k.toNat n) (6 + k.toNat) 60 0) else s
def lo_z (s : tm_M) (k : Int) : Int := if 0 ≤ k ∧ k ≤ 3 then (if s 3 k.toNat = 0 then -11 else s 5 k.toNat) else -2
def lo_s (s : tm_M) (k : Int) : tm_M := if 0 ≤ k ∧ k ≤ 3 then (if s 3 k.toNat = 0 then fd_s s 1 else tm_up s 3 k.toNat 0) else s
def lk_z (s : tm_M) (k : Nat) (f i : Int) : Int := if s 3 k = 0 then 1 else if s 4 k = f then (if 0 ≤ i ∧ i < s 5 k then 0 else 2) else 3
def st_v (f v : Int) : Int := if f = 0 then (Int32.ofInt v).toInt8.toInt32.toInt else if f = 1 then (Int32.ofInt v).toInt16.toInt32.toInt else v
def pu_z (s : tm_M) (k f i : Int) : Int := if (0 ≤ k ∧ k ≤ 3) ∧ (0 ≤ f ∧ f ≤ 2) then (if lk_z s k.toNat f i = 0 then 1 else -10 - lk_z s k.toNat f i) else -2
def pu_s (s : tm_M) (k f i v : Int) : tm_M := if (0 ≤ k ∧ k ≤ 3) ∧ (0 ≤ f ∧ f ≤ 2) then (if lk_z s k.toNat f i = 0 then tm_up s (6 + k.toNat) i.toNat (st_v (s 4 k.toNat) v) else fd_s s (lk_z s k.toNat f i)) else s
def ge_z (s : tm_M) (k f i : Int) : Int := if ((0 ≤ k ∧ k ≤ 3) ∧ (0 ≤ f ∧ f ≤ 2)) ∧ lk_z s k.toNat f i = 0 then s (6 + k.toNat) i.toNat else -2147483648
def ge_s (s : tm_M) (k f i : Int) : tm_M := if ((0 ≤ k ∧ k ≤ 3) ∧ (0 ≤ f ∧ f ≤ 2)) ∧ ¬ lk_z s k.toNat f i = 0 then fd_s s (lk_z s k.toNat f i) else s
def cy_l (s : tm_M) (k t : Nat) (i j n : Int) : Int := if s 3 k = 0 ∨ s 3 t = 0 then 1 else if s 4 k = s 4 t then (if 0 ≤ i ∧ 0 ≤ j ∧ 0 ≤ n ∧ i + n ≤ s 5 k ∧ j + n ≤ s 5 t then 0 else 2) else 4
def cy_z (s : tm_M) (k i t j n : Int) : Int := if (0 ≤ k ∧ k ≤ 3) ∧ (0 ≤ t ∧ t ≤ 3) then (if cy_l s k.toNat t.toNat i j n = 0 then 1 else -10 - cy_l s k.toNat t.toNat i j n) else -2
def cy_s (s : tm_M) (k i t j n : Int) : tm_M := if (0 ≤ k ∧ k ≤ 3) ∧ (0 ≤ t ∧ t ≤ 3) then (if cy_l s k.toNat t.toNat i j n = 0 then tm_cp s (6 + k.toNat) (6 + t.toNat) i.toNat j.toNat n.toNat else fd_s s (cy_l s k.toNat t.toNat i j n)) else s
def rd_f (f : Nat → Int) (n : Int) : Nat → tm_M → Nat → tm_M × Nat
  | 0, d, j => (d, j)
  | m + 1, d, j => if (j : Int) < n ∧ (0 ≤ f j ∧ f j ≤ 39) ∧ d 3 0 < 6 then rd_f f n m (tm_up (tm_up d 4 (d 3 0).toNat (f j)) 3 0 (d 3 0 + 1)) (j + 1) else (d, j)
def rd_z (d s : tm_M) (k : Int) : Int := if 0 ≤ k ∧ k ≤ 3 then (if s 3 k.toNat = 0 then -11 else ((rd_f (s (6 + k.toNat)) (s 5 k.toNat) 61 d 0).2 : Int)) else -2
def rd_d (d s : tm_M) (k : Int) : tm_M := if 0 ≤ k ∧ k ≤ 3 then (if s 3 k.toNat = 0 then d else (rd_f (s (6 + k.toNat)) (s 5 k.toNat) 61 d 0).1) else d
def rd_s (s : tm_M) (k : Int) : tm_M := if 0 ≤ k ∧ k ≤ 3 then (if s 3 k.toNat = 0 then fd_s s 1 else s) else s
def wr_z (s : tm_M) (k : Int) : Int := if 0 ≤ k ∧ k ≤ 3 then (if s 3 k.toNat = 0 then -11 else min (s 5 k.toNat) 40) else -2
def wr_s (d s : tm_M) (k : Int) : tm_M := if 0 ≤ k ∧ k ≤ 3 then (if s 3 k.toNat = 0 then fd_s s 1 else tm_rowf s (6 + k.toNat) (min (s 5 k.toNat) 40).toNat (fun h => st_v (s 4 k.toNat) (sm_z (dd_p d) (h + 1)))) else s
theorem st_r (f v : Int) (hv : -2147483648 ≤ v ∧ v ≤ 2147483647) : -2147483648 ≤ st_v f v ∧ st_v f v ≤ 2147483647 := by
  unfold st_v
  have q1 := Int32.le_toInt (Int32.ofInt v).toInt8.toInt32
  have q2 := Int32.toInt_lt (Int32.ofInt v).toInt8.toInt32
  have q3 := Int32.le_toInt (Int32.ofInt v).toInt16.toInt32
  have q4 := Int32.toInt_lt (Int32.ofInt v).toInt16.toInt32
  split
  · omega
  · split <;> omega
/-! the state over such changes -/
theorem cl_I_s {μ ν d s s1 : tm_M} (h : cl_I μ d s) (e : ∀ a, ¬ a = 0 → ¬ (10 ≤ a ∧ a ≤ 22) → ν a = μ a) (e0 : ∀ b, b ≠ 6 → ν 0 b = μ 0 b) (hs : cl_d ν s1) : cl_I ν d s1 := by
  obtain ⟨h1, -, c1, c2, c3, c4, c5⟩ := h
  refine ⟨cl_m_same h1 (fun a ha => e a (by omega) (by omega)), hs, by rw [e0 16 (by omega)]; exact c1, fun q => cl_s_same (c2 (by rw [e0 16 (by omega)] at q; exact q)) (fun a ha => e a (by omega) (by omega)), by rw [e0 17 (by omega)]; exact c3, fun q => ?_, ?_⟩
  · rw [e0 17 (by omega)] at q
    rw [e0 16 (by omega)]
    refine ⟨(c4 q).1, ?_⟩
    unfold cl_p
    rw [e 57 (by omega) (by omega), e 60 (by omega) (by omega)]
    exact (c4 q).2
  · rw [e0 18 (by omega), e0 16 (by omega)]
    rcases c5 with q | ⟨q1, q2, q3⟩
    · exact Or.inl q
    · refine Or.inr ⟨q1, q2, ?_⟩
      unfold cl_w
      rw [e0 18 (by omega), e 72 (by omega) (by omega)]
      exact q3
theorem rf_I_s {μ ν d s s1 : tm_M} (h : rf_I μ d s) (e : ∀ a, ¬ a = 74 → ¬ (94 ≤ a ∧ a ≤ 101) → ν a = μ a) (e0 : ∀ b, b ≠ 35 → b ≠ 44 → ν 74 b = μ 74 b) (hs : rf_d ν s1) : rf_I ν d s1 :=
  ⟨rf_m_same h.1 (fun a ha => e a (by omega) (by omega)) (e0 10 (by omega) (by omega)) (e0 12 (by omega) (by omega)), hs⟩
theorem cl_d_sh {μ ν s s1 : tm_M} (h : cl_d μ s) (k : Nat) (e1 : ∀ a, a ≠ 15 + 2 * k → a ≠ 16 + 2 * k → ν a = μ a) (hk : k < 4) (f1 : ∀ a, a ≤ 2 → s1 a = s a) (f2 : ∀ a b, 3 ≤ a → a ≤ 5 → b ≠ k → s1 a b = s a b) (f3 : ∀ a, 6 ≤ a → a ≠ 6 + k → s1 a = s a) (hs : (s1 3 k = 1 → ν (15 + 2 * k) 1 = s1 4 k ∧ ν (15 + 2 * k) 2 = s1 5 k ∧ ∀ j, j < 60 → ν (16 + 2 * k) j = s1 (6 + k) j) ∧ (s1 3 k = 0 → ν (15 + 2 * k) 1 = -1)) : cl_d ν s1 := by
  obtain ⟨h1, h2, h3, h4, h5⟩ := h
  refine ⟨by rw [e1 10 (by omega) (by omega), f1 0 (by omega)]; exact h1, by rw [e1 12 (by omega) (by omega), f1 0 (by omega)]; exact h2, by rw [e1 11 (by omega) (by omega), e1 13 (by omega) (by omega), f1 0 (by omega), f1 1 (by omega), f1 2 (by omega)]; exact h3, by rw [e1 0 (by omega) (by omega), f1 0 (by omega)]; exact h4, fun b hb => ?_⟩
  by_cases hc : b = k
  · subst hc; exact hs
  · rw [e1 (15 + 2 * b) (by omega) (by omega), e1 (16 + 2 * b) (by omega) (by omega), f2 3 b (by omega) (by omega) hc, f2 4 b (by omega) (by omega) hc, f2 5 b (by omega) (by omega) hc, f3 (6 + b) (by omega) (by omega)]
    exact h5 b hb
theorem rf_d_sh {μ ν s s1 : tm_M} (h : rf_d μ s) (k : Nat) (e1 : ∀ a, a = 94 ∨ a = 95 → ν a = μ a) (e0 : ∀ b, ν 74 b = μ 74 b) (e2 : ∀ a b, 97 ≤ a → a ≤ 99 → b ≠ k → ν a b = μ a b) (e3 : ∀ b j, b ≠ k → j < 60 → ν 100 (60 * b + j) = μ 100 (60 * b + j)) (f1 : ∀ a, a ≤ 2 → s1 a = s a) (f2 : ∀ a b, 3 ≤ a → a ≤ 5 → b ≠ k → s1 a b = s a b) (f3 : ∀ a, 6 ≤ a → a ≠ 6 + k → s1 a = s a) (hs : ν 97 k = s1 3 k ∧ (s1 3 k = 1 → ν 98 k = s1 4 k ∧ ν 99 k = s1 5 k ∧ ∀ j, j < 60 → ν 100 (60 * k + j) = s1 (6 + k) j)) : rf_d ν s1 := by
  obtain ⟨h1, h2, h3, h4⟩ := h
  refine ⟨by rw [e0, f1 0 (by omega)]; exact h1, by rw [e1 94 (by omega), e1 95 (by omega), f1 0 (by omega), f1 1 (by omega), f1 2 (by omega)]; exact h2, by rw [e0, f1 0 (by omega)]; exact h3, fun b hb => ?_⟩
  by_cases hc : b = k
  · subst hc; exact hs
  · rw [e2 97 b (by omega) (by omega) hc, e2 98 b (by omega) (by omega) hc, e2 99 b (by omega) (by omega) hc, f2 3 b (by omega) (by omega) hc, f2 4 b (by omega) (by omega) hc, f2 5 b (by omega) (by omega) hc, f3 (6 + b) (by omega) (by omega)]
    refine ⟨(h4 b hb).1, fun q => ⟨((h4 b hb).2 q).1, ((h4 b hb).2 q).2.1, fun j hj => ?_⟩⟩
    rw [e3 b j hc hj]
    exact ((h4 b hb).2 q).2.2 j hj
theorem ss_sh {s s1 : tm_M} (h : ss_ok s) (k : Nat) (f1 : ∀ a, a ≤ 2 → s1 a = s a) (f2 : ∀ a b, 3 ≤ a → a ≤ 5 → b ≠ k → s1 a b = s a b) (f3 : ∀ a, 6 ≤ a → a ≠ 6 + k → s1 a = s a) (hs : (s1 3 k = 0 ∨ s1 3 k = 1) ∧ (s1 3 k = 1 → (0 ≤ s1 4 k ∧ s1 4 k ≤ 2) ∧ (0 ≤ s1 5 k ∧ s1 5 k ≤ 60) ∧ ∀ j, j < 60 → -2147483648 ≤ s1 (6 + k) j ∧ s1 (6 + k) j ≤ 2147483647)) : ss_ok s1 := by
  obtain ⟨h1, h2, h3, h4⟩ := h
  refine ⟨by rw [f1 0 (by omega)]; exact h1, by rw [f1 0 (by omega)]; exact h2, by rw [f1 0 (by omega), f1 1 (by omega), f1 2 (by omega)]; exact h3, fun b hb => ?_⟩
  by_cases hc : b = k
  · subst hc; exact hs
  · rw [f2 3 b (by omega) (by omega) hc, f2 4 b (by omega) (by omega) hc, f2 5 b (by omega) (by omega) hc, f3 (6 + b) (by omega) (by omega)]
    exact h4 b hb
/-- a finding -/
theorem fd_o (s : tm_M) (n : Int) {a b : Nat} (h : a ≠ 0 ∨ b ≠ 1) : fd_s s n a b = s a b := by
  unfold fd_s
  rcases h with h | h
  · exact tm_uk h
  · exact tm_uj h
theorem fd_f (s : tm_M) (n : Int) {a : Nat} (h : a ≠ 0) : fd_s s n a = s a := funext fun b => fd_o s n (Or.inl h)
theorem cl_fd {μ d s : tm_M} (h : cl_I μ d s) (n : Int) : cl_I (tm_up μ 0 6 n) d (fd_s s n) := by
  refine cl_I_s h (fun a ha _ => tm_uf ha) (fun b hb => tm_uj hb) ?_
  obtain ⟨-, ⟨h1, h2, h3, h4, h5⟩, -⟩ := h
  refine ⟨?_, ?_, ?_, ?_, fun k hk => ?_⟩
  · rw [tm_uk (by decide), fd_o s n (Or.inr (by decide))]; exact h1
  · rw [tm_uk (by decide), fd_o s n (Or.inr (by decide))]; exact h2
  · rw [tm_uf (by decide), tm_uf (by decide), fd_o s n (Or.inr (by decide)), fd_f s n (by decide), fd_f s n (by decide)]; exact h3
  · rw [tm_us]; exact (tm_us (μ := s)).symm
  · rw [tm_uf (by omega), tm_uf (by omega), fd_f s n (by decide), fd_f s n (by decide), fd_f s n (by decide), fd_f s n (by omega)]; exact h5 k hk
theorem rf_fd {μ d s : tm_M} (h : rf_I μ d s) (n : Int) : rf_I (tm_up μ 74 44 n) d (fd_s s n) := by
  refine rf_I_s h (fun a ha _ => tm_uf ha) (fun b _ hb => tm_uj hb) ?_
  obtain ⟨-, h1, h2, h3, h4⟩ := h
  refine ⟨?_, ?_, ?_, fun k hk => ?_⟩
  · rw [tm_uj (by decide), fd_o s n (Or.inr (by decide))]; exact h1
  · rw [tm_uf (by decide), tm_uf (by decide), fd_o s n (Or.inr (by decide)), fd_f s n (by decide), fd_f s n (by decide)]; exact h2
  · rw [tm_us]; exact (tm_us (μ := s)).symm
  · rw [tm_uf (by omega), tm_uf (by omega), tm_uf (by omega), tm_uf (by omega), fd_f s n (by decide), fd_f s n (by decide), fd_f s n (by decide), fd_f s n (by omega)]; exact h4 k hk
theorem ss_fd {s : tm_M} (h : ss_ok s) {n : Int} (hn : 0 ≤ n ∧ n ≤ 5) : ss_ok (fd_s s n) := by
  obtain ⟨h1, h2, h3, h4⟩ := h
  refine ⟨?_, ?_, ?_, fun k hk => ?_⟩
  · rw [fd_o s n (Or.inr (by decide))]; exact h1
  · rw [show fd_s s n 0 1 = n from tm_us]; exact hn
  · rw [fd_o s n (Or.inr (by decide)), fd_f s n (by decide), fd_f s n (by decide)]; exact h3
  · rw [fd_f s n (by decide), fd_f s n (by decide), fd_f s n (by decide), fd_f s n (by omega)]; exact h4 k hk
/-- what is seen changes -/
theorem cl_d_sn {μ ν s s1 : tm_M} (h : cl_d μ s) (e : ∀ a, 14 ≤ a ∧ a ≤ 22 → ν a = μ a) (f : ∀ a, 3 ≤ a → s1 a = s a) (e6 : ν 0 6 = s1 0 1) (z1 : ν 10 1 = s1 0 0) (z2 : ν 12 1 = s1 0 0) (hj : ∀ j : Nat, (j : Int) < s1 0 0 → ν 11 j = s1 1 j ∧ ν 13 j = s1 2 j) : cl_d ν s1 := by
  refine ⟨z1, z2, hj, e6, fun k hk => ?_⟩
  rw [e (15 + 2 * k) (by omega), e (16 + 2 * k) (by omega), f 3 (by omega), f 4 (by omega), f 5 (by omega), f (6 + k) (by omega)]
  exact h.2.2.2.2 k hk
theorem rf_d_sn {μ ν s s1 : tm_M} (h : rf_d μ s) (e : ∀ a, 97 ≤ a ∧ a ≤ 100 → ν a = μ a) (f : ∀ a, 3 ≤ a → s1 a = s a) (e6 : ν 74 44 = s1 0 1) (z1 : ν 74 35 = s1 0 0) (hj : ∀ j : Nat, (j : Int) < s1 0 0 → ν 94 j = s1 1 j ∧ ν 95 j = s1 2 j) : rf_d ν s1 := by
  refine ⟨z1, hj, e6, fun k hk => ?_⟩
  rw [e 97 (by omega), e 98 (by omega), e 99 (by omega), e 100 (by omega), f 3 (by omega), f 4 (by omega), f 5 (by omega), f (6 + k) (by omega)]
  exact h.2.2.2 k hk
theorem sn_f (s : tm_M) (x v z : Int) (m : Nat) : ∀ a, 3 ≤ a → tm_up (tm_up (tm_up s 1 m x) 2 m v) 0 0 z a = s a := fun a ha => by rw [tm_uf (by omega), tm_uf (by omega), tm_uf (by omega)]
theorem cl_sn {μ d s : tm_M} (h : cl_I μ d s) (hs : ss_ok s) (x v : Int) : cl_I (tm_up (tm_up (tm_up (tm_up μ 11 (s 0 0).toNat x) 10 1 (s 0 0 + 1)) 13 (s 0 0).toNat v) 12 1 (s 0 0 + 1)) d (tm_up (tm_up (tm_up s 1 (s 0 0).toNat x) 2 (s 0 0).toNat v) 0 0 (s 0 0 + 1)) := by
  refine cl_I_s h (fun a ha hb => by rw [tm_uf (by omega), tm_uf (by omega), tm_uf (by omega), tm_uf (by omega)]) (fun b hb => by rw [tm_uk (by decide), tm_uk (by decide), tm_uk (by decide), tm_uk (by decide)]) ?_
  obtain ⟨-, hd0, -⟩ := h
  have hz := hs.1
  refine cl_d_sn hd0 (fun a ha => by rw [tm_uf (by omega), tm_uf (by omega), tm_uf (by omega), tm_uf (by omega)]) (sn_f s x v _ _) ?_ ?_ ?_ (fun j hj => ?_)
  · simp [tm_up]; exact hd0.2.2.2.1
  · simp [tm_up]
  · simp [tm_up]
  · simp [tm_up] at hj ⊢
    by_cases hc : j = (s 0 0).toNat
    · simp [hc]
    · simp [hc]; exact hd0.2.2.1 j (by omega)
theorem rf_sn {μ d s : tm_M} (h : rf_I μ d s) (hs : ss_ok s) (x v : Int) : rf_I (tm_up (tm_up (tm_up μ 94 (s 0 0).toNat x) 95 (s 0 0).toNat v) 74 35 (s 0 0 + 1)) d (tm_up (tm_up (tm_up s 1 (s 0 0).toNat x) 2 (s 0 0).toNat v) 0 0 (s 0 0 + 1)) := by
  refine rf_I_s h (fun a ha hb => by rw [tm_uf (by omega), tm_uf (by omega), tm_uf (by omega)]) (fun b hb _ => by rw [tm_uj hb, tm_uk (by decide), tm_uk (by decide)]) ?_
  obtain ⟨-, hd0⟩ := h
  have hz := hs.1
  refine rf_d_sn hd0 (fun a ha => by rw [tm_uf (by omega), tm_uf (by omega), tm_uf (by omega)]) (sn_f s x v _ _) ?_ ?_ (fun j hj => ?_)
  · simp [tm_up]; exact hd0.2.2.1
  · simp [tm_up]
  · simp [tm_up] at hj ⊢
    by_cases hc : j = (s 0 0).toNat
    · simp [hc]
    · simp [hc]; exact hd0.2.1 j (by omega)
theorem ss_sn {s : tm_M} (hs : ss_ok s) {x v : Int} (hx : 0 ≤ x ∧ x ≤ 39) (hv : 0 ≤ v ∧ v ≤ 20) (h8 : s 0 0 < 8) : ss_ok (tm_up (tm_up (tm_up s 1 (s 0 0).toNat x) 2 (s 0 0).toNat v) 0 0 (s 0 0 + 1)) := by
  obtain ⟨h1, h2, h3, h4⟩ := hs
  have f := sn_f s x v (s 0 0 + 1) (s 0 0).toNat
  refine ⟨by simp [tm_up]; omega, by simp [tm_up]; exact h2, fun j hj => ?_, fun k hk => ?_⟩
  · simp [tm_up] at hj ⊢
    by_cases hc : j = (s 0 0).toNat
    · simp [hc]; exact ⟨hx, hv⟩
    · simp [hc]; exact h3 j (by omega)
  · rw [f 3 (by omega), f 4 (by omega), f 5 (by omega), f (6 + k) (by omega)]; exact h4 k hk
theorem cl_fg {μ d s : tm_M} (h : cl_I μ d s) : cl_I (tm_up (tm_up μ 10 1 0) 12 1 0) d (tm_up s 0 0 0) := by
  refine cl_I_s h (fun a ha hb => by rw [tm_uf (by omega), tm_uf (by omega)]) (fun b hb => by rw [tm_uk (by decide), tm_uk (by decide)]) ?_
  obtain ⟨-, hd0, -⟩ := h
  refine cl_d_sn hd0 (fun a ha => by rw [tm_uf (by omega), tm_uf (by omega)]) (fun a ha => tm_uf (by omega)) ?_ ?_ ?_ (fun j hj => ?_)
  · simp [tm_up]; exact hd0.2.2.2.1
  · simp [tm_up]
  · simp [tm_up]
  · rw [tm_us] at hj; omega
theorem rf_fg {μ d s : tm_M} (h : rf_I μ d s) : rf_I (tm_up μ 74 35 0) d (tm_up s 0 0 0) := by
  refine rf_I_s h (fun a ha hb => by rw [tm_uf (by omega)]) (fun b hb _ => tm_uj hb) ?_
  obtain ⟨-, hd0⟩ := h
  refine rf_d_sn hd0 (fun a ha => by rw [tm_uf (by omega)]) (fun a ha => tm_uf (by omega)) ?_ ?_ (fun j hj => ?_)
  · simp [tm_up]; exact hd0.2.2.1
  · simp [tm_up]
  · rw [tm_us] at hj; omega
theorem ss_fg {s : tm_M} (hs : ss_ok s) : ss_ok (tm_up s 0 0 0) := by
  obtain ⟨h1, h2, h3, h4⟩ := hs
  refine ⟨by simp [tm_up], by simp [tm_up]; exact h2, fun j hj => ?_, fun k hk => ?_⟩
  · rw [tm_us] at hj; omega
  · rw [tm_uf (by omega), tm_uf (by omega), tm_uf (by omega), tm_uf (by omega)]; exact h4 k hk
/-- a sheet begins, is lost, is written -/
theorem sh_f (s : tm_M) (k : Nat) (f n : Int) : let s1 := tm_fill (tm_up (tm_up (tm_up s 3 k 1) 4 k f) 5 k n) (6 + k) 60 0; (∀ a, a ≤ 2 → s1 a = s a) ∧ (∀ a b, 3 ≤ a → a ≤ 5 → b ≠ k → s1 a b = s a b) ∧ (∀ a, 6 ≤ a → a ≠ 6 + k → s1 a = s a) ∧ s1 3 k = 1 ∧ s1 4 k = f ∧ s1 5 k = n ∧ (∀ j, j < 60 → s1 (6 + k) j = 0) := by
  refine ⟨fun a ha => ?_, fun a b h1 h2 h3 => ?_, fun a h1 h2 => ?_, ?_, ?_, ?_, fun j hj => tm_fill_in hj⟩
  · rw [tm_fill_f (by omega), tm_uf (by omega), tm_uf (by omega), tm_uf (by omega)]
  · rw [tm_fill_k (by omega), tm_uj h3, tm_uj h3, tm_uj h3]
  · rw [tm_fill_f h2, tm_uf (by omega), tm_uf (by omega), tm_uf (by omega)]
  · rw [tm_fill_k (by omega), tm_uk (by decide), tm_uk (by decide), tm_us]
  · rw [tm_fill_k (by omega), tm_uk (by decide), tm_us]
  · rw [tm_fill_k (by omega), tm_us]
theorem cl_sh {μ d s : tm_M} (h : cl_I μ d s) (k : Nat) (hk : k < 4) (f n : Int) : cl_I (tm_fill (tm_up (tm_up μ (15 + 2 * k) 1 f) (15 + 2 * k) 2 n) (16 + 2 * k) 60 0) d (tm_fill (tm_up (tm_up (tm_up s 3 k 1) 4 k f) 5 k n) (6 + k) 60 0) := by
  refine cl_I_s h (fun a ha hb => by rw [tm_fill_f (by omega), tm_uf (by omega), tm_uf (by omega)]) (fun b hb => by rw [tm_fill_k (by omega), tm_uk (by omega), tm_uk (by omega)]) ?_
  obtain ⟨g1, g2, g3, g4, g5, g6, g7⟩ := sh_f s k f n
  refine cl_d_sh h.2.1 k (fun a h1 h2 => by rw [tm_fill_f h2, tm_uf h1, tm_uf h1]) hk g1 g2 g3 ⟨fun _ => ⟨?_, ?_, fun j hj => ?_⟩, fun q => ?_⟩
  · rw [g5, tm_fill_k (by omega), tm_uj (by decide), tm_us]
  · rw [g6, tm_fill_k (by omega), tm_us]
  · rw [g7 j hj, tm_fill_in hj]
  · rw [g4] at q; omega
theorem cl_lo {μ d s : tm_M} (h : cl_I μ d s) (k : Nat) (hk : k < 4) (n : Int) : cl_I (tm_fill (tm_up (tm_up μ (15 + 2 * k) 1 (-1)) (15 + 2 * k) 2 n) (16 + 2 * k) 60 0) d (tm_up s 3 k 0) := by
  refine cl_I_s h (fun a ha hb => by rw [tm_fill_f (by omega), tm_uf (by omega), tm_uf (by omega)]) (fun b hb => by rw [tm_fill_k (by omega), tm_uk (by omega), tm_uk (by omega)]) ?_
  refine cl_d_sh h.2.1 k (fun a h1 h2 => by rw [tm_fill_f h2, tm_uf h1, tm_uf h1]) hk (fun a ha => tm_uf (by omega)) (fun a b _ _ h3 => tm_uj h3) (fun a h1 _ => tm_uf (by omega)) ⟨fun q => ?_, fun _ => ?_⟩
  · rw [tm_us] at q; omega
  · rw [tm_fill_k (by omega), tm_uj (by decide), tm_us]
/-- the items of a sheet change -/
theorem cl_it {μ ν d s s1 : tm_M} (h : cl_I μ d s) (k : Nat) (hk : k < 4) (e : ∀ a, a ≠ 16 + 2 * k → ν a = μ a) (f : ∀ a, a ≠ 6 + k → s1 a = s a) (hj : s 3 k = 1 → ∀ j, j < 60 → ν (16 + 2 * k) j = s1 (6 + k) j) : cl_I ν d s1 := by
  refine cl_I_s h (fun a ha hb => e a (by omega)) (fun b hb => by rw [e 0 (by omega)]) ?_
  refine cl_d_sh h.2.1 k (fun a h1 h2 => e a h2) hk (fun a ha => f a (by omega)) (fun a b h1 h2 _ => by rw [f a (by omega)]) (fun a _ h2 => f a h2) ?_
  rw [f 3 (by omega), f 4 (by omega), f 5 (by omega), e (15 + 2 * k) (by omega)]
  have q := h.2.1.2.2.2.2 k hk
  exact ⟨fun q1 => ⟨(q.1 q1).1, (q.1 q1).2.1, hj q1⟩, q.2⟩
theorem rf_sh {μ ν d s : tm_M} (h : rf_I μ d s) (k : Nat) (f n : Int) (e : ∀ a, ¬ (97 ≤ a ∧ a ≤ 100) → ν a = μ a) (e2 : ∀ a b, 97 ≤ a → a ≤ 99 → b ≠ k → ν a b = μ a b) (e3 : ∀ b j, b ≠ k → j < 60 → ν 100 (60 * b + j) = μ 100 (60 * b + j)) (q1 : ν 97 k = 1) (q2 : ν 98 k = f) (q3 : ν 99 k = n) (q4 : ∀ j, j < 60 → ν 100 (60 * k + j) = 0) : rf_I ν d (tm_fill (tm_up (tm_up (tm_up s 3 k 1) 4 k f) 5 k n) (6 + k) 60 0) := by
  refine rf_I_s h (fun a ha hb => e a (by omega)) (fun b _ _ => by rw [e 74 (by omega)]) ?_
  obtain ⟨g1, g2, g3, g4, g5, g6, g7⟩ := sh_f s k f n
  exact rf_d_sh h.2 k (fun a ha => e a (by omega)) (fun b => by rw [e 74 (by omega)]) e2 e3 g1 g2 g3 ⟨by rw [g4]; exact q1, fun _ => ⟨by rw [g5]; exact q2, by rw [g6]; exact q3, fun j hj => by rw [g7 j hj]; exact q4 j hj⟩⟩
theorem rf_lo {μ d s : tm_M} (h : rf_I μ d s) (k : Nat) : rf_I (tm_up μ 97 k 0) d (tm_up s 3 k 0) := by
  refine rf_I_s h (fun a ha hb => tm_uf (by omega)) (fun b _ _ => tm_uk (by decide)) ?_
  exact rf_d_sh h.2 k (fun a ha => tm_uf (by omega)) (fun b => tm_uk (by decide)) (fun a b _ _ h3 => tm_uj h3) (fun b j _ _ => tm_uk (by decide)) (fun a ha => tm_uf (by omega)) (fun a b _ _ h3 => tm_uj h3) (fun a h1 _ => tm_uf (by omega)) ⟨by rw [tm_us, tm_us], fun q => by rw [tm_us] at q; omega⟩
theorem rf_it {μ ν d s s1 : tm_M} (h : rf_I μ d s) (k : Nat) (hk : k < 4) (e : ∀ a, a ≠ 100 → a ≠ 101 → ν a = μ a) (e3 : ∀ b j, b ≠ k → j < 60 → ν 100 (60 * b + j) = μ 100 (60 * b + j)) (f : ∀ a, a ≠ 6 + k → s1 a = s a) (hj : s 3 k = 1 → ∀ j, j < 60 → ν 100 (60 * k + j) = s1 (6 + k) j) : rf_I ν d s1 := by
  refine rf_I_s h (fun a ha hb => e a (by omega) (by omega)) (fun b _ _ => by rw [e 74 (by omega) (by omega)]) ?_
  refine rf_d_sh h.2 k (fun a ha => e a (by omega) (by omega)) (fun b => by rw [e 74 (by omega) (by omega)]) (fun a b h1 h2 _ => by rw [e a (by omega) (by omega)]) e3 (fun a ha => f a (by omega)) (fun a b h1 h2 _ => by rw [f a (by omega)]) (fun a _ h2 => f a h2) ?_
  rw [f 3 (by omega), f 4 (by omega), f 5 (by omega), e 97 (by omega) (by omega), e 98 (by omega) (by omega), e 99 (by omega) (by omega)]
  have q := h.2.2.2.2 k hk
  exact ⟨q.1, fun q1 => ⟨(q.2 q1).1, (q.2 q1).2.1, hj q1⟩⟩
theorem ss_it {s s1 : tm_M} (h : ss_ok s) (k : Nat) (hk : k < 4) (f : ∀ a, a ≠ 6 + k → s1 a = s a) (hj : s 3 k = 1 → ∀ j, j < 60 → -2147483648 ≤ s1 (6 + k) j ∧ s1 (6 + k) j ≤ 2147483647) : ss_ok s1 := by
  refine ss_sh h k (fun a ha => f a (by omega)) (fun a b h1 h2 _ => by rw [f a (by omega)]) (fun a _ h2 => f a h2) ?_
  rw [f 3 (by omega), f 4 (by omega), f 5 (by omega)]
  have q := h.2.2.2 k hk
  exact ⟨q.1, fun q1 => ⟨(q.2 q1).1, (q.2 q1).2.1, hj q1⟩⟩
theorem sh_tm {k : Nat} (hk : k < 4) : tm_tm[15 + 2 * k]? = some (0, 6, [some (16 + 2 * k), none, none]) := by
  rcases (show k = 0 ∨ k = 1 ∨ k = 2 ∨ k = 3 by omega) with rfl | rfl | rfl | rfl <;> rfl
theorem sh_tm1 {k : Nat} (hk : k < 4) : tm_tm[16 + 2 * k]? = some (1, 60, []) := by
  rcases (show k = 0 ∨ k = 1 ∨ k = 2 ∨ k = 3 by omega) with rfl | rfl | rfl | rfl <;> rfl
theorem sh_q {k : Nat} (hk : k < 4) : ([some 15, some 17, some 19, some 21] : List (Option Nat))[k]? = some (some (15 + 2 * k)) := by
  rcases (show k = 0 ∨ k = 1 ∨ k = 2 ∨ k = 3 by omega) with rfl | rfl | rfl | rfl <;> rfl

