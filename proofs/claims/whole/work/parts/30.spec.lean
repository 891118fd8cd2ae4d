/-! the hour, as numbers -/
def sp_fill (sea z fl rc : Int) : Int := z + (min (max (sea - z) 0) fl + 3 * rc)
def sp_wet (sea z fl rc lk : Int) : Int := max (min (sp_fill sea z fl rc) 20 - lk) 0
def sp_spl (sea z fl rc : Int) : Int := max (sp_fill sea z fl rc - 20) 0
def sp_G (dr g wet sea hd w sh : Int) : Prop := ¬ 0 < dr ∧ ¬ g = -1 ∧ hd + (2 - g) + w / sh ≤ wet - sea
abbrev sp_Gd (dr g wet sea hd w sh : Int) : Decidable (sp_G dr g wet sea hd w sh) := by unfold sp_G; infer_instance
/-- 1 if a sack is ground, else 0 -/
def sp_g (dr g wet sea hd w sh : Int) : Int := if 0 < dr then 0 else if g = -1 then 0 else if hd + (2 - g) + w / sh ≤ wet - sea then 1 else 0
theorem sp_g01 (dr g wet sea hd w sh : Int) : sp_g dr g wet sea hd w sh = 0 ∨ sp_g dr g wet sea hd w sh = 1 := by
  unfold sp_g
  split
  · exact Or.inl rfl
  · split
    · exact Or.inl rfl
    · split
      · exact Or.inr rfl
      · exact Or.inl rfl
/-- a pond's four numbers written anew -/
def tm_pd (μ : tm_M) (P : Nat) (a b c d : Int) : tm_M := tm_up (tm_up (tm_up (tm_up μ P 0 a) P 1 b) P 2 c) P 3 d
theorem tm_pd_0 {μ : tm_M} {P : Nat} {a b c d : Int} : tm_pd μ P a b c d P 0 = a := by simp [tm_pd, tm_up]
theorem tm_pd_1 {μ : tm_M} {P : Nat} {a b c d : Int} : tm_pd μ P a b c d P 1 = b := by simp [tm_pd, tm_up]
theorem tm_pd_2 {μ : tm_M} {P : Nat} {a b c d : Int} : tm_pd μ P a b c d P 2 = c := by simp [tm_pd, tm_up]
theorem tm_pd_3 {μ : tm_M} {P : Nat} {a b c d : Int} : tm_pd μ P a b c d P 3 = d := by simp [tm_pd, tm_up]
theorem tm_pd_f {μ : tm_M} {P x : Nat} {a b c d : Int} (h : x ≠ P) : tm_pd μ P a b c d x = μ x := by
  unfold tm_pd
  rw [tm_uf h, tm_uf h, tm_uf h, tm_uf h]
theorem tm_pd_of {μ μ1 : tm_M} {P : Nat} {a b c d : Int} (h0 : μ1 P 0 = a) (h1 : μ1 P 1 = b) (h2 : μ1 P 2 = c) (h3 : μ1 P 3 = d) (hk : ∀ x, x ≠ P → μ1 x = μ x) (hj : ∀ j, 4 ≤ j → μ1 P j = μ P j) : μ1 = tm_pd μ P a b c d := by
  funext x j
  by_cases hx : x = P
  · subst hx
    match j with
    | 0 => rw [h0, tm_pd_0]
    | 1 => rw [h1, tm_pd_1]
    | 2 => rw [h2, tm_pd_2]
    | 3 => rw [h3, tm_pd_3]
    | j + 4 =>
      rw [hj (j + 4) (by omega)]
      unfold tm_pd
      rw [tm_uj (by omega), tm_uj (by omega), tm_uj (by omega), tm_uj (by omega)]
  · rw [hk x hx, tm_pd_f hx]
