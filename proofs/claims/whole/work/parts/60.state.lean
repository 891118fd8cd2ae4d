/-! sums, who pays, rows, showers: what is asked of the data -/
def su_n (f : Nat → Int) : Nat → Int
  | 0 => 0
  | n + 1 => su_n f n + f n
theorem su_congr {f g : Nat → Int} : ∀ n, (∀ k, k < n → f k = g k) → su_n f n = su_n g n := by
  intro n
  induction n with
  | zero => intro _; rfl
  | succ n ih =>
    intro h
    show su_n f n + f n = su_n g n + g n
    rw [ih (fun k hk => h k (by omega)), h n (by omega)]
theorem su_bd {f : Nat → Int} {c : Int} : ∀ n : Nat, (∀ k, k < n → 0 ≤ f k ∧ f k ≤ c) → 0 ≤ su_n f n ∧ su_n f n ≤ n * c := by
  intro n
  induction n with
  | zero => intro _; exact ⟨Int.le_refl _, by show (0 : Int) ≤ 0 * c; omega⟩
  | succ n ih =>
    intro h
    have h1 := ih (fun k hk => h k (by omega))
    have h2 := h n (by omega)
    have e : ((n + 1 : Nat) : Int) * c = n * c + c := by rw [Int.natCast_add, Int.add_mul]; omega
    show 0 ≤ su_n f n + f n ∧ su_n f n + f n ≤ _
    rw [e]
    omega
def py_b (d : tm_M) (e : Nat → Int) (k : Nat) : Bool := decide (¬ e k = -1 ∧ e k ≤ od_d (d 2) k)
def py_s (d : tm_M) (e : Nat → Int) : Int := su_n (fun k => if py_b d e k = true then od_p (d 2) k else 0) (dd_n d)
theorem py_s_bd {d : tm_M} (hd : dd_ok d) (e : Nat → Int) : 0 ≤ py_s d e ∧ py_s d e ≤ 72 := by
  have h8 : dd_n d ≤ 8 := sp_no_bd _ (by have q := hd.2.1; omega)
  have h := su_bd (f := fun k => if py_b d e k = true then od_p (d 2) k else 0) (c := 9) (dd_n d) (fun k hk => by
    have hb := (od_bd (f := d 2) (n := (d 0 1).toNat) (k := k) hk).2.2.2
    split <;> omega)
  unfold py_s
  omega
/-- the data's parameters with another row, other rains -/
def dd_row (d : tm_M) (w : Nat → Int) : tm_M := fun a b => if a = 4 then w b else dd_p d a b
def rw_pm (n : Nat) (w : Nat → Int) : Prop := (∀ j, j < n → 0 ≤ w j ∧ w j < n) ∧ (∀ i j, i < n → j < n → w i = w j → i = j)
def rw_lt (n : Nat) (v w : Nat → Int) : Prop := ∃ i, i < n ∧ (∀ j, j < i → v j = w j) ∧ v i < w i
def rw_p (d : tm_M) (w : Nat → Int) : Int := py_s d (sm_e (dd_row d w) 40)
/-- w is the first of the rows that pay most, which is m -/
def rw_b (d : tm_M) (m : Int) (w : Nat → Int) : Prop := rw_pm (dd_n d) w ∧ rw_p d w = m ∧ (∀ v, rw_pm (dd_n d) v → rw_p d v ≤ m) ∧ (∀ v, rw_pm (dd_n d) v → rw_lt (dd_n d) v w → rw_p d v < m)
theorem rw_eq_or (n : Nat) (v w : Nat → Int) : (∀ j, j < n → v j = w j) ∨ rw_lt n v w ∨ rw_lt n w v := by
  induction n with
  | zero => exact Or.inl (fun j hj => by omega)
  | succ n ih =>
    rcases ih with h | ⟨i, h1, h2, h3⟩ | ⟨i, h1, h2, h3⟩
    · rcases Int.lt_trichotomy (v n) (w n) with q | q | q
      · exact Or.inr (Or.inl ⟨n, by omega, h, q⟩)
      · left
        intro j hj
        by_cases hjn : j = n
        · rw [hjn]; exact q
        · exact h j (by omega)
      · exact Or.inr (Or.inr ⟨n, by omega, fun j hj => (h j hj).symm, q⟩)
    · exact Or.inr (Or.inl ⟨i, by omega, h2, h3⟩)
    · exact Or.inr (Or.inr ⟨i, by omega, h2, h3⟩)
theorem rw_b_uni {d : tm_M} {m m1 : Int} {w w1 : Nat → Int} (h : rw_b d m w) (h1 : rw_b d m1 w1) : m = m1 ∧ ∀ j, j < dd_n d → w j = w1 j := by
  obtain ⟨a1, a2, a3, a4⟩ := h
  obtain ⟨b1, b2, b3, b4⟩ := h1
  have e1 := a3 w1 b1
  have e2 := b3 w a1
  have em : m = m1 := by omega
  refine ⟨em, ?_⟩
  rcases rw_eq_or (dd_n d) w w1 with q | q | q
  · exact q
  · have := b4 w a1 q; omega
  · have := a4 w1 b1 q; omega
/-- the weight of a set of rains; what an order is paid in, weighed, over all sets -/
def sw_w (c : Int) (x : Nat) : Nat → Int
  | 0 => 1
  | n + 1 => sw_w c x n * (if tb_t (x : Int) n = true then c else 16 - c)
def dd_rain (d : tm_M) (x : Nat) : tm_M := fun a b => if a = 2 then ct_n (fun k => decide (d 4 k = (b : Int)) && tb_t (x : Int) k) (d 3 0).toNat else dd_p d a b
def sw_s (d : tm_M) (c : Int) (k : Nat) (N : Nat) : Int := su_n (fun x => if py_b d (sm_e (dd_rain d x) 40) k = true then sw_w c x (d 3 0).toNat else 0) N
/-! the class's caches -/
def cl_p (μ d : tm_M) : Prop := 0 < dd_n d ∧ rw_b d (μ 57 5) (μ 60)
def cl_w (μ d : tm_M) : Prop := ∀ k, k < dd_n d → μ 72 k = sw_s d (μ 0 18) k (2 ^ (d 3 0).toNat)
def cl_c (μ d : tm_M) : Prop := (μ 0 16 = 0 ∨ μ 0 16 = 1) ∧ (μ 0 16 = 1 → cl_s μ d) ∧ (μ 0 17 = 0 ∨ μ 0 17 = 1) ∧ (μ 0 17 = 1 → μ 0 16 = 1 ∧ cl_p μ d) ∧ (μ 0 18 = -1 ∨ ((0 ≤ μ 0 18 ∧ μ 0 18 ≤ 16) ∧ μ 0 16 = 1 ∧ cl_w μ d))
/-! what is seen, the sheets, the finding. s: 0 how many are seen, the finding; 1 their hours, 2 their highs; 3 whether a sheet is there, 4 its form, 5 its size, 6 on its items -/
def ss_ok (s : tm_M) : Prop := (0 ≤ s 0 0 ∧ s 0 0 ≤ 8) ∧ (0 ≤ s 0 1 ∧ s 0 1 ≤ 5) ∧ (∀ j : Nat, (j : Int) < s 0 0 → (0 ≤ s 1 j ∧ s 1 j ≤ 39) ∧ (0 ≤ s 2 j ∧ s 2 j ≤ 20)) ∧ (∀ k, k < 4 → (s 3 k = 0 ∨ s 3 k = 1) ∧ (s 3 k = 1 → (0 ≤ s 4 k ∧ s 4 k ≤ 2) ∧ (0 ≤ s 5 k ∧ s 5 k ≤ 60) ∧ ∀ j, j < 60 → -2147483648 ≤ s (6 + k) j ∧ s (6 + k) j ≤ 2147483647))
def cl_d (μ s : tm_M) : Prop := μ 10 1 = s 0 0 ∧ μ 12 1 = s 0 0 ∧ (∀ j : Nat, (j : Int) < s 0 0 → μ 11 j = s 1 j ∧ μ 13 j = s 2 j) ∧ μ 0 6 = s 0 1 ∧ (∀ k, k < 4 → (s 3 k = 1 → μ (15 + 2 * k) 1 = s 4 k ∧ μ (15 + 2 * k) 2 = s 5 k ∧ ∀ j, j < 60 → μ (16 + 2 * k) j = s (6 + k) j) ∧ (s 3 k = 0 → μ (15 + 2 * k) 1 = -1))
def rf_d (μ s : tm_M) : Prop := μ 74 35 = s 0 0 ∧ (∀ j : Nat, (j : Int) < s 0 0 → μ 94 j = s 1 j ∧ μ 95 j = s 2 j) ∧ μ 74 44 = s 0 1 ∧ (∀ k, k < 4 → μ 97 k = s 3 k ∧ (s 3 k = 1 → μ 98 k = s 4 k ∧ μ 99 k = s 5 k ∧ ∀ j, j < 60 → μ 100 (60 * k + j) = s (6 + k) j))
/-- the class is in the state d, s; the reference is -/
def cl_I (μ d s : tm_M) : Prop := cl_m μ d ∧ cl_d μ s ∧ cl_c μ d
def rf_I (μ d s : tm_M) : Prop := rf_m μ d ∧ rf_d μ s
theorem cl_d_same {μ ν s : tm_M} (h : cl_d μ s) (e : ∀ a, 10 ≤ a ∧ a ≤ 22 → ν a = μ a) (e0 : ν 0 6 = μ 0 6) : cl_d ν s := by
  obtain ⟨h1, h2, h3, h4, h5⟩ := h
  refine ⟨by rw [e 10 (by omega)]; exact h1, by rw [e 12 (by omega)]; exact h2, by rw [e 11 (by omega), e 13 (by omega)]; exact h3, by rw [e0]; exact h4, fun k hk => ?_⟩
  rw [e (15 + 2 * k) (by omega), e (16 + 2 * k) (by omega)]
  exact h5 k hk
theorem rf_d_same {μ ν s : tm_M} (h : rf_d μ s) (e : ∀ a, a = 94 ∨ a = 95 ∨ (97 ≤ a ∧ a ≤ 100) → ν a = μ a) (e0 : ν 74 35 = μ 74 35) (e4 : ν 74 44 = μ 74 44) : rf_d ν s := by
  obtain ⟨h1, h2, h3, h4⟩ := h
  exact ⟨by rw [e0]; exact h1, by rw [e 94 (by omega), e 95 (by omega)]; exact h2, by rw [e4]; exact h3, by rw [e 97 (by omega), e 98 (by omega), e 99 (by omega), e 100 (by omega)]; exact h4⟩
theorem cl_I_frame {μ ν d s : tm_M} (h : cl_I μ d s) (e : ∀ a, a < 74 → ν a = μ a) : cl_I ν d s := by
  obtain ⟨h1, h2, h3⟩ := h
  refine ⟨cl_m_same h1 (fun a ha => e a (by omega)), cl_d_same h2 (fun a ha => e a (by omega)) (by rw [e 0 (by omega)]), ?_⟩
  obtain ⟨c1, c2, c3, c4, c5⟩ := h3
  have e0 := e 0 (by omega)
  refine ⟨by rw [e0]; exact c1, fun q => cl_s_same (c2 (by rw [e0] at q; exact q)) (fun a ha => e a (by omega)), by rw [e0]; exact c3, fun q => ?_, ?_⟩
  · rw [e0] at q ⊢
    refine ⟨(c4 q).1, ?_⟩
    unfold cl_p
    rw [e 57 (by omega), e 60 (by omega)]
    exact (c4 q).2
  · rw [e0]
    rcases c5 with q | ⟨q1, q2, q3⟩
    · exact Or.inl q
    · refine Or.inr ⟨q1, q2, ?_⟩
      unfold cl_w
      rw [e0, e 72 (by omega)]
      exact q3
theorem rf_I_frame {μ ν d s : tm_M} (h : rf_I μ d s) (e : ∀ a, 74 ≤ a → ν a = μ a) : rf_I ν d s := by
  obtain ⟨h1, h2⟩ := h
  exact ⟨rf_m_same h1 (fun a ha => e a (by omega)) (by rw [e 74 (by omega)]) (by rw [e 74 (by omega)]), rf_d_same h2 (fun a ha => e a (by omega)) (by rw [e 74 (by omega)]) (by rw [e 74 (by omega)])⟩
/-- what a change leaves of the caches -/
abbrev tm_ch (μ : tm_M) : tm_M := tm_up (tm_up (tm_up μ 0 16 0) 0 17 0) 0 18 (-1)
theorem tm_ch_f {μ : tm_M} {a : Nat} (h : a ≠ 0) : tm_ch μ a = μ a := by unfold tm_ch; rw [tm_uf h, tm_uf h, tm_uf h]
theorem cl_c_ch (μ d : tm_M) : cl_c (tm_ch μ) d := by
  have e1 : tm_ch μ 0 16 = 0 := by unfold tm_ch; rw [tm_uj (by decide), tm_uj (by decide), tm_us]
  have e2 : tm_ch μ 0 17 = 0 := by unfold tm_ch; rw [tm_uj (by decide), tm_us]
  have e3 : tm_ch μ 0 18 = -1 := tm_us
  exact ⟨Or.inl e1, fun q => by rw [e1] at q; omega, Or.inl e2, fun q => by rw [e2] at q; omega, Or.inl e3⟩
/-! data that grows and shrinks -/
def dT_p (d : tm_M) (t : Nat) (b : Int) : tm_M := tm_up (tm_up d (1 + t) (d 0 t).toNat b) 0 t (d 0 t + 1)
def dR_p (d : tm_M) (w : Nat) (h : Int) : tm_M := tm_up (tm_up d (4 + w) (d 3 w).toNat h) 3 w (d 3 w + 1)
theorem ag_p {f g f1 g1 : Nat → Int} {n n1 b : Int} (h : ∀ j : Nat, (j : Int) < n → f j = g j) (h0 : 0 ≤ n) (hn : n1 = n + 1) (ef : ∀ j, f1 j = if j = n.toNat then b else f j) (eg : ∀ j, g1 j = if j = n.toNat then b else g j) : ∀ j : Nat, (j : Int) < n1 → f1 j = g1 j := by
  intro j hj
  rw [ef, eg]
  by_cases hc : j = n.toNat
  · rw [if_pos hc, if_pos hc]
  · rw [if_neg hc, if_neg hc]
    exact h j (by omega)
