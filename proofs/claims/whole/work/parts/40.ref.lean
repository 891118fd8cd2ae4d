/-! bits, counts, and the reference's run -/
def tb_t (x : Int) (k : Nat) : Bool := decide (x / 2 ^ k % 2 = 1)
theorem tb_nI (n : Nat) : Int32.ofInt (n : Int) = nI n := Int32.ofInt_eq_ofNat
theorem tb_sl : ∀ n, n < 32 → ((nI n &&& 31).toBitVec.smod 32).toNat = n := by decide +kernel
theorem tb_shr {x : Int} {k : Nat} (hx : 0 ≤ x ∧ x ≤ 2147483647) (hk : k < 32) : Int32.ofInt x >>> (Int32.ofInt (k : Int) &&& 31) = Int32.ofInt (x / 2 ^ k) := by
  obtain ⟨n, rfl⟩ := Int.eq_ofNat_of_zero_le hx.1
  rw [tb_nI, tb_nI, pk_shrN (by omega) (nI k &&& 31) k (tb_sl k hk), ← tb_nI]
  congr 1
theorem tb_and1 {x : Int} (hx : 0 ≤ x ∧ x ≤ 2147483647) : Int32.ofInt x &&& Int32.ofInt 1 = Int32.ofInt (x % 2) := by
  obtain ⟨n, rfl⟩ := Int.eq_ofNat_of_zero_le hx.1
  rw [tb_nI, show Int32.ofInt 1 = (1 : Int32) from rfl, pk_andN (by omega) 1 rfl, ← tb_nI]
  congr 1
/-- how many of the first n are so -/
def ct_n (f : Nat → Bool) : Nat → Int
  | 0 => 0
  | n + 1 => ct_n f n + (if f n = true then 1 else 0)
theorem ct_bd (f : Nat → Bool) : ∀ n, 0 ≤ ct_n f n ∧ ct_n f n ≤ n := by
  intro n
  induction n with
  | zero => exact ⟨Int.le_refl _, Int.le_refl _⟩
  | succ n ih =>
    show 0 ≤ ct_n f n + _ ∧ ct_n f n + _ ≤ _
    split <;> omega
theorem ct_congr {f g : Nat → Bool} : ∀ n, (∀ k, k < n → f k = g k) → ct_n f n = ct_n g n := by
  intro n
  induction n with
  | zero => intro _; rfl
  | succ n ih =>
    intro h
    show ct_n f n + _ = ct_n g n + _
    rw [ih (fun k hk => h k (by omega)), h n (by omega)]
def rm_c (μ : tm_M) (h n : Nat) : Int := ct_n (fun k => decide (μ 83 k = (h : Int)) && !(tb_t (μ 74 15) k)) n
def rm_dc (μ : tm_M) (h n : Nat) : Int := ct_n (fun k => decide (μ 84 k = (h : Int))) n
def rm_p (μ : tm_M) : tm_M := fun a b => match a with
  | 0 => (match b with | 0 => μ 74 19 | 1 => μ 74 20 | _ => μ 82 b)
  | 1 => μ 85 b
  | 2 => rm_c μ b (μ 74 10).toNat
  | 3 => rm_dc μ b (μ 74 16).toNat
  | 4 => μ 86 b
  | 5 => μ 74 17
  | 6 => μ 78 b
  | _ => μ 79 b
def rm_ok (μ : tm_M) : Prop := sm_ok (rm_p μ) ∧ (0 ≤ μ 74 10 ∧ μ 74 10 ≤ 6) ∧ (0 ≤ μ 74 15 ∧ μ 74 15 ≤ 1000) ∧ (0 ≤ μ 74 16 ∧ μ 74 16 ≤ 7) ∧ (∀ k : Nat, (k : Int) < μ 74 10 → 0 ≤ μ 83 k ∧ μ 83 k ≤ 39) ∧ (∀ k : Nat, (k : Int) < μ 74 16 → 0 ≤ μ 84 k ∧ μ 84 k ≤ 39)
/-- what is left of the order at the stones -/
def sm_l (p : tm_M) (h : Nat) : Int := if (sm_q p h : Int) < p 5 0 then p 7 (p 4 (sm_q p h)).toNat - sm_o p h else 0
/-- the memory behind h hours of the reference's run -/
def tm_rr (μ p : tm_M) (h : Nat) : tm_M := fun a b =>
  if a = 74 then (if b = 21 then sm_z p h else if b = 22 then sm_w p h else if b = 23 then sm_t p h else if b = 24 then sm_s p h else if b = 25 then sm_i p h else if b = 26 then (sm_q p h : Int) else if b = 27 then sm_l p h else μ a b)
  else if a = 87 then (if b < h then sm_z p (b + 1) else μ a b)
  else if a = 88 then (if b < h then sm_t p (b + 1) else μ a b)
  else if a = 89 then (if b < h then sm_a p b else μ a b)
  else if a = 90 then (if b < h then sm_d p b else μ a b)
  else if a = 91 then (if b < h then sm_u p b else μ a b)
  else if a = 92 then (if b < 8 then sm_e p h b else μ a b)
  else μ a b
theorem tm_rr_o {μ p : tm_M} {h a : Nat} (ha : a ≠ 74 ∧ (a < 87 ∨ 92 < a)) : tm_rr μ p h a = μ a := by
  funext b
  unfold tm_rr
  rw [if_neg (by omega), if_neg (by omega), if_neg (by omega), if_neg (by omega), if_neg (by omega), if_neg (by omega), if_neg (by omega)]
theorem tm_rr_f {μ p : tm_M} {h : Nat} (b : Nat) : tm_rr μ p h 74 b = if b = 21 then sm_z p h else if b = 22 then sm_w p h else if b = 23 then sm_t p h else if b = 24 then sm_s p h else if b = 25 then sm_i p h else if b = 26 then (sm_q p h : Int) else if b = 27 then sm_l p h else μ 74 b := by simp [tm_rr]
theorem tm_rr_g {μ p : tm_M} {h b : Nat} (hb : b < 21 ∨ 27 < b) : tm_rr μ p h 74 b = μ 74 b := by
  rw [tm_rr_f, if_neg (by omega), if_neg (by omega), if_neg (by omega), if_neg (by omega), if_neg (by omega), if_neg (by omega), if_neg (by omega)]
theorem tm_rr_87 {μ p : tm_M} {h : Nat} (b : Nat) : tm_rr μ p h 87 b = if b < h then sm_z p (b + 1) else μ 87 b := by simp [tm_rr]
theorem tm_rr_88 {μ p : tm_M} {h : Nat} (b : Nat) : tm_rr μ p h 88 b = if b < h then sm_t p (b + 1) else μ 88 b := by simp [tm_rr]
theorem tm_rr_89 {μ p : tm_M} {h : Nat} (b : Nat) : tm_rr μ p h 89 b = if b < h then sm_a p b else μ 89 b := by simp [tm_rr]
theorem tm_rr_90 {μ p : tm_M} {h : Nat} (b : Nat) : tm_rr μ p h 90 b = if b < h then sm_d p b else μ 90 b := by simp [tm_rr]
theorem tm_rr_91 {μ p : tm_M} {h : Nat} (b : Nat) : tm_rr μ p h 91 b = if b < h then sm_u p b else μ 91 b := by simp [tm_rr]
theorem tm_rr_92 {μ p : tm_M} {h : Nat} (b : Nat) : tm_rr μ p h 92 b = if b < 8 then sm_e p h b else μ 92 b := by simp [tm_rr]
theorem tm_rr_c {μ p : tm_M} {h : Nat} (b n : Nat) : rm_c (tm_rr μ p h) b n = rm_c μ b n := by
  unfold rm_c
  rw [tm_rr_o (a := 83) (by omega), tm_rr_g (b := 15) (by omega)]
theorem tm_rr_dc {μ p : tm_M} {h : Nat} (b n : Nat) : rm_dc (tm_rr μ p h) b n = rm_dc μ b n := by
  unfold rm_dc
  rw [tm_rr_o (a := 84) (by omega)]
theorem tm_rr_eq {μ p μ1 : tm_M} {h : Nat} (h0 : ∀ b, μ1 74 b = if b = 21 then sm_z p h else if b = 22 then sm_w p h else if b = 23 then sm_t p h else if b = 24 then sm_s p h else if b = 25 then sm_i p h else if b = 26 then (sm_q p h : Int) else if b = 27 then sm_l p h else μ 74 b)
    (h1 : ∀ b, μ1 87 b = if b < h then sm_z p (b + 1) else μ 87 b) (h2 : ∀ b, μ1 88 b = if b < h then sm_t p (b + 1) else μ 88 b) (h3 : ∀ b, μ1 89 b = if b < h then sm_a p b else μ 89 b)
    (h4 : ∀ b, μ1 90 b = if b < h then sm_d p b else μ 90 b) (h5 : ∀ b, μ1 91 b = if b < h then sm_u p b else μ 91 b) (h6 : ∀ b, μ1 92 b = if b < 8 then sm_e p h b else μ 92 b)
    (ho : ∀ a, (a ≠ 74 ∧ (a < 87 ∨ 92 < a)) → μ1 a = μ a) : μ1 = tm_rr μ p h := by
  funext a b
  by_cases ha : a ≠ 74 ∧ (a < 87 ∨ 92 < a)
  · rw [tm_rr_o ha, ho a ha]
  · rcases (show a = 74 ∨ a = 87 ∨ a = 88 ∨ a = 89 ∨ a = 90 ∨ a = 91 ∨ a = 92 by omega) with e | e | e | e | e | e | e <;> subst e
    · rw [h0, tm_rr_f]
    · rw [h1, tm_rr_87]
    · rw [h2, tm_rr_88]
    · rw [h3, tm_rr_89]
    · rw [h4, tm_rr_90]
    · rw [h5, tm_rr_91]
    · rw [h6, tm_rr_92]
theorem tm_uu {μ : tm_M} {k j : Nat} {y z : Int} : tm_up (tm_up μ k j y) k j z = tm_up μ k j z := by
  funext a b
  unfold tm_up
  by_cases ha : a = k
  · by_cases hb : b = j
    · simp [ha, hb]
    · simp [ha, hb]
  · simp [ha]
theorem tm_uc {μ : tm_M} {k j k1 j1 : Nat} {y z : Int} (h : k1 ≠ k ∨ j1 ≠ j) : tm_up (tm_up μ k1 j1 y) k j z = tm_up (tm_up μ k j z) k1 j1 y := by
  funext a b
  unfold tm_up
  by_cases ha : a = k
  · by_cases hb : b = j
    · have : ¬ (k = k1 ∧ j = j1) := by omega
      by_cases h1 : k = k1
      · have h2 : ¬ j = j1 := fun e => this ⟨h1, e⟩
        simp [ha, hb, h1, h2]
      · simp [ha, hb, h1]
    · simp [ha, hb]
  · simp [ha]
theorem tm_cg {μ ν : tm_M} {k j : Nat} {a b : Int} (h : μ = ν) (e : a = b) : tm_up μ k j a = tm_up ν k j b := by rw [h, e]
