/-! rains by chance -/
theorem tb_shl2 {x : Int} {k : Nat} (hx : x = (k : Int)) (hk : k < 31) : Int32.ofInt 1 <<< (Int32.ofInt x &&& 31) = Int32.ofInt ((2 : Int) ^ k) := by
  subst hx
  exact tb_shl hk
def sr_u (a n : Int) : Int := ((Int32.ofInt a).toUInt32 >>> ((Int32.ofInt n).toUInt32 &&& Int32.toUInt32 31)).toInt32.toInt
def an_u (a b : Int) : Int := (Int32.ofInt a &&& Int32.ofInt b).toInt
def bc_1 (x : Int) : Int := x - an_u (sr_u x 1) 1431655765
def bc_2 (x : Int) : Int := an_u x 858993459 + an_u (sr_u x 2) 858993459
def bc_3 (x : Int) : Int := an_u (x + sr_u x 4) 252645135
def bc_4 (x : Int) : Int := x + sr_u x 8
def bc_5 (x : Int) : Int := x + sr_u x 16
def bc_n (x : Int) : Int := an_u (bc_5 (bc_4 (bc_3 (bc_2 (bc_1 x))))) 63
theorem bc_eq : ∀ n x : Nat, n ≤ 6 → x < 2 ^ n → bc_n (x : Int) = ct_n (fun k => tb_t (x : Int) k) n := by
  have h : ∀ n : Fin 7, ∀ x : Fin 64, (x : Nat) < 2 ^ (n : Nat) → bc_n ((x : Nat) : Int) = ct_n (fun k => tb_t ((x : Nat) : Int) k) (n : Nat) := by decide +kernel
  intro n x hn hx
  have h64 : x < 64 := Nat.lt_of_lt_of_le hx (Nat.pow_le_pow_right (by omega) hn)
  exact h ⟨n, by omega⟩ ⟨x, h64⟩ hx
theorem tb_cp : ∀ n x k : Nat, n ≤ 6 → x < 2 ^ n → k < n → tb_t ((2 ^ n - 1 - x : Nat) : Int) k = !(tb_t (x : Int) k) := by
  have h : ∀ n : Fin 7, ∀ x : Fin 64, ∀ k : Fin 6, (x : Nat) < 2 ^ (n : Nat) → (k : Nat) < (n : Nat) → tb_t ((2 ^ (n : Nat) - 1 - (x : Nat) : Nat) : Int) (k : Nat) = !(tb_t ((x : Nat) : Int) (k : Nat)) := by decide +kernel
  intro n x k hn hx hk
  have h64 : x < 64 := Nat.lt_of_lt_of_le hx (Nat.pow_le_pow_right (by omega) hn)
  exact h ⟨n, by omega⟩ ⟨x, h64⟩ ⟨k, by omega⟩ hx hk
theorem sw_s1 (c : Int) (x n : Nat) : sw_w c x (n + 1) = sw_w c x n * (if tb_t (x : Int) n = true then c else 16 - c) := rfl
theorem sw_pow (c : Int) (x : Nat) : ∀ n : Nat, sw_w c x n = c ^ (ct_n (fun k => tb_t (x : Int) k) n).toNat * (16 - c) ^ (n - (ct_n (fun k => tb_t (x : Int) k) n).toNat) := by
  intro n
  induction n with
  | zero => show (1 : Int) = c ^ 0 * (16 - c) ^ 0; rw [Int.pow_zero, Int.pow_zero]; rfl
  | succ n ih =>
    have hb := ct_bd (fun k => tb_t (x : Int) k) n
    rw [sw_s1, ct_s, ih]
    by_cases hc : tb_t (x : Int) n = true
    · simp only [hc, if_true]
      rw [show (ct_n (fun k => tb_t (x : Int) k) n + 1).toNat = (ct_n (fun k => tb_t (x : Int) k) n).toNat + 1 by omega, show n + 1 - ((ct_n (fun k => tb_t (x : Int) k) n).toNat + 1) = n - (ct_n (fun k => tb_t (x : Int) k) n).toNat by omega, Int.pow_succ, Int.mul_assoc, Int.mul_assoc, Int.mul_comm c]
    · simp only [hc, if_false, Int.add_zero, Bool.false_eq_true]
      rw [show n + 1 - (ct_n (fun k => tb_t (x : Int) k) n).toNat = (n - (ct_n (fun k => tb_t (x : Int) k) n).toNat) + 1 by omega, Int.pow_succ, Int.mul_assoc]
theorem sw_bd {c : Int} (hc : 0 ≤ c ∧ c ≤ 16) (x : Nat) : ∀ n : Nat, 0 ≤ sw_w c x n ∧ sw_w c x n ≤ 16 ^ n := by
  intro n
  induction n with
  | zero => exact ⟨by show (0 : Int) ≤ 1; omega, Int.le_refl _⟩
  | succ n ih =>
    rw [sw_s1, Int.pow_succ]
    have hf : 0 ≤ (if tb_t (x : Int) n = true then c else 16 - c) ∧ (if tb_t (x : Int) n = true then c else 16 - c) ≤ 16 := by split <;> omega
    exact ⟨Int.mul_nonneg ih.1 hf.1, Int.mul_le_mul ih.2 hf.2 hf.1 (by omega)⟩
theorem sw_bd6 {c : Int} (hc : 0 ≤ c ∧ c ≤ 16) (x : Nat) {n : Nat} (hn : n ≤ 6) : 0 ≤ sw_w c x n ∧ sw_w c x n ≤ 16777216 := by
  have h := sw_bd hc x n
  have h2 : ∀ n : Fin 7, (16 : Int) ^ (n : Nat) ≤ 16777216 := by decide +kernel
  have := h2 ⟨n, by omega⟩
  exact ⟨h.1, Int.le_trans h.2 this⟩
def sw_T (d : tm_M) (c : Int) (k x : Nat) : Int := if py_b d (sm_e (dd_rain d x) 40) k = true then sw_w c x (d 3 0).toNat else 0
theorem sw_sT (d : tm_M) (c : Int) (k N : Nat) : sw_s d c k N = su_n (sw_T d c k) N := rfl
theorem sw_ss (d : tm_M) (c : Int) (k N : Nat) : sw_s d c k (N + 1) = sw_s d c k N + sw_T d c k N := rfl
theorem sw_T_bd {d : tm_M} (hd : dd_ok d) {c : Int} (hc : 0 ≤ c ∧ c ≤ 16) (k x : Nat) : 0 ≤ sw_T d c k x ∧ sw_T d c k x ≤ 16777216 := by
  have z3 := hd.2.2.2.2.1
  have := sw_bd6 hc x (n := (d 3 0).toNat) (by omega)
  unfold sw_T
  split <;> omega
theorem sw_s_bd {d : tm_M} (hd : dd_ok d) {c : Int} (hc : 0 ≤ c ∧ c ≤ 16) (k : Nat) {N : Nat} (hN : N ≤ 64) : 0 ≤ sw_s d c k N ∧ sw_s d c k N ≤ 1073741824 := by
  have h := su_bd (f := sw_T d c k) (c := 16777216) N (fun x _ => sw_T_bd hd hc k x)
  rw [sw_sT]
  omega
theorem su_head (f : Nat → Int) : ∀ n, su_n f (n + 1) = f 0 + su_n (fun k => f (k + 1)) n := by
  intro n
  induction n with
  | zero => show 0 + f 0 = f 0 + 0; omega
  | succ n ih => rw [su_s, ih, su_s]; omega
theorem su_rev (f : Nat → Int) : ∀ n, su_n (fun x => f (n - 1 - x)) n = su_n f n := by
  intro n
  induction n with
  | zero => rfl
  | succ n ih =>
    rw [su_head, su_s, ← ih]
    have e : su_n (fun k => f (n + 1 - 1 - (k + 1))) n = su_n (fun x => f (n - 1 - x)) n := su_congr n (fun k hk => by rw [show n + 1 - 1 - (k + 1) = n - 1 - k by omega])
    rw [e]
    show f (n + 1 - 1 - 0) + _ = _
    rw [show n + 1 - 1 - 0 = n by omega]
    omega
theorem rn_ok {d : tm_M} (hd : dd_ok d) (x : Nat) : sm_ok (dd_rain d x) := by
  obtain ⟨h1, h2, h3, h4, h5, h6, h7, h8, h9, h10⟩ := dd_p_ok hd
  have z3 := hd.2.2.2.2.1
  refine ⟨h1, h2, h3, h4, h5, h6, fun h hh => ?_, h8, h9, h10⟩
  have q := ct_bd (fun k => decide (d 4 k = (h : Int)) && tb_t (x : Int) k) (d 3 0).toNat
  show 0 ≤ ct_n (fun k => decide (d 4 k = (h : Int)) && tb_t (x : Int) k) (d 3 0).toNat ∧ ct_n (fun k => decide (d 4 k = (h : Int)) && tb_t (x : Int) k) (d 3 0).toNat ≤ 10
  omega
theorem rn_o (d : tm_M) (x a : Nat) (h : a ≠ 2) : dd_rain d x a = dd_p d a := by
  funext b
  unfold dd_rain
  rw [if_neg h]
theorem rn_cp {d : tm_M} (hd : dd_ok d) {x : Nat} (hx : x < 2 ^ (d 3 0).toNat) : sm_ag (rn_p d (x : Int)) (dd_rain d (2 ^ (d 3 0).toNat - 1 - x)) := by
  have z3 := hd.2.2.2.2.1
  refine ⟨fun j hj => rfl, fun y hy => ⟨rfl, ?_, rfl⟩, rfl, fun q hq => ⟨rfl, rfl, rfl⟩⟩
  show ct_n (fun j => decide (d 4 j = (y : Int)) && !(tb_t (x : Int) j)) (d 3 0).toNat = ct_n (fun k => decide (d 4 k = (y : Int)) && tb_t ((2 ^ (d 3 0).toNat - 1 - x : Nat) : Int) k) (d 3 0).toNat
  exact ct_congr _ (fun j hj => by rw [tb_cp _ x j (by omega) hx hj])
theorem sw_cp {c : Int} {n x : Nat} (hn : n ≤ 6) (hx : x < 2 ^ n) : ∀ k, k ≤ n → sw_w c (2 ^ n - 1 - x) k = sw_w (16 - c) x k := by
  intro k
  induction k with
  | zero => intro _; rfl
  | succ k ih =>
    intro hk
    rw [sw_s1, sw_s1, ih (by omega), tb_cp n x k hn hx (by omega)]
    congr 1
    by_cases h : tb_t (x : Int) k = true
    · rw [if_neg (by simp [h]), if_pos h]
    · rw [if_pos (by simp [h]), if_neg h]; omega
/-- a fraction by halves -/
def hv_n : Nat → Int → Int × Int
  | 0, t => (t, 1)
  | m + 1, t => if t % 2 = 0 then hv_n m (t / 2) else (t, 2 ^ (m + 1))
theorem hv_s (m : Nat) (t : Int) : hv_n (m + 1) t = if t % 2 = 0 then hv_n m (t / 2) else (t, 2 ^ (m + 1)) := rfl
theorem hv_gcd : ∀ (m t : Nat), hv_n m (t : Int) = (((t / Nat.gcd t (2 ^ m) : Nat) : Int), ((2 ^ m / Nat.gcd t (2 ^ m) : Nat) : Int)) := by
  intro m
  induction m with
  | zero => intro t; show ((t : Int), (1 : Int)) = _; simp
  | succ m ih =>
    intro t
    rw [hv_s]
    by_cases h : (t : Int) % 2 = 0
    · rw [if_pos h]
      obtain ⟨u, hu⟩ : ∃ u, t = 2 * u := ⟨t / 2, by omega⟩
      subst hu
      have e : ((2 * u : Nat) : Int) / 2 = (u : Int) := by omega
      rw [e, ih u]
      have e2 : (2 : Nat) ^ (m + 1) = 2 * 2 ^ m := by rw [Nat.pow_succ]; omega
      rw [e2, Nat.gcd_mul_left, Nat.mul_div_mul_left _ _ (by omega), Nat.mul_div_mul_left _ _ (by omega)]
    · rw [if_neg h]
      have hg : Nat.gcd t (2 ^ (m + 1)) = 1 := by
        have h2 : Nat.Coprime t 2 := by
          unfold Nat.Coprime
          rw [Nat.gcd_comm, Nat.gcd_rec, show t % 2 = 1 by omega]
          exact Nat.gcd_one_left 2
        exact Nat.Coprime.pow_right _ h2
      rw [hg]
      simp
/-- the answer -/
def sr_z (d : tm_M) (c k w : Int) : Int := if ((0 ≤ c ∧ c ≤ 16) ∧ (0 ≤ k ∧ k < (dd_n d : Int))) ∧ (0 ≤ w ∧ w ≤ 1) then (if w = 0 then (hv_n (4 * (d 3 0).toNat) (sw_s d c k.toNat (2 ^ (d 3 0).toNat))).1 else (hv_n (4 * (d 3 0).toNat) (sw_s d c k.toNat (2 ^ (d 3 0).toNat))).2) else -9223372036854775806
theorem ag_rn {ν d p0 : tm_M} {x : Nat} (h : sm_ag (sm_p ν 43) p0) (h0 : ∀ a, a ≠ 2 → p0 a = dd_p d a) : sm_ag (sm_p (tm_rowf ν 46 40 (fun b => ct_n (fun k => decide (d 4 k = (b : Int)) && tb_t (x : Int) k) (d 3 0).toNat)) 43) (dd_rain d x) := by
  have e : sm_p (tm_rowf ν 46 40 (fun b => ct_n (fun k => decide (d 4 k = (b : Int)) && tb_t (x : Int) k) (d 3 0).toNat)) 43 = tm_rowf (sm_p ν 43) 2 40 (fun b => ct_n (fun k => decide (d 4 k = (b : Int)) && tb_t (x : Int) k) (d 3 0).toNat) := sm_p_row ν (c := 2) (by omega) _
  rw [e]
  refine sm_ag_trans (sm_ag_row h (a := 2) (by omega) _) ?_
  refine ⟨fun j hj => ?_, fun y hy => ⟨?_, ?_, ?_⟩, ?_, fun q hq => ?_⟩
  · rw [tm_rowf_k (by decide), h0 0 (by decide)]; rfl
  · rw [tm_rowf_k (by decide), h0 1 (by decide)]; rfl
  · rw [tm_rowf_in hy]; rfl
  · rw [tm_rowf_k (by decide), h0 3 (by decide)]; rfl
  · rw [tm_rowf_k (by decide), h0 5 (by decide)]; rfl
  · rw [tm_rowf_k (by decide), tm_rowf_k (by decide), tm_rowf_k (by decide), h0 4 (by decide), h0 6 (by decide), h0 7 (by decide)]
    exact ⟨rfl, rfl, rfl⟩
theorem tm_cnr_s {μ d : tm_M} {x j n : Nat} (hj : d 4 j = (n : Int)) (hn : n < 40) : tm_up (tm_rowf μ 46 40 (fun b => ct_n (fun k => decide (d 4 k = (b : Int)) && tb_t (x : Int) k) j)) 46 n (ct_n (fun k => decide (d 4 k = (n : Int)) && tb_t (x : Int) k) j + (x : Int) / 2 ^ j % 2) = tm_rowf μ 46 40 (fun b => ct_n (fun k => decide (d 4 k = (b : Int)) && tb_t (x : Int) k) (j + 1)) := by
  funext a b
  by_cases ha : a = 46
  · subst ha
    by_cases hb : b = n
    · subst hb
      rw [tm_us, tm_rowf_in hn, ct_s]
      congr 1
      rw [hj]
      unfold tb_t
      by_cases h : (x : Int) / 2 ^ j % 2 = 1
      · rw [if_pos (by simp [h]), h]
      · rw [if_neg (by simp [h])]; omega
    · rw [tm_uj hb]
      by_cases h4 : b < 40
      · rw [tm_rowf_in h4, tm_rowf_in h4, ct_s, if_neg (by rw [hj]; simp; intro q; omega), Int.add_zero]
      · rw [tm_rowf_out (by omega), tm_rowf_out (by omega)]
  · rw [tm_uk ha, tm_rowf_k ha, tm_rowf_k ha]
/-- the class has weighed the showers -/
theorem cl_I_w {μ ν d s : tm_M} {c : Int} (h : cl_I μ d s) (h16 : μ 0 16 = 1) (hc : 0 ≤ c ∧ c ≤ 16) (e : ∀ a, ¬ (43 ≤ a ∧ a ≤ 56) → a ≠ 72 → a ≠ 0 → ν a = μ a) (e0 : ∀ b, b ≠ 18 → ν 0 b = μ 0 b) (h18 : ν 0 18 = c) (hw : ∀ k, k < dd_n d → ν 72 k = sw_s d c k (2 ^ (d 3 0).toNat)) : cl_I ν d s := by
  obtain ⟨h1, h2, c1, c2, c3, c4, c5⟩ := h
  refine ⟨cl_m_same h1 (fun a ha => e a (by omega) (by omega) (by omega)), cl_d_same h2 (fun a ha => e a (by omega) (by omega) (by omega)) (e0 6 (by omega)), by rw [e0 16 (by omega)]; exact c1, fun q => cl_s_same (c2 h16) (fun a ha => e a (by omega) (by omega) (by omega)), by rw [e0 17 (by omega)]; exact c3, fun q => ?_, Or.inr ⟨by rw [h18]; exact hc, by rw [e0 16 (by omega)]; exact h16, ?_⟩⟩
  · rw [e0 17 (by omega)] at q
    rw [e0 16 (by omega)]
    refine ⟨(c4 q).1, ?_⟩
    unfold cl_p
    rw [e 57 (by omega) (by omega) (by omega), e 60 (by omega) (by omega) (by omega)]
    exact (c4 q).2
  · unfold cl_w
    rw [h18]
    exact hw
