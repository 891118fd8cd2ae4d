theorem sm_e_bd (p : tm_M) : ∀ (h b : Nat), -1 ≤ sm_e p h b ∧ sm_e p h b < (h : Int) ∨ (sm_e p h b = -1) := by
  intro h
  induction h with
  | zero => intro b; exact Or.inr rfl
  | succ h ih =>
    intro b
    rw [sm_e_s]
    by_cases hN : sm_N p h = true
    · rw [if_pos hN]
      by_cases hb : b = (sm_f p (sm_q p h)).toNat
      · rw [if_pos hb]; left; omega
      · rw [if_neg hb]
        rcases ih b with q | q
        · left; omega
        · right; exact q
    · rw [if_neg hN]
      rcases ih b with q | q
      · left; omega
      · right; exact q
theorem sm_e_40 (p : tm_M) (b : Nat) : -1 ≤ sm_e p 40 b ∧ sm_e p 40 b ≤ 39 := by
  rcases sm_e_bd p 40 b with q | q <;> omega
/-- bits put together -/
theorem tb_pow {k : Nat} (hk : k < 31) : (2 : Int) ^ k ≤ 1073741824 ∧ 1 ≤ (2 : Int) ^ k := by
  have h : ∀ k : Fin 31, (2 : Int) ^ (k : Nat) ≤ 1073741824 ∧ 1 ≤ (2 : Int) ^ (k : Nat) := by decide +kernel
  exact h ⟨k, hk⟩
theorem tb_shl {k : Nat} (hk : k < 31) : Int32.ofInt 1 <<< (Int32.ofInt (k : Int) &&& 31) = Int32.ofInt ((2 : Int) ^ k) := by
  have h : ∀ k : Fin 31, Int32.ofInt 1 <<< (Int32.ofInt ((k : Nat) : Int) &&& 31) = Int32.ofInt ((2 : Int) ^ (k : Nat)) := by decide +kernel
  exact h ⟨k, hk⟩
theorem tb_or {x : Int} {k : Nat} (hk : k < 31) (hx : 0 ≤ x ∧ x < 2 ^ k) : Int32.ofInt x ||| Int32.ofInt ((2 : Int) ^ k) = Int32.ofInt (x + 2 ^ k) := by
  obtain ⟨n, rfl⟩ := Int.eq_ofNat_of_zero_le hx.1
  have hn : n < 2 ^ k := by
    have h2 := hx.2
    rw [show (2 : Int) ^ k = ((2 ^ k : Nat) : Int) by simp] at h2
    exact Int.ofNat_lt.mp h2
  have e2 : (2 : Int) ^ k = ((2 ^ k : Nat) : Int) := by simp
  rw [e2, tb_nI, tb_nI, ← Int.natCast_add, tb_nI]
  have hb := (tb_pow hk).1
  rw [e2] at hb
  have hb2 : 2 ^ k ≤ 1073741824 := by omega
  apply Int32.toBitVec_inj.mp
  apply BitVec.eq_of_toNat_eq
  rw [Int32.toBitVec_or, BitVec.toNat_or, pk_tn (by omega), pk_tn (by omega), pk_tn (by omega)]
  have := Nat.two_pow_add_eq_or_of_lt hn 1
  rw [Nat.mul_one] at this
  rw [Nat.or_comm, ← this, Nat.add_comm]
theorem tb_or0 {x : Int} (hx : 0 ≤ x ∧ x ≤ 2147483647) : Int32.ofInt x ||| Int32.ofInt 0 = Int32.ofInt x := by
  rw [show Int32.ofInt 0 = (0 : Int32) from rfl]
  simp
/-- the bits of those that are so -/
def bi_n (f : Nat → Bool) : Nat → Int
  | 0 => 0
  | n + 1 => bi_n f n + (if f n = true then (2 : Int) ^ n else 0)
theorem bi_bd (f : Nat → Bool) : ∀ n : Nat, 0 ≤ bi_n f n ∧ bi_n f n < 2 ^ n := by
  intro n
  induction n with
  | zero => exact ⟨Int.le_refl _, by show (0 : Int) < 2 ^ 0; decide⟩
  | succ n ih =>
    have hp : (2 : Int) ^ (n + 1) = 2 ^ n + 2 ^ n := by rw [Int.pow_succ]; omega
    rw [hp]
    show 0 ≤ bi_n f n + (if f n = true then (2 : Int) ^ n else 0) ∧ bi_n f n + (if f n = true then (2 : Int) ^ n else 0) < _
    split <;> omega
theorem bi_congr {f g : Nat → Bool} : ∀ n, (∀ k, k < n → f k = g k) → bi_n f n = bi_n g n := by
  intro n
  induction n with
  | zero => intro _; rfl
  | succ n ih =>
    intro h
    show bi_n f n + _ = bi_n g n + _
    rw [ih (fun k hk => h k (by omega)), h n (by omega)]
theorem bi_s (f : Nat → Bool) (n : Nat) : bi_n f (n + 1) = bi_n f n + (if f n = true then (2 : Int) ^ n else 0) := rfl
theorem bi_r (f : Nat → Bool) {n : Nat} (h : n ≤ 30) : 0 ≤ bi_n f n ∧ bi_n f n ≤ 1073741824 := by
  have h1 := bi_bd f n
  have h2 := (tb_pow (k := n) (by omega)).1
  omega
theorem su_s (f : Nat → Int) (n : Nat) : su_n f (n + 1) = su_n f n + f n := rfl
/-- settle leaves the class in its state -/
theorem cl_I_set {μ ν d s : tm_M} (h : cl_I μ d s) (hm : cl_m ν d) (hs : cl_s ν d) (h16 : ν 0 16 = 1) (fo : ∀ a, ¬ (a = 0 ∨ (23 ≤ a ∧ a ≤ 27) ∨ (29 ≤ a ∧ a ≤ 42)) → ν a = μ a) (f0 : ∀ b, b ≠ 16 → ν 0 b = μ 0 b) : cl_I ν d s := by
  obtain ⟨-, hd, c1, c2, c3, c4, c5⟩ := h
  refine ⟨hm, cl_d_same hd (fun a ha => fo a (by omega)) (f0 6 (by omega)), Or.inr h16, fun _ => hs, by rw [f0 17 (by omega)]; exact c3, fun q => ⟨h16, ?_⟩, ?_⟩
  · rw [f0 17 (by omega)] at q
    unfold cl_p
    rw [fo 57 (by omega), fo 60 (by omega)]
    exact (c4 q).2
  · rw [f0 18 (by omega)]
    rcases c5 with q | ⟨q1, q2, q3⟩
    · exact Or.inl q
    · refine Or.inr ⟨q1, h16, ?_⟩
      unfold cl_w
      rw [f0 18 (by omega), fo 72 (by omega)]
      exact q3
/-- the reference's reading and running leave it in its state -/
theorem rf_I_k {μ ν d s : tm_M} (h : rf_I μ d s) (q1 : rf_m ν d) (q : rf_k μ ν) : rf_I ν d s := ⟨q1, rf_d_same h.2 (fun a ha => q.1 a (by omega) (by omega) (by omega) (by omega) (by omega)) (q.2 35 (by omega)) (q.2 44 (by omega))⟩
/-! the answers -/
def sa_z (d : tm_M) (h : Int) : Int := if 0 ≤ h ∧ h ≤ 39 then sp_sea (d 1) (d 0 0).toNat h.toNat else -2
def or_f (d : tm_M) (k : Nat) (w : Int) : Int := if w = 0 then od_g (d 2) k else if w = 1 then od_s (d 2) k else if w = 2 then od_d (d 2) k else od_p (d 2) k
def or_z (d : tm_M) (k w : Int) : Int := if (0 ≤ k ∧ k < (dd_n d : Int)) ∧ (0 ≤ w ∧ w ≤ 3) then or_f d k.toNat w else -2
def at_f (d : tm_M) (h : Nat) (w : Int) : Int := if w = 0 then sm_z (dd_p d) (h + 1) else if w = 1 then sm_t (dd_p d) (h + 1) else if w = 2 then sm_a (dd_p d) h else if w = 3 then sm_d (dd_p d) h else sm_u (dd_p d) h
def at_z (d : tm_M) (h w : Int) : Int := if (0 ≤ h ∧ h ≤ 39) ∧ (0 ≤ w ∧ w ≤ 4) then at_f d h.toNat w else -2
def en_z (d : tm_M) (k : Int) : Int := if 0 ≤ k ∧ k < (dd_n d : Int) then sm_e (dd_p d) 40 k.toNat else -2
def pa_z (d : tm_M) : Int := py_s d (sm_e (dd_p d) 40)
def la_z (d : tm_M) : Int := bi_n (fun k => !(py_b d (sm_e (dd_p d) 40) k)) (dd_n d)
def co_z (d s : tm_M) (w : Int) : Int := if w = 0 then (if sp_tf (d 1) (d 0 0).toNat = -1 then d 0 0 else 0) else if w = 1 then (dd_n d : Int) else if w = 2 then d 0 0 else if w = 3 then d 0 1 else if w = 4 then d 3 0 else if w = 5 then d 3 1 else if w = 6 then sm_t (dd_p d) 40 else if w = 7 then s 0 0 else if w = 8 then s 0 1 else -2
