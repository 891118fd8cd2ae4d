theorem tm_obj_s {f o : Nat → Int} {y v v1 : Int} (hf : ∀ b, f b = if b = 7 then y else o b) (hv : v = v1) (b : Nat) : (if b = 7 then v else f b) = if b = 7 then v1 else o b := by
  by_cases hb : b = 7
  · rw [if_pos hb, if_pos hb, hv]
  · rw [if_neg hb, if_neg hb, hf, if_neg hb]
theorem tm_rn_i0 {μ p : tm_M} {r h : Nat} (b : Nat) : tm_rn μ p r h r b = if b = 7 then sm_i p h else μ r b := by simp [tm_rn]
theorem tm_pd_b {μ : tm_M} {P : Nat} {a b c d : Int} (x : Nat) : tm_pd μ P a b c d P x = if x = 0 then a else if x = 1 then b else if x = 2 then c else if x = 3 then d else μ P x := by
  match x with
  | 0 => rw [tm_pd_0]; rfl
  | 1 => rw [tm_pd_1]; rfl
  | 2 => rw [tm_pd_2]; rfl
  | 3 => rw [tm_pd_3]; rfl
  | j + 4 =>
    unfold tm_pd
    rw [tm_uj (by omega), tm_uj (by omega), tm_uj (by omega), tm_uj (by omega)]
    rw [if_neg (by omega), if_neg (by omega), if_neg (by omega), if_neg (by omega)]
theorem tm_rn_pd {μ p : tm_M} {r h : Nat} {z w s : Int} (b : Nat) : tm_pd (tm_rn μ p r h) (r + 1) ((h : Int) + 1) z w s (r + 1) b = if b = 0 then ((h + 1 : Nat) : Int) else if b = 1 then z else if b = 2 then w else if b = 3 then s else μ (r + 1) b := by
  rw [tm_pd_b, tm_rn_p]
  match b with
  | 0 => rfl
  | 1 => rfl
  | 2 => rfl
  | 3 => rfl
  | j + 4 => rfl
theorem tm_end_s {p : tm_M} {f o : Nat → Int} {h : Nat} {x : Int} {j : Nat} (hf : ∀ b, f b = if b < 8 then sm_e p h b else o b) (hN : sm_N p h = true) (hx : x = h) (hj : j = (sm_f p (sm_q p h)).toNat) (h8 : j < 8) (b : Nat) : (if b = j then x else f b) = if b < 8 then sm_e p (h + 1) b else o b := by
  rw [sm_e_s, if_pos hN, hf, ← hj]
  by_cases hb : b = j
  · subst hb
    rw [if_pos rfl, if_pos h8, if_pos rfl, hx]
  · rw [if_neg hb, if_neg hb]
theorem tm_end_n {p : tm_M} {f o : Nat → Int} {h : Nat} (hf : ∀ b, f b = if b < 8 then sm_e p h b else o b) (hN : ¬ sm_N p h = true) (b : Nat) : f b = if b < 8 then sm_e p (h + 1) b else o b := by
  rw [sm_e_s, if_neg hN, hf]
theorem tm_rn_0 {μ p : tm_M} {r : Nat} : tm_pd (tm_up (tm_fill μ (r + 7) 8 (-1)) r 7 0) (r + 1) 0 (p 0 0) 0 0 = tm_rn μ p r 0 := by
  funext a b
  by_cases ha : a = r + 1
  · subst ha
    rw [tm_pd_b, tm_rn_p, tm_uk (by omega), tm_fill_k (by omega)]
    rfl
  · rw [tm_pd_f ha]
    by_cases h0 : a = r
    · subst h0
      rw [tm_ua, tm_rn_i0, tm_fill_k (by omega)]
      rfl
    · rw [tm_uk h0]
      by_cases h7 : a = r + 7
      · subst h7
        rw [tm_rn_7]
        by_cases hb : b < 8
        · rw [tm_fill_in hb, if_pos hb]; rfl
        · rw [tm_fill_out (by omega), if_neg hb]
      · rw [tm_fill_k h7]
        unfold tm_rn
        simp only [h0, ha, h7, if_false, Nat.not_lt_zero]
        split <;> first | rfl | (split <;> first | rfl | (split <;> first | rfl | (split <;> first | rfl | (split <;> rfl))))
