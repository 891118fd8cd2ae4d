theorem sm_l_in {p : tm_M} {h : Nat} (hq : (sm_q p h : Int) < p 5 0) : sm_l p h = p 7 (p 4 (sm_q p h)).toNat - sm_o p h := by unfold sm_l; rw [if_pos hq]
theorem sm_N_l {p : tm_M} {h : Nat} (hp : sm_ok p) (hq : (sm_q p h : Int) < p 5 0) : sm_N p h = true ↔ (sm_G p h = 1 ∧ sm_l p h - 1 = 0) := by
  have hf : sm_f p (sm_q p h) = p 4 (sm_q p h) := by unfold sm_f; rw [if_pos hq]
  rw [sm_N_iff, hf, sm_l_in hq]
  constructor
  · intro q; exact ⟨q.1, by omega⟩
  · intro q; exact ⟨q.1, by omega⟩
theorem sm_l_n {p : tm_M} {h : Nat} (hp : sm_ok p) (hN : ¬ sm_N p h = true) : sm_l p (h + 1) = sm_l p h - sm_G p h := by
  unfold sm_l
  rw [sm_q_s, sm_o_s, if_neg hN, if_neg hN]
  by_cases hq : (sm_q p h : Int) < p 5 0
  · rw [if_pos hq, if_pos hq]; omega
  · rw [if_neg hq, if_neg hq]
    have hG := sm_G01 p h
    have := fun q => (sm_G_1 (h := h) hp q).2
    omega
theorem sm_l_y {p : tm_M} {h : Nat} (hN : sm_N p h = true) : sm_l p (h + 1) = if (sm_q p h : Int) + 1 < p 5 0 then p 7 (p 4 (sm_q p h + 1)).toNat else 0 := by
  unfold sm_l
  rw [sm_q_s, sm_o_s, if_pos hN, if_pos hN]
  by_cases hq : (sm_q p h : Int) + 1 < p 5 0
  · rw [if_pos (by omega), if_pos hq]; omega
  · rw [if_neg (by omega), if_neg hq]
theorem sm_G_d {p : tm_M} {h : Nat} (hd : 0 < p 3 h) : sm_G p h = 0 := by unfold sm_G sm_gr sp_g; rw [if_pos hd]
theorem sm_G_n {p : tm_M} {h : Nat} (hq : p 5 0 ≤ (sm_q p h : Int)) : sm_G p h = 0 := by
  have hf : sm_f p (sm_q p h) = -1 := by unfold sm_f; rw [if_neg (by omega)]
  have hg : sm_g p (sm_q p h) = -1 := by unfold sm_g; rw [if_pos hf]
  unfold sm_G sm_gr sp_g
  by_cases hd : 0 < p 3 h
  · rw [if_pos hd]
  · rw [if_neg hd, if_pos hg]
theorem sm_G_eq {p : tm_M} {h : Nat} (hp : sm_ok p) (hd : ¬ 0 < p 3 h) (hq : (sm_q p h : Int) < p 5 0) : sm_G p h = if p 0 3 + (2 - p 6 (p 4 (sm_q p h)).toNat) + sm_w p h / p 0 4 ≤ sm_wet p h (sm_z p h) - p 1 h then 1 else 0 := by
  have hf : sm_f p (sm_q p h) = p 4 (sm_q p h) := by unfold sm_f; rw [if_pos hq]
  have h4 := hp.2.2.2.2.2.2.2.2.2 (sm_q p h) hq
  have hg : sm_g p (sm_q p h) = p 6 (p 4 (sm_q p h)).toNat := by unfold sm_g; rw [hf, if_neg (by omega)]
  unfold sm_G sm_gr sp_g
  rw [if_neg hd, hg, if_neg (by omega)]
theorem sm_l_bd {p : tm_M} (hp : sm_ok p) : ∀ h, h ≤ 40 → -100 ≤ sm_l p h ∧ sm_l p h ≤ 9 := by
  intro h hh
  have h1 := (sm_bd hp h hh).2.2.2.2.2.2
  unfold sm_l
  split
  · rename_i hq
    have h2 := (hp.2.2.2.2.2.2.2.2.2 (sm_q p h) hq).2.2
    omega
  · omega
theorem tm_f74 {μ μ1 : tm_M} {a b c d e f g : Int} (h1 : μ1 74 21 = a) (h2 : μ1 74 22 = b) (h3 : μ1 74 23 = c) (h4 : μ1 74 24 = d) (h5 : μ1 74 25 = e) (h6 : μ1 74 26 = f) (h7 : μ1 74 27 = g) (ho : ∀ x, (x < 21 ∨ 27 < x) → μ1 74 x = μ 74 x) (x : Nat) :
    μ1 74 x = if x = 21 then a else if x = 22 then b else if x = 23 then c else if x = 24 then d else if x = 25 then e else if x = 26 then f else if x = 27 then g else μ 74 x := by
  by_cases hx : x < 21 ∨ 27 < x
  · rw [ho x hx, if_neg (by omega), if_neg (by omega), if_neg (by omega), if_neg (by omega), if_neg (by omega), if_neg (by omega), if_neg (by omega)]
  · rcases (show x = 21 ∨ x = 22 ∨ x = 23 ∨ x = 24 ∨ x = 25 ∨ x = 26 ∨ x = 27 by omega) with rfl | rfl | rfl | rfl | rfl | rfl | rfl
    · rw [h1]; rfl
    · rw [h2]; rfl
    · rw [h3]; rfl
    · rw [h4]; rfl
    · rw [h5]; rfl
    · rw [h6]; rfl
    · rw [h7]; rfl
/-- a row written at h, and once more there -/
theorem tm_row_t {f g o : Nat → Int} {h : Nat} {v w : Int} (hf : ∀ b, f b = if b < h then g b else o b) (hv : v = g h) (b : Nat) : (if b = h then v else if b = h then w else f b) = if b < h + 1 then g b else o b := by
  by_cases hb : b = h
  · subst hb
    rw [if_pos rfl, if_pos (by omega), hv]
  · rw [if_neg hb, if_neg hb, hf]
    by_cases h2 : b < h
    · rw [if_pos h2, if_pos (by omega)]
    · rw [if_neg h2, if_neg (by omega)]
