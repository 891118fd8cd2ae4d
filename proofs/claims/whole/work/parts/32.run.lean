/-! a run of hours, as numbers. p: 0 the dials, 1 the sea, 2 rains by hours, 3 dressings by hours, 4 the row, 5 its length, 6 grains, 7 sacks -/
def sm_f (p : tm_M) (q : Nat) : Int := if (q : Int) < p 5 0 then p 4 q else -1
def sm_g (p : tm_M) (q : Nat) : Int := if sm_f p q = -1 then -1 else p 6 (sm_f p q).toNat
def sm_wet (p : tm_M) (h : Nat) (z : Int) : Int := sp_wet (p 1 h) z (p 0 1) (p 2 h) (p 0 2)
def sm_gr (p : tm_M) (h : Nat) (z w : Int) (q : Nat) : Int := sp_g (p 3 h) (sm_g p q) (sm_wet p h z) (p 1 h) (p 0 3) w (p 0 4)
/-- whether the hour ends the order at the stones -/
def sm_dn (p : tm_M) (h : Nat) (z w : Int) (q : Nat) (g : Int) : Bool := decide (sm_gr p h z w q = 1 ∧ g + 1 = p 7 (sm_f p q).toNat)
abbrev sm_S : Type := Int × Int × Int × Int × Int × Nat × Int × (Nat → Int)
def sm_step (p : tm_M) (h : Nat) (S : sm_S) : sm_S :=
  (sm_wet p h S.1 - sm_gr p h S.1 S.2.1 S.2.2.2.2.2.1 * min (sm_wet p h S.1) (3 - sm_g p S.2.2.2.2.2.1),
   if 0 < p 3 h then 0 else S.2.1 + sm_gr p h S.1 S.2.1 S.2.2.2.2.2.1,
   S.2.2.1 + sp_spl (p 1 h) S.1 (p 0 1) (p 2 h),
   S.2.2.2.1 + sm_gr p h S.1 S.2.1 S.2.2.2.2.2.1,
   S.2.2.2.2.1 + (if 0 < p 3 h then 0 else if sm_f p S.2.2.2.2.2.1 = -1 then 0 else 1 - sm_gr p h S.1 S.2.1 S.2.2.2.2.2.1),
   if sm_dn p h S.1 S.2.1 S.2.2.2.2.2.1 S.2.2.2.2.2.2.1 = true then S.2.2.2.2.2.1 + 1 else S.2.2.2.2.2.1,
   if sm_dn p h S.1 S.2.1 S.2.2.2.2.2.1 S.2.2.2.2.2.2.1 = true then 0 else S.2.2.2.2.2.2.1 + sm_gr p h S.1 S.2.1 S.2.2.2.2.2.1,
   if sm_dn p h S.1 S.2.1 S.2.2.2.2.2.1 S.2.2.2.2.2.2.1 = true then (fun b => if b = (sm_f p S.2.2.2.2.2.1).toNat then (h : Int) else S.2.2.2.2.2.2.2 b) else S.2.2.2.2.2.2.2)
def sm_run (p : tm_M) : Nat → sm_S
  | 0 => (p 0 0, 0, 0, 0, 0, 0, 0, fun _ => -1)
  | h + 1 => sm_step p h (sm_run p h)
/-- the pond, how much since the stones were dressed, what spilt, what is ground, idle hours, the place in the row, ground of its order, the ends -/
def sm_z (p : tm_M) (h : Nat) : Int := (sm_run p h).1
def sm_w (p : tm_M) (h : Nat) : Int := (sm_run p h).2.1
def sm_s (p : tm_M) (h : Nat) : Int := (sm_run p h).2.2.1
def sm_t (p : tm_M) (h : Nat) : Int := (sm_run p h).2.2.2.1
def sm_i (p : tm_M) (h : Nat) : Int := (sm_run p h).2.2.2.2.1
def sm_q (p : tm_M) (h : Nat) : Nat := (sm_run p h).2.2.2.2.2.1
def sm_o (p : tm_M) (h : Nat) : Int := (sm_run p h).2.2.2.2.2.2.1
def sm_e (p : tm_M) (h : Nat) : Nat → Int := (sm_run p h).2.2.2.2.2.2.2
/-- the sack of hour h, and whether it ends its order -/
def sm_G (p : tm_M) (h : Nat) : Int := sm_gr p h (sm_z p h) (sm_w p h) (sm_q p h)
def sm_N (p : tm_M) (h : Nat) : Bool := sm_dn p h (sm_z p h) (sm_w p h) (sm_q p h) (sm_o p h)
theorem sm_z_s (p : tm_M) (h : Nat) : sm_z p (h + 1) = sm_wet p h (sm_z p h) - sm_G p h * min (sm_wet p h (sm_z p h)) (3 - sm_g p (sm_q p h)) := rfl
theorem sm_w_s (p : tm_M) (h : Nat) : sm_w p (h + 1) = if 0 < p 3 h then 0 else sm_w p h + sm_G p h := rfl
theorem sm_s_s (p : tm_M) (h : Nat) : sm_s p (h + 1) = sm_s p h + sp_spl (p 1 h) (sm_z p h) (p 0 1) (p 2 h) := rfl
theorem sm_t_s (p : tm_M) (h : Nat) : sm_t p (h + 1) = sm_t p h + sm_G p h := rfl
theorem sm_i_s (p : tm_M) (h : Nat) : sm_i p (h + 1) = sm_i p h + (if 0 < p 3 h then 0 else if sm_f p (sm_q p h) = -1 then 0 else 1 - sm_G p h) := rfl
theorem sm_q_s (p : tm_M) (h : Nat) : sm_q p (h + 1) = if sm_N p h = true then sm_q p h + 1 else sm_q p h := rfl
theorem sm_o_s (p : tm_M) (h : Nat) : sm_o p (h + 1) = if sm_N p h = true then 0 else sm_o p h + sm_G p h := rfl
theorem sm_e_s (p : tm_M) (h : Nat) : sm_e p (h + 1) = if sm_N p h = true then (fun b => if b = (sm_f p (sm_q p h)).toNat then (h : Int) else sm_e p h b) else sm_e p h := rfl
theorem sm_N_iff (p : tm_M) (h : Nat) : sm_N p h = true ↔ (sm_G p h = 1 ∧ sm_o p h + 1 = p 7 (sm_f p (sm_q p h)).toNat) := by
  unfold sm_N sm_dn sm_G
  simp
/-- what stands at the stones in hour h; whether it is idle there; how dull the stones are behind it -/
def sm_a (p : tm_M) (h : Nat) : Int := if 0 < p 3 h then -1 else sm_f p (sm_q p h)
def sm_d (p : tm_M) (h : Nat) : Int := if 0 < p 3 h then 0 else if sm_f p (sm_q p h) = -1 then 0 else 1 - sm_G p h
def sm_u (p : tm_M) (h : Nat) : Int := sm_w p (h + 1) / p 0 4
def sm_ok (p : tm_M) : Prop := (0 ≤ p 0 0 ∧ p 0 0 ≤ 20) ∧ (1 ≤ p 0 1 ∧ p 0 1 ≤ 9) ∧ (0 ≤ p 0 2 ∧ p 0 2 ≤ 9) ∧ (0 ≤ p 0 3 ∧ p 0 3 ≤ 9) ∧ (1 ≤ p 0 4 ∧ p 0 4 ≤ 9) ∧ (∀ h, h < 40 → 0 ≤ p 1 h ∧ p 1 h ≤ 18) ∧ (∀ h, h < 40 → 0 ≤ p 2 h ∧ p 2 h ≤ 10) ∧ (∀ h, h < 40 → 0 ≤ p 3 h ∧ p 3 h ≤ 10) ∧ (0 ≤ p 5 0 ∧ p 5 0 ≤ 8) ∧ (∀ q : Nat, (q : Int) < p 5 0 → (0 ≤ p 4 q ∧ p 4 q ≤ 7) ∧ (0 ≤ p 6 (p 4 q).toNat ∧ p 6 (p 4 q).toNat ≤ 2) ∧ (1 ≤ p 7 (p 4 q).toNat ∧ p 7 (p 4 q).toNat ≤ 9))
theorem sm_G01 (p : tm_M) (h : Nat) : sm_G p h = 0 ∨ sm_G p h = 1 := sp_g01 _ _ _ _ _ _ _
theorem sm_f_cases {p : tm_M} (hp : sm_ok p) (q : Nat) : ((q : Int) < p 5 0 ∧ sm_f p q = p 4 q ∧ sm_g p q = p 6 (p 4 q).toNat) ∨ (p 5 0 ≤ (q : Int) ∧ sm_f p q = -1 ∧ sm_g p q = -1) := by
  by_cases h : (q : Int) < p 5 0
  · have h4 := (hp.2.2.2.2.2.2.2.2.2 q h).1
    have hf : sm_f p q = p 4 q := by unfold sm_f; rw [if_pos h]
    refine Or.inl ⟨h, hf, ?_⟩
    unfold sm_g
    rw [hf, if_neg (by omega)]
  · have hf : sm_f p q = -1 := by unfold sm_f; rw [if_neg h]
    refine Or.inr ⟨by omega, hf, ?_⟩
    unfold sm_g
    rw [hf, if_pos rfl]
theorem sm_G_1 {p : tm_M} {h : Nat} (hp : sm_ok p) (hg : sm_G p h = 1) : ¬ 0 < p 3 h ∧ (sm_q p h : Int) < p 5 0 := by
  unfold sm_G sm_gr sp_g at hg
  by_cases hd : 0 < p 3 h
  · rw [if_pos hd] at hg; omega
  · rw [if_neg hd] at hg
    refine ⟨hd, ?_⟩
    rcases sm_f_cases hp (sm_q p h) with ⟨a, b, c⟩ | ⟨a, b, c⟩
    · exact a
    · rw [c, if_pos rfl] at hg; omega
theorem sm_wet_bd {p : tm_M} (hp : sm_ok p) (h : Nat) (z : Int) : 0 ≤ sm_wet p h z ∧ sm_wet p h z ≤ 20 := by
  have := hp.2.2.1
  unfold sm_wet sp_wet
  omega
theorem sm_bd {p : tm_M} (hp : sm_ok p) : ∀ h, h ≤ 40 → (0 ≤ sm_z p h ∧ sm_z p h ≤ 20) ∧ (0 ≤ sm_w p h ∧ sm_w p h ≤ h) ∧ (0 ≤ sm_s p h ∧ sm_s p h ≤ 100 * h) ∧ (0 ≤ sm_t p h ∧ sm_t p h ≤ h) ∧ (0 ≤ sm_i p h ∧ sm_i p h ≤ h) ∧ ((sm_q p h : Int) ≤ p 5 0) ∧ (0 ≤ sm_o p h ∧ sm_o p h ≤ h) := by
  intro h
  induction h with
  | zero =>
    intro _
    have h1 := hp.1
    have h2 := hp.2.2.2.2.2.2.2.2.1
    exact ⟨h1, ⟨Int.le_refl _, Int.le_refl _⟩, ⟨Int.le_refl _, Int.le_refl _⟩, ⟨Int.le_refl _, Int.le_refl _⟩, ⟨Int.le_refl _, Int.le_refl _⟩, h2.1, ⟨Int.le_refl _, Int.le_refl _⟩⟩
  | succ h ih =>
    intro hh
    obtain ⟨h1, h2, h3, h4, h5, h6, h7⟩ := ih (by omega)
    have hw := sm_wet_bd hp h (sm_z p h)
    have hs := hp.2.2.2.2.2.1 h (by omega)
    have hr := hp.2.2.2.2.2.2.1 h (by omega)
    have hf := hp.2.1
    have hG := sm_G01 p h
    have hG1 := fun q => sm_G_1 (h := h) hp q
    have hgr : sm_G p h = 1 → 0 ≤ sm_g p (sm_q p h) ∧ sm_g p (sm_q p h) ≤ 2 := by
      intro q
      rcases sm_f_cases hp (sm_q p h) with ⟨a, b, c⟩ | ⟨a, b, c⟩
      · have := (hp.2.2.2.2.2.2.2.2.2 _ a).2.1
        rw [c]; exact this
      · have := (hG1 q).2; omega
    refine ⟨?_, ?_, ?_, ?_, ?_, ?_, ?_⟩
    · rw [sm_z_s]
      rcases hG with g | g
      · rw [g]; omega
      · have := hgr g
        rw [g]; omega
    · rw [sm_w_s]; split <;> omega
    · rw [sm_s_s]
      unfold sp_spl sp_fill
      omega
    · rw [sm_t_s]; omega
    · rw [sm_i_s]
      split
      · omega
      · split <;> omega
    · rw [sm_q_s]
      split
      · rename_i hn
        have := (hG1 ((sm_N_iff p h).mp hn).1).2
        omega
      · exact h6
    · rw [sm_o_s]
      split <;> omega
/-- the memory behind h hours of a run at the place r, which began in μ -/
def tm_rn (μ p : tm_M) (r h : Nat) : tm_M := fun a b =>
  if a = r then (if b = 7 then sm_i p h else μ a b)
  else if a = r + 1 then (if b = 0 then (h : Int) else if b = 1 then sm_z p h else if b = 2 then sm_w p h else if b = 3 then sm_s p h else μ a b)
  else if a = r + 2 then (if b < h then sm_z p (b + 1) else μ a b)
  else if a = r + 3 then (if b < h then sm_t p (b + 1) else μ a b)
  else if a = r + 4 then (if b < h then sm_a p b else μ a b)
  else if a = r + 5 then (if b < h then sm_d p b else μ a b)
  else if a = r + 6 then (if b < h then sm_u p b else μ a b)
  else if a = r + 7 then (if b < 8 then sm_e p h b else μ a b)
  else μ a b
theorem tm_rn_o {μ p : tm_M} {r h a : Nat} (ha : a < r ∨ r + 7 < a) : tm_rn μ p r h a = μ a := by
  funext b
  unfold tm_rn
  rw [if_neg (by omega), if_neg (by omega), if_neg (by omega), if_neg (by omega), if_neg (by omega), if_neg (by omega), if_neg (by omega), if_neg (by omega)]
theorem tm_rn_i {μ p : tm_M} {r h : Nat} : tm_rn μ p r h r 7 = sm_i p h := by simp [tm_rn]
theorem tm_rn_p {μ p : tm_M} {r h : Nat} (b : Nat) : tm_rn μ p r h (r + 1) b = if b = 0 then (h : Int) else if b = 1 then sm_z p h else if b = 2 then sm_w p h else if b = 3 then sm_s p h else μ (r + 1) b := by simp [tm_rn]
theorem tm_rn_2 {μ p : tm_M} {r h : Nat} (b : Nat) : tm_rn μ p r h (r + 2) b = if b < h then sm_z p (b + 1) else μ (r + 2) b := by simp [tm_rn]
theorem tm_rn_3 {μ p : tm_M} {r h : Nat} (b : Nat) : tm_rn μ p r h (r + 3) b = if b < h then sm_t p (b + 1) else μ (r + 3) b := by simp [tm_rn]
theorem tm_rn_4 {μ p : tm_M} {r h : Nat} (b : Nat) : tm_rn μ p r h (r + 4) b = if b < h then sm_a p b else μ (r + 4) b := by simp [tm_rn]
theorem tm_rn_5 {μ p : tm_M} {r h : Nat} (b : Nat) : tm_rn μ p r h (r + 5) b = if b < h then sm_d p b else μ (r + 5) b := by simp [tm_rn]
theorem tm_rn_6 {μ p : tm_M} {r h : Nat} (b : Nat) : tm_rn μ p r h (r + 6) b = if b < h then sm_u p b else μ (r + 6) b := by simp [tm_rn]
theorem tm_rn_7 {μ p : tm_M} {r h : Nat} (b : Nat) : tm_rn μ p r h (r + 7) b = if b < 8 then sm_e p h b else μ (r + 7) b := by simp [tm_rn]
/-- an hour's writes -/
theorem tm_rn_s {μ p μ1 : tm_M} {r h : Nat} (h0 : ∀ b, μ1 r b = if b = 7 then sm_i p (h + 1) else μ r b)
    (h1 : ∀ b, μ1 (r + 1) b = if b = 0 then ((h + 1 : Nat) : Int) else if b = 1 then sm_z p (h + 1) else if b = 2 then sm_w p (h + 1) else if b = 3 then sm_s p (h + 1) else μ (r + 1) b)
    (h2 : ∀ b, μ1 (r + 2) b = if b < h + 1 then sm_z p (b + 1) else μ (r + 2) b) (h3 : ∀ b, μ1 (r + 3) b = if b < h + 1 then sm_t p (b + 1) else μ (r + 3) b)
    (h4 : ∀ b, μ1 (r + 4) b = if b < h + 1 then sm_a p b else μ (r + 4) b) (h5 : ∀ b, μ1 (r + 5) b = if b < h + 1 then sm_d p b else μ (r + 5) b)
    (h6 : ∀ b, μ1 (r + 6) b = if b < h + 1 then sm_u p b else μ (r + 6) b) (h7 : ∀ b, μ1 (r + 7) b = if b < 8 then sm_e p (h + 1) b else μ (r + 7) b)
    (ho : ∀ a, (a < r ∨ r + 7 < a) → μ1 a = μ a) : μ1 = tm_rn μ p r (h + 1) := by
  funext a b
  by_cases ha : a < r ∨ r + 7 < a
  · rw [tm_rn_o ha, ho a ha]
  · rcases (show a = r ∨ a = r + 1 ∨ a = r + 2 ∨ a = r + 3 ∨ a = r + 4 ∨ a = r + 5 ∨ a = r + 6 ∨ a = r + 7 by omega) with e | e | e | e | e | e | e | e <;> subst e
    · rw [h0]; simp [tm_rn]
    · rw [h1, tm_rn_p]
    · rw [h2, tm_rn_2]
    · rw [h3, tm_rn_3]
    · rw [h4, tm_rn_4]
    · rw [h5, tm_rn_5]
    · rw [h6, tm_rn_6]
    · rw [h7, tm_rn_7]
/-- a row written at h -/
theorem tm_row_s {f : Nat → Int} {g : Nat → Int} {o : Nat → Int} {h : Nat} {v : Int} (hf : ∀ b, f b = if b < h then g b else o b) (hv : v = g h) (b : Nat) : (if b = h then v else f b) = if b < h + 1 then g b else o b := by
  by_cases hb : b = h
  · subst hb
    rw [if_pos rfl, if_pos (by omega), hv]
  · rw [if_neg hb, hf]
    by_cases h2 : b < h
    · rw [if_pos h2, if_pos (by omega)]
    · rw [if_neg h2, if_neg (by omega)]
theorem tm_ua {μ : tm_M} {k j : Nat} {z : Int} (b : Nat) : tm_up μ k j z k b = if b = j then z else μ k b := by simp [tm_up]
/-- what a mill at the place M says -/
def sm_p (μ : tm_M) (M : Nat) : tm_M := fun a b => match a with
  | 0 => μ (M + 1) b
  | 1 => μ (M + 2) b
  | 2 => μ (M + 3) b
  | 3 => μ (M + 4) b
  | 4 => μ (M + 5) b
  | 5 => μ M 6
  | 6 => μ 24 b
  | _ => μ 25 b
