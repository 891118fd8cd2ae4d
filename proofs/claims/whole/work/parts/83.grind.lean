/-! rows of orders, ground one behind another -/
abbrev gd_S : Type := Nat × Int × Int × Int
def gd_g (p : tm_M) (g : Int) (S : gd_S) : Int := sp_g (p 3 S.1) g (sm_wet p S.1 S.2.1) (p 1 S.1) (p 0 3) S.2.2.1 (p 0 4)
/-- an hour: which hour it is, how high the pond, how much since the stones were dressed, how much is left of the order -/
def gd_1 (p : tm_M) (g : Int) (S : gd_S) : gd_S := (S.1 + 1, sm_wet p S.1 S.2.1 - gd_g p g S * min (sm_wet p S.1 S.2.1) (3 - g), if 0 < p 3 S.1 then 0 else S.2.2.1 + gd_g p g S, S.2.2.2 - gd_g p g S)
def gd_n (p : tm_M) (g : Int) : Nat → gd_S → gd_S
  | 0, S => S
  | m + 1, S => if 0 < S.2.2.2 ∧ S.1 < 40 then gd_n p g m (gd_1 p g S) else S
def gd_o (p : tm_M) (T : Nat × Int × Int) (o : Nat) : gd_S := gd_n p (p 6 o) 40 (T.1, T.2.1, T.2.2, p 7 o)
def gd_p (d : tm_M) (T : Nat × Int × Int) (o : Nat) : Bool := decide ((gd_o (dd_p d) T o).2.2.2 = 0 ∧ ((gd_o (dd_p d) T o).1 : Int) - 1 ≤ od_d (d 2) o)
def st_n (d : tm_M) (w : Nat → Int) : Nat → Nat × Int × Int
  | 0 => (0, dd_p d 0 0, 0)
  | k + 1 => ((gd_o (dd_p d) (st_n d w k) (w k).toNat).1, (gd_o (dd_p d) (st_n d w k) (w k).toNat).2.1, (gd_o (dd_p d) (st_n d w k) (w k).toNat).2.2.1)
def pp_t (d : tm_M) (w : Nat → Int) (i : Nat) : Int := if gd_p d (st_n d w i) (w i).toNat = true then od_p (d 2) (w i).toNat else 0
def pp_n (d : tm_M) (w : Nat → Int) (k : Nat) : Int := su_n (pp_t d w) k
theorem pp_s (d : tm_M) (w : Nat → Int) (k : Nat) : pp_n d w (k + 1) = pp_n d w k + pp_t d w k := rfl
theorem gd_g01 (p : tm_M) (g : Int) (S : gd_S) : gd_g p g S = 0 ∨ gd_g p g S = 1 := sp_g01 _ _ _ _ _ _ _
theorem gd_gd {p : tm_M} {g : Int} {S : gd_S} (h : gd_g p g S = 1) : ¬ 0 < p 3 S.1 := by
  intro q
  unfold gd_g sp_g at h
  rw [if_pos q] at h
  omega
/-- what holds of a pond on its way -/
def gd_ok (S : gd_S) : Prop := S.1 ≤ 40 ∧ (0 ≤ S.2.1 ∧ S.2.1 ≤ 20) ∧ (0 ≤ S.2.2.1 ∧ S.2.2.1 ≤ (S.1 : Int)) ∧ 0 ≤ S.2.2.2
theorem gd_1_ok {p : tm_M} (hp : sm_ok p) {g : Int} (hg : 0 ≤ g ∧ g ≤ 2) {S : gd_S} (h : gd_ok S) (hl : 0 < S.2.2.2 ∧ S.1 < 40) : gd_ok (gd_1 p g S) := by
  obtain ⟨h1, h2, h3, h4⟩ := h
  have hw := sm_wet_bd hp S.1 S.2.1
  have hG := gd_g01 p g S
  refine ⟨?_, ?_, ?_, ?_⟩
  · show S.1 + 1 ≤ 40; omega
  · show 0 ≤ sm_wet p S.1 S.2.1 - gd_g p g S * min (sm_wet p S.1 S.2.1) (3 - g) ∧ sm_wet p S.1 S.2.1 - gd_g p g S * min (sm_wet p S.1 S.2.1) (3 - g) ≤ 20
    rcases hG with q | q <;> rw [q] <;> omega
  · show 0 ≤ (if 0 < p 3 S.1 then 0 else S.2.2.1 + gd_g p g S) ∧ (if 0 < p 3 S.1 then 0 else S.2.2.1 + gd_g p g S) ≤ ((S.1 + 1 : Nat) : Int)
    split <;> omega
  · show 0 ≤ S.2.2.2 - gd_g p g S
    omega
theorem gd_n_ok {p : tm_M} (hp : sm_ok p) {g : Int} (hg : 0 ≤ g ∧ g ≤ 2) : ∀ (m : Nat) (S : gd_S), gd_ok S → gd_ok (gd_n p g m S) := by
  intro m
  induction m with
  | zero => intro S h; exact h
  | succ m ih =>
    intro S h
    show gd_ok (if 0 < S.2.2.2 ∧ S.1 < 40 then gd_n p g m (gd_1 p g S) else S)
    by_cases hc : 0 < S.2.2.2 ∧ S.1 < 40
    · rw [if_pos hc]; exact ih _ (gd_1_ok hp hg h hc)
    · rw [if_neg hc]; exact h
/-- each sack takes an hour -/
theorem gd_n_h {p : tm_M} {g : Int} : ∀ (m : Nat) (S : gd_S), (S.1 : Int) + S.2.2.2 ≤ ((gd_n p g m S).1 : Int) + (gd_n p g m S).2.2.2 ∧ S.1 ≤ (gd_n p g m S).1 := by
  intro m
  induction m with
  | zero => intro S; exact ⟨Int.le_refl _, Nat.le_refl _⟩
  | succ m ih =>
    intro S
    show (S.1 : Int) + S.2.2.2 ≤ ((if 0 < S.2.2.2 ∧ S.1 < 40 then gd_n p g m (gd_1 p g S) else S).1 : Int) + (if 0 < S.2.2.2 ∧ S.1 < 40 then gd_n p g m (gd_1 p g S) else S).2.2.2 ∧ S.1 ≤ (if 0 < S.2.2.2 ∧ S.1 < 40 then gd_n p g m (gd_1 p g S) else S).1
    by_cases hc : 0 < S.2.2.2 ∧ S.1 < 40
    · rw [if_pos hc]
      have q := ih (gd_1 p g S)
      have hG := gd_g01 p g S
      have e1 : (gd_1 p g S).1 = S.1 + 1 := rfl
      have e2 : (gd_1 p g S).2.2.2 = S.2.2.2 - gd_g p g S := rfl
      rw [e1, e2] at q
      omega
    · rw [if_neg hc]; exact ⟨Int.le_refl _, Nat.le_refl _⟩
def gd_T (T : Nat × Int × Int) : Prop := T.1 ≤ 40 ∧ (0 ≤ T.2.1 ∧ T.2.1 ≤ 20) ∧ (0 ≤ T.2.2 ∧ T.2.2 ≤ (T.1 : Int))
theorem dd_o {d : tm_M} {o : Nat} (ho : o < dd_n d) : (0 ≤ dd_p d 6 o ∧ dd_p d 6 o ≤ 2) ∧ (1 ≤ dd_p d 7 o ∧ dd_p d 7 o ≤ 9) ∧ (0 ≤ od_d (d 2) o ∧ od_d (d 2) o ≤ 39) ∧ (0 ≤ od_p (d 2) o ∧ od_p (d 2) o ≤ 9) := od_bd (f := d 2) (n := (d 0 1).toNat) (k := o) ho
theorem gd_o_ok {d : tm_M} (hd : dd_ok d) {T : Nat × Int × Int} (hT : gd_T T) {o : Nat} (ho : o < dd_n d) : gd_ok (gd_o (dd_p d) T o) := by
  have b := dd_o ho
  refine gd_n_ok (dd_p_ok hd) b.1 40 _ ⟨hT.1, hT.2.1, hT.2.2, ?_⟩
  show 0 ≤ dd_p d 7 o
  omega
/-- the first k of a row are orders, each once -/
def pf_k (n k : Nat) (w : Nat → Int) : Prop := (∀ j, j < k → 0 ≤ w j ∧ w j < n) ∧ (∀ i j, i < k → j < k → w i = w j → i = j)
theorem pf_of {n k : Nat} {w : Nat → Int} (h : rw_pm n w) (hk : k ≤ n) : pf_k n k w := ⟨fun j hj => h.1 j (by omega), fun i j hi hj e => h.2 i j (by omega) (by omega) e⟩
theorem st_T {d : tm_M} (hd : dd_ok d) {w : Nat → Int} : ∀ k, pf_k (dd_n d) k w → gd_T (st_n d w k) := by
  intro k
  induction k with
  | zero =>
    intro _
    have q := (dd_p_ok hd).1
    exact ⟨Nat.zero_le _, q, ⟨Int.le_refl _, Int.le_refl _⟩⟩
  | succ k ih =>
    intro h
    have b := h.1 k (by omega)
    have q := gd_o_ok hd (ih ⟨fun j hj => h.1 j (by omega), fun i j hi hj e => h.2 i j (by omega) (by omega) e⟩) (o := (w k).toNat) (by omega)
    exact ⟨q.1, q.2.1, q.2.2.1⟩
theorem st_congr {d : tm_M} {v w : Nat → Int} : ∀ k, (∀ i, i < k → v i = w i) → st_n d v k = st_n d w k := by
  intro k
  induction k with
  | zero => intro _; rfl
  | succ k ih =>
    intro h
    unfold st_n
    rw [ih (fun i hi => h i (by omega)), h k (by omega)]
theorem pp_congr {d : tm_M} {v w : Nat → Int} (k : Nat) (h : ∀ i, i < k → v i = w i) : pp_n d v k = pp_n d w k := by
  refine su_congr k (fun i hi => ?_)
  unfold pp_t
  rw [st_congr i (fun j hj => h j (by omega)), h i hi]
theorem pp_rest {d : tm_M} {v w : Nat → Int} {k : Nat} (h0 : st_n d v k = st_n d w k) : ∀ m, (∀ i, k ≤ i → i < k + m → v i = w i) → st_n d v (k + m) = st_n d w (k + m) ∧ pp_n d v (k + m) - pp_n d v k = pp_n d w (k + m) - pp_n d w k := by
  intro m
  induction m with
  | zero => intro _; exact ⟨h0, by rw [Nat.add_zero]; omega⟩
  | succ m ih =>
    intro h
    obtain ⟨a, b⟩ := ih (fun i h1 h2 => h i h1 (by omega))
    have e := h (k + m) (by omega) (by omega)
    refine ⟨?_, ?_⟩
    · show st_n d v (k + m + 1) = st_n d w (k + m + 1)
      unfold st_n
      rw [a, e]
    · rw [show k + (m + 1) = k + m + 1 by omega, pp_s, pp_s]
      have : pp_t d v (k + m) = pp_t d w (k + m) := by unfold pp_t; rw [a, e]
      omega
theorem pp_t_bd {d : tm_M} {w : Nat → Int} {i : Nat} (h : 0 ≤ w i ∧ w i < dd_n d) : 0 ≤ pp_t d w i ∧ pp_t d w i ≤ 9 := by
  have b := dd_o (d := d) (o := (w i).toNat) (by omega)
  unfold pp_t
  split <;> omega
theorem pp_bd {d : tm_M} (hd : dd_ok d) {w : Nat → Int} {k : Nat} (h : pf_k (dd_n d) k w) (hk : k ≤ dd_n d) : 0 ≤ pp_n d w k ∧ pp_n d w k ≤ 72 := by
  have h8 : dd_n d ≤ 8 := sp_no_bd _ (by have q := hd.2.1; omega)
  have q := su_bd (f := pp_t d w) (c := 9) k (fun i hi => pp_t_bd (h.1 i hi))
  unfold pp_n
  omega
/-! the hours of a row, order by order -/
theorem dd_row_ok {d : tm_M} (hd : dd_ok d) {w : Nat → Int} (hw : rw_pm (dd_n d) w) : sm_ok (dd_row d w) := by
  obtain ⟨h1, h2, h3, h4, h5, h6, h7, h8, h9, h10⟩ := dd_p_ok hd
  have h8n : dd_n d ≤ 8 := sp_no_bd _ (by have q := hd.2.1; omega)
  refine ⟨h1, h2, h3, h4, h5, h6, h7, h8, h9, fun q hq => ?_⟩
  have hq2 : (q : Int) < (dd_n d : Int) := hq
  have a := hw.1 q (by omega)
  have b := dd_o (d := d) (o := (w q).toNat) (by omega)
  refine ⟨?_, b.1, b.2.1⟩
  show 0 ≤ w q ∧ w q ≤ 7
  omega
/-- ends: those behind the place are none, those before it stay -/
theorem rw_e {d : tm_M} (hd : dd_ok d) {w : Nat → Int} (hw : rw_pm (dd_n d) w) : ∀ h, h ≤ 40 → ∀ i, i < dd_n d → (sm_q (dd_row d w) h ≤ i → sm_e (dd_row d w) h (w i).toNat = -1) := by
  intro h
  have hp := dd_row_ok hd hw
  induction h with
  | zero => intro _ i _ _; rfl
  | succ h ih =>
    intro hh i hi hq
    rw [sm_q_s] at hq
    rw [sm_e_s]
    by_cases hN : sm_N (dd_row d w) h = true
    · rw [if_pos hN] at hq ⊢
      have hG := (sm_G_1 hp ((sm_N_iff _ h).mp hN).1).2
      have hG2 : (sm_q (dd_row d w) h : Int) < (dd_n d : Int) := hG
      have hf : sm_f (dd_row d w) (sm_q (dd_row d w) h) = w (sm_q (dd_row d w) h) := by unfold sm_f; rw [if_pos hG]; rfl
      have a := hw.1 i hi
      have b := hw.1 (sm_q (dd_row d w) h) (by omega)
      have hne : ¬ (w i).toNat = (sm_f (dd_row d w) (sm_q (dd_row d w) h)).toNat := by
        rw [hf]
        intro z
        have := hw.2 i (sm_q (dd_row d w) h) hi (by omega) (by omega)
        omega
      show (if (w i).toNat = (sm_f (dd_row d w) (sm_q (dd_row d w) h)).toNat then (h : Int) else sm_e (dd_row d w) h (w i).toNat) = -1
      rw [if_neg hne]
      exact ih (by omega) i hi (by omega)
    · rw [if_neg hN] at hq ⊢
      exact ih (by omega) i hi hq
theorem rw_e_stay {d : tm_M} (hd : dd_ok d) {w : Nat → Int} (hw : rw_pm (dd_n d) w) {i h0 : Nat} (hi : i < dd_n d) (hq0 : i < sm_q (dd_row d w) h0) : ∀ m, h0 + m ≤ 40 → i < sm_q (dd_row d w) (h0 + m) ∧ sm_e (dd_row d w) (h0 + m) (w i).toNat = sm_e (dd_row d w) h0 (w i).toNat := by
  intro m
  have hp := dd_row_ok hd hw
  induction m with
  | zero => intro _; exact ⟨hq0, rfl⟩
  | succ m ih =>
    intro hh
    obtain ⟨q1, q2⟩ := ih (by omega)
    rw [show h0 + (m + 1) = h0 + m + 1 by omega, sm_q_s, sm_e_s]
    by_cases hN : sm_N (dd_row d w) (h0 + m) = true
    · rw [if_pos hN, if_pos hN]
      have hG := (sm_G_1 hp ((sm_N_iff _ (h0 + m)).mp hN).1).2
      have hG2 : (sm_q (dd_row d w) (h0 + m) : Int) < (dd_n d : Int) := hG
      have hf : sm_f (dd_row d w) (sm_q (dd_row d w) (h0 + m)) = w (sm_q (dd_row d w) (h0 + m)) := by unfold sm_f; rw [if_pos hG]; rfl
      have a := hw.1 i hi
      have b := hw.1 (sm_q (dd_row d w) (h0 + m)) (by omega)
      have hne : ¬ (w i).toNat = (sm_f (dd_row d w) (sm_q (dd_row d w) (h0 + m))).toNat := by
        rw [hf]
        intro z
        have := hw.2 i (sm_q (dd_row d w) (h0 + m)) hi (by omega) (by omega)
        omega
      refine ⟨by omega, ?_⟩
      show (if (w i).toNat = (sm_f (dd_row d w) (sm_q (dd_row d w) (h0 + m))).toNat then ((h0 + m : Nat) : Int) else sm_e (dd_row d w) (h0 + m) (w i).toNat) = _
      rw [if_neg hne]
      exact q2
    · rw [if_neg hN, if_neg hN]
      exact ⟨q1, q2⟩
/-- the run stands at the k-th order of the row, with what the pond S has -/
def gd_at (d : tm_M) (w : Nat → Int) (k : Nat) (S : gd_S) : Prop := sm_q (dd_row d w) S.1 = k ∧ sm_z (dd_row d w) S.1 = S.2.1 ∧ sm_w (dd_row d w) S.1 = S.2.2.1 ∧ sm_o (dd_row d w) S.1 = dd_p d 7 (w k).toNat - S.2.2.2
theorem gd_walk {d : tm_M} (hd : dd_ok d) {w : Nat → Int} (hw : rw_pm (dd_n d) w) {k : Nat} (hk : k < dd_n d) : ∀ (m : Nat) (S : gd_S), gd_at d w k S → 0 < S.2.2.2 → S.1 ≤ 40 → 40 - S.1 ≤ m →
    ((gd_n (dd_p d) (dd_p d 6 (w k).toNat) m S).2.2.2 = 0 ∧ (gd_n (dd_p d) (dd_p d 6 (w k).toNat) m S).1 ≤ 40 ∧ sm_q (dd_row d w) (gd_n (dd_p d) (dd_p d 6 (w k).toNat) m S).1 = k + 1 ∧ sm_o (dd_row d w) (gd_n (dd_p d) (dd_p d 6 (w k).toNat) m S).1 = 0 ∧ sm_z (dd_row d w) (gd_n (dd_p d) (dd_p d 6 (w k).toNat) m S).1 = (gd_n (dd_p d) (dd_p d 6 (w k).toNat) m S).2.1 ∧ sm_w (dd_row d w) (gd_n (dd_p d) (dd_p d 6 (w k).toNat) m S).1 = (gd_n (dd_p d) (dd_p d 6 (w k).toNat) m S).2.2.1 ∧ sm_e (dd_row d w) (gd_n (dd_p d) (dd_p d 6 (w k).toNat) m S).1 (w k).toNat = ((gd_n (dd_p d) (dd_p d 6 (w k).toNat) m S).1 : Int) - 1) ∨
    (0 < (gd_n (dd_p d) (dd_p d 6 (w k).toNat) m S).2.2.2 ∧ (gd_n (dd_p d) (dd_p d 6 (w k).toNat) m S).1 = 40 ∧ sm_q (dd_row d w) 40 = k) := by
  intro m
  have hp := dd_row_ok hd hw
  induction m with
  | zero =>
    intro S hA hl h1 h2
    have h40 : S.1 = 40 := by omega
    refine Or.inr ⟨hl, h40, ?_⟩
    rw [← h40]
    exact hA.1
  | succ m ih =>
    intro S hA hl h1 h2
    have e : gd_n (dd_p d) (dd_p d 6 (w k).toNat) (m + 1) S = if 0 < S.2.2.2 ∧ S.1 < 40 then gd_n (dd_p d) (dd_p d 6 (w k).toNat) m (gd_1 (dd_p d) (dd_p d 6 (w k).toNat) S) else S := rfl
    by_cases hc : S.1 < 40
    · rw [if_pos ⟨hl, hc⟩] at e
      rw [e]
      obtain ⟨a1, a2, a3, a4⟩ := hA
      have hkq : ((k : Nat) : Int) < dd_row d w 5 0 := by show (k : Int) < (dd_n d : Int); omega
      have hf : sm_f (dd_row d w) k = w k := by unfold sm_f; rw [if_pos hkq]; rfl
      have b := hw.1 k hk
      have hg : sm_g (dd_row d w) k = dd_p d 6 (w k).toNat := by unfold sm_g; rw [hf, if_neg (by omega)]; rfl
      have hwet : sm_wet (dd_row d w) S.1 (sm_z (dd_row d w) S.1) = sm_wet (dd_p d) S.1 S.2.1 := by rw [a2]; rfl
      have hG : sm_G (dd_row d w) S.1 = gd_g (dd_p d) (dd_p d 6 (w k).toNat) S := by
        unfold sm_G sm_gr gd_g
        rw [hwet, a1, hg, a3]
        rfl
      have z1 : sm_z (dd_row d w) (S.1 + 1) = (gd_1 (dd_p d) (dd_p d 6 (w k).toNat) S).2.1 := by
        rw [sm_z_s, hwet, hG, a1, hg]
        rfl
      have w1 : sm_w (dd_row d w) (S.1 + 1) = (gd_1 (dd_p d) (dd_p d 6 (w k).toNat) S).2.2.1 := by
        rw [sm_w_s, hG, a3]
        rfl
      have hs1 : (gd_1 (dd_p d) (dd_p d 6 (w k).toNat) S).1 = S.1 + 1 := rfl
      have hl1 : (gd_1 (dd_p d) (dd_p d 6 (w k).toNat) S).2.2.2 = S.2.2.2 - gd_g (dd_p d) (dd_p d 6 (w k).toNat) S := rfl
      have h01 := gd_g01 (dd_p d) (dd_p d 6 (w k).toNat) S
      have hNi := sm_N_iff (dd_row d w) S.1
      rw [hG, a1, hf, a4] at hNi
      have e7 : dd_row d w 7 (w k).toNat = dd_p d 7 (w k).toNat := rfl
      rw [e7] at hNi
      by_cases hN : sm_N (dd_row d w) S.1 = true
      · have hN2 := hNi.mp hN
        have hl0 : (gd_1 (dd_p d) (dd_p d 6 (w k).toNat) S).2.2.2 = 0 := by rw [hl1]; omega
        have e2 : gd_n (dd_p d) (dd_p d 6 (w k).toNat) m (gd_1 (dd_p d) (dd_p d 6 (w k).toNat) S) = gd_1 (dd_p d) (dd_p d 6 (w k).toNat) S := by
          cases m with
          | zero => rfl
          | succ m => show (if _ then _ else _) = _; rw [if_neg (by rw [hl0]; omega)]
        rw [e2]
        refine Or.inl ⟨hl0, by rw [hs1]; omega, ?_, ?_, ?_, ?_, ?_⟩
        · rw [hs1, sm_q_s, if_pos hN, a1]
        · rw [hs1, sm_o_s, if_pos hN]
        · rw [hs1]; exact z1
        · rw [hs1]; exact w1
        · rw [hs1, sm_e_s, if_pos hN, a1, hf]
          show (if (w k).toNat = (w k).toNat then (S.1 : Int) else _) = _
          rw [if_pos rfl]
          omega
      · have hl2 : 0 < (gd_1 (dd_p d) (dd_p d 6 (w k).toNat) S).2.2.2 := by
          rw [hl1]
          rcases h01 with q | q
          · omega
          · have : ¬ (dd_p d 7 (w k).toNat - S.2.2.2 + 1 = dd_p d 7 (w k).toNat) := fun z => hN (hNi.mpr ⟨q, z⟩)
            omega
        refine ih (gd_1 (dd_p d) (dd_p d 6 (w k).toNat) S) ⟨?_, ?_, ?_, ?_⟩ hl2 (by rw [hs1]; omega) (by rw [hs1]; omega)
        · rw [hs1, sm_q_s, if_neg hN]; exact a1
        · rw [hs1]; exact z1
        · rw [hs1]; exact w1
        · rw [hs1, sm_o_s, if_neg hN, hG, a4, hl1]; omega
    · rw [if_neg (by omega)] at e
      rw [e]
      have h40 : S.1 = 40 := by omega
      exact Or.inr ⟨hl, h40, by rw [← h40]; exact hA.1⟩
theorem st_walk {d : tm_M} (hd : dd_ok d) {w : Nat → Int} (hw : rw_pm (dd_n d) w) : ∀ k, k ≤ dd_n d → ((sm_q (dd_row d w) (st_n d w k).1 = k ∧ sm_o (dd_row d w) (st_n d w k).1 = 0 ∧ sm_z (dd_row d w) (st_n d w k).1 = (st_n d w k).2.1 ∧ sm_w (dd_row d w) (st_n d w k).1 = (st_n d w k).2.2) ∨ ((st_n d w k).1 = 40 ∧ sm_q (dd_row d w) 40 < k)) ∧ ∀ i, i < k → gd_p d (st_n d w i) (w i).toNat = py_b d (sm_e (dd_row d w) 40) (w i).toNat := by
  intro k
  induction k with
  | zero => intro _; exact ⟨Or.inl ⟨rfl, rfl, rfl, rfl⟩, fun i hi => by omega⟩
  | succ k ih =>
    intro hk
    obtain ⟨h1, h2⟩ := ih (by omega)
    have hT := st_T hd k (pf_of hw (by omega))
    have b := hw.1 k (by omega)
    have bo := dd_o (d := d) (o := (w k).toNat) (by omega)
    have es : st_n d w (k + 1) = ((gd_o (dd_p d) (st_n d w k) (w k).toNat).1, (gd_o (dd_p d) (st_n d w k) (w k).toNat).2.1, (gd_o (dd_p d) (st_n d w k) (w k).toNat).2.2.1) := rfl
    have hb : ∀ P : Bool, gd_p d (st_n d w k) (w k).toNat = P → py_b d (sm_e (dd_row d w) 40) (w k).toNat = P → ∀ i, i < k + 1 → gd_p d (st_n d w i) (w i).toNat = py_b d (sm_e (dd_row d w) 40) (w i).toNat := by
      intro P p1 p2 i hi
      by_cases hc : i = k
      · subst hc; rw [p1, p2]
      · exact h2 i (by omega)
    rcases h1 with ⟨a1, a2, a3, a4⟩ | ⟨a1, a2⟩
    · have hA : gd_at d w k ((st_n d w k).1, (st_n d w k).2.1, (st_n d w k).2.2, dd_p d 7 (w k).toNat) := ⟨a1, a3, a4, by show sm_o (dd_row d w) (st_n d w k).1 = dd_p d 7 (w k).toNat - dd_p d 7 (w k).toNat; rw [a2]; omega⟩
      rcases gd_walk hd hw (k := k) (by omega) 40 _ hA (by show 0 < dd_p d 7 (w k).toNat; omega) hT.1 (by omega) with ⟨q1, q2, q3, q4, q5, q6, q7⟩ | ⟨q1, q2, q3⟩
      · have ee : sm_e (dd_row d w) 40 (w k).toNat = ((gd_o (dd_p d) (st_n d w k) (w k).toNat).1 : Int) - 1 := by
          have z := (rw_e_stay hd hw (i := k) (h0 := (gd_o (dd_p d) (st_n d w k) (w k).toNat).1) (by omega) (by show k < sm_q _ _; unfold gd_o; omega) (40 - (gd_o (dd_p d) (st_n d w k) (w k).toNat).1) (by have : (gd_o (dd_p d) (st_n d w k) (w k).toNat).1 ≤ 40 := q2; omega)).2
          have hle : (gd_o (dd_p d) (st_n d w k) (w k).toNat).1 ≤ 40 := q2
          rw [show (gd_o (dd_p d) (st_n d w k) (w k).toNat).1 + (40 - (gd_o (dd_p d) (st_n d w k) (w k).toNat).1) = 40 by omega] at z
          rw [z]
          exact q7
        have hh := (gd_n_h (p := dd_p d) (g := dd_p d 6 (w k).toNat) 40 ((st_n d w k).1, (st_n d w k).2.1, (st_n d w k).2.2, dd_p d 7 (w k).toNat)).1
        have hpos : 1 ≤ (gd_o (dd_p d) (st_n d w k) (w k).toNat).1 := by
          have h3 : (((st_n d w k).1 : Nat) : Int) + dd_p d 7 (w k).toNat ≤ ((gd_o (dd_p d) (st_n d w k) (w k).toNat).1 : Int) + (gd_o (dd_p d) (st_n d w k) (w k).toNat).2.2.2 := hh
          have h4 : (gd_o (dd_p d) (st_n d w k) (w k).toNat).2.2.2 = 0 := q1
          omega
        refine ⟨Or.inl ⟨?_, ?_, ?_, ?_⟩, hb (decide (((gd_o (dd_p d) (st_n d w k) (w k).toNat).1 : Int) - 1 ≤ od_d (d 2) (w k).toNat)) ?_ ?_⟩
        · rw [es]; exact q3
        · rw [es]; exact q4
        · rw [es]; exact q5
        · rw [es]; exact q6
        · unfold gd_p
          have h4 : (gd_o (dd_p d) (st_n d w k) (w k).toNat).2.2.2 = 0 := q1
          exact decide_eq_decide.mpr (by rw [h4]; omega)
        · unfold py_b
          rw [ee]
          exact decide_eq_decide.mpr (by omega)
      · have ee : sm_e (dd_row d w) 40 (w k).toNat = -1 := rw_e hd hw 40 (by omega) k (by omega) (by omega)
        refine ⟨Or.inr ⟨?_, by omega⟩, hb false ?_ ?_⟩
        · rw [es]; exact q2
        · unfold gd_p
          have h4 : 0 < (gd_o (dd_p d) (st_n d w k) (w k).toNat).2.2.2 := q1
          exact decide_eq_false (by omega)
        · unfold py_b
          rw [ee]
          exact decide_eq_false (by omega)
    · have ee : sm_e (dd_row d w) 40 (w k).toNat = -1 := rw_e hd hw 40 (by omega) k (by omega) (by omega)
      have eo : gd_o (dd_p d) (st_n d w k) (w k).toNat = ((st_n d w k).1, (st_n d w k).2.1, (st_n d w k).2.2, dd_p d 7 (w k).toNat) := by
        unfold gd_o
        show (if _ then _ else _) = _
        rw [if_neg]
        show ¬ (_ ∧ (st_n d w k).1 < 40)
        omega
      refine ⟨Or.inr ⟨?_, by omega⟩, hb false ?_ ?_⟩
      · rw [es, eo]; exact a1
      · unfold gd_p
        rw [eo]
        refine decide_eq_false (fun z => ?_)
        have z1 : dd_p d 7 (w k).toNat = 0 := z.1
        omega
      · unfold py_b
        rw [ee]
        exact decide_eq_false (by omega)
/-- what a row pays, order by order -/
theorem rw_pp {d : tm_M} (hd : dd_ok d) {w : Nat → Int} (hw : rw_pm (dd_n d) w) : rw_p d w = pp_n d w (dd_n d) := by
  have h := (st_walk hd hw (dd_n d) (Nat.le_refl _)).2
  have q := pm_sum (dd_n d) w hw (fun k => if py_b d (sm_e (dd_row d w) 40) k = true then od_p (d 2) k else 0)
  unfold rw_p py_s pp_n
  rw [← q]
  refine su_congr _ (fun i hi => ?_)
  unfold pp_t
  rw [h i hi]
theorem rw_p_congr {d : tm_M} (hd : dd_ok d) {v w : Nat → Int} (hv : rw_pm (dd_n d) v) (hw : rw_pm (dd_n d) w) (h : ∀ j, j < dd_n d → v j = w j) : rw_p d v = rw_p d w := by
  rw [rw_pp hd hv, rw_pp hd hw]
  exact pp_congr _ h
