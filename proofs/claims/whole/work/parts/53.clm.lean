theorem ok_o_congr {f g : Nat → Int} {j : Nat} (h : f j = g j) : ok_o f j = ok_o g j := by unfold ok_o; rw [h]
theorem ok_t_congr {f g : Nat → Int} {j : Nat} (h : f j = g j) : ok_t f j = ok_t g j := by unfold ok_t; rw [h]
theorem sp_tf_congr {f g : Nat → Int} {n : Nat} (h : ∀ j, j < n → f j = g j) : sp_tf f n = sp_tf g n := fi_congr n 0 (fun j _ h2 => ok_t_congr (h j (by omega)))
theorem sp_of_congr {f g : Nat → Int} {n : Nat} (h : ∀ j, j < n → f j = g j) : sp_of f n = sp_of g n := by
  unfold sp_of
  rw [fi_congr n 0 (fun j _ h2 => ok_o_congr (h j (by omega)))]
theorem sp_no_congr {f g : Nat → Int} {n : Nat} (h : ∀ j, j < n → f j = g j) : sp_no f n = sp_no g n := by
  unfold sp_no
  rw [sp_of_congr h]
theorem sp_sea_congr {f g : Nat → Int} {n : Nat} (h : ∀ j, j < n → f j = g j) (x : Nat) : sp_sea f n x = sp_sea g n x := by
  unfold sp_sea
  rw [sp_tf_congr h]
  by_cases hx : sp_tf g n = -1 ∧ x < n
  · rw [if_pos hx, if_pos hx, h x hx.2]
  · rw [if_neg hx, if_neg hx]
theorem od_congr {f g : Nat → Int} {n k : Nat} (h : ∀ j, j < n → f j = g j) (hk : 6 * k + 5 ≤ n) : od_g f k = od_g g k ∧ od_s f k = od_s g k ∧ od_d f k = od_d g k ∧ od_p f k = od_p g k := by
  unfold od_g od_s od_d od_p
  rw [h (6 * k) (by omega), h (6 * k + 1) (by omega), h (6 * k + 2) (by omega), h (6 * k + 3) (by omega), h (6 * k + 4) (by omega)]
  exact ⟨rfl, rfl, rfl, rfl⟩
theorem sm_ag_f {p r : tm_M} (h : sm_ag p r) (q : Nat) : sm_f p q = sm_f r q := by
  unfold sm_f
  rw [← h.2.2.1]
  by_cases hc : (q : Int) < p 5 0
  · rw [if_pos hc, if_pos hc, (h.2.2.2 _ hc).1]
  · rw [if_neg hc, if_neg hc]
theorem sm_ag_sc {p r : tm_M} (h : sm_ag p r) (hp : sm_ok p) {x : Nat} (hx : x ≤ 40) : sm_z p x = sm_z r x ∧ sm_w p x = sm_w r x ∧ sm_s p x = sm_s r x ∧ sm_t p x = sm_t r x ∧ sm_i p x = sm_i r x ∧ sm_q p x = sm_q r x ∧ sm_o p x = sm_o r x ∧ sm_e p x = sm_e r x := by
  have e := sm_ag_run h hp x hx
  unfold sm_z sm_w sm_s sm_t sm_i sm_q sm_o sm_e
  rw [e]
  exact ⟨rfl, rfl, rfl, rfl, rfl, rfl, rfl, rfl⟩
theorem sm_ag_G {p r : tm_M} (h : sm_ag p r) (hp : sm_ok p) {x : Nat} (hx : x < 40) : sm_G p x = sm_G r x := by
  have a := (sm_ag_sc h hp (x := x) (by omega)).2.2.2.1
  have b := (sm_ag_sc h hp (x := x + 1) (by omega)).2.2.2.1
  rw [sm_t_s, sm_t_s] at b
  omega
theorem sm_ag_a {p r : tm_M} (h : sm_ag p r) (hp : sm_ok p) {x : Nat} (hx : x < 40) : sm_a p x = sm_a r x := by
  unfold sm_a
  rw [(h.2.1 x hx).2.2, (sm_ag_sc h hp (x := x) (by omega)).2.2.2.2.2.1, sm_ag_f h]
theorem sm_ag_d {p r : tm_M} (h : sm_ag p r) (hp : sm_ok p) {x : Nat} (hx : x < 40) : sm_d p x = sm_d r x := by
  unfold sm_d
  rw [(h.2.1 x hx).2.2, (sm_ag_sc h hp (x := x) (by omega)).2.2.2.2.2.1, sm_ag_f h, sm_ag_G h hp hx]
theorem sm_ag_u {p r : tm_M} (h : sm_ag p r) (hp : sm_ok p) {x : Nat} (hx : x < 40) : sm_u p x = sm_u r x := by
  unfold sm_u
  rw [(sm_ag_sc h hp (x := x + 1) (by omega)).2.1, h.1 4 (by omega)]
/-- the class holds the mill's data -/
def cl_m (μ d : tm_M) : Prop := μ 2 1 = d 0 0 ∧ μ 4 1 = d 0 1 ∧ (∀ j : Nat, (j : Int) < d 0 0 → μ 3 j = d 1 j) ∧ (∀ j : Nat, (j : Int) < d 0 1 → μ 5 j = d 2 j) ∧ μ 6 1 = d 3 0 ∧ μ 8 1 = d 3 1 ∧ (∀ j : Nat, (j : Int) < d 3 0 → μ 7 j = d 4 j) ∧ (∀ j : Nat, (j : Int) < d 3 1 → μ 9 j = d 5 j) ∧ (∀ j, j < 5 → μ 28 j = d 6 j)
theorem cl_m_same {μ ν d : tm_M} (h : cl_m μ d) (e : ∀ a, (2 ≤ a ∧ a ≤ 9) ∨ a = 28 → ν a = μ a) : cl_m ν d := by
  obtain ⟨h1, h2, h3, h4, h5, h6, h7, h8, h9⟩ := h
  exact ⟨by rw [e 2 (by omega)]; exact h1, by rw [e 4 (by omega)]; exact h2, by rw [e 3 (by omega)]; exact h3, by rw [e 5 (by omega)]; exact h4, by rw [e 6 (by omega)]; exact h5, by rw [e 8 (by omega)]; exact h6, by rw [e 7 (by omega)]; exact h7, by rw [e 9 (by omega)]; exact h8, by rw [e 28 (by omega)]; exact h9⟩
/-- the class has worked out what hangs on the data -/
def cl_s (μ d : tm_M) : Prop := sm_ag (sm_p μ 29) (dd_p d) ∧ μ 23 4 = (dd_n d : Int) ∧ (∀ k, k < dd_n d → μ 24 k = od_g (d 2) k ∧ μ 25 k = od_s (d 2) k ∧ μ 26 k = od_d (d 2) k ∧ μ 27 k = od_p (d 2) k) ∧
  (∀ h, h < 40 → μ 37 h = sm_z (dd_p d) (h + 1) ∧ μ 38 h = sm_t (dd_p d) (h + 1) ∧ μ 39 h = sm_a (dd_p d) h ∧ μ 40 h = sm_d (dd_p d) h ∧ μ 41 h = sm_u (dd_p d) h) ∧ (∀ k, k < 8 → μ 42 k = sm_e (dd_p d) 40 k) ∧ μ 36 3 = sm_s (dd_p d) 40 ∧ μ 35 7 = sm_i (dd_p d) 40
theorem cl_s_same {μ ν d : tm_M} (h : cl_s μ d) (e : ∀ a, (23 ≤ a ∧ a ≤ 27) ∨ (29 ≤ a ∧ a ≤ 42) → ν a = μ a) : cl_s ν d := by
  obtain ⟨h1, h2, h3, h4, h5, h6, h7⟩ := h
  have ep : sm_p ν 29 = sm_p μ 29 := by
    funext a b
    unfold sm_p
    rw [e 30 (by omega), e 31 (by omega), e 32 (by omega), e 33 (by omega), e 34 (by omega), e 29 (by omega), e 24 (by omega), e 25 (by omega)]
  refine ⟨by rw [ep]; exact h1, by rw [e 23 (by omega)]; exact h2, ?_, ?_, by rw [e 42 (by omega)]; exact h5, by rw [e 36 (by omega)]; exact h6, by rw [e 35 (by omega)]; exact h7⟩
  · rw [e 24 (by omega), e 25 (by omega), e 26 (by omega), e 27 (by omega)]; exact h3
  · rw [e 37 (by omega), e 38 (by omega), e 39 (by omega), e 40 (by omega), e 41 (by omega)]; exact h4
/-- the steps of settle -/
theorem cl_steps {μ d M1 M2 M3 M4 : tm_M} (hd : dd_ok d) (hm : cl_m μ d) (e1 : M1 = tm_or μ (μ 5) (sp_no (μ 5) (μ 4 1).toNat))
    (e2 : M2 = tm_rowf (tm_up (tm_cp (tm_rowf M1 31 40 (sp_sea (M1 3) (M1 2 1).toNat)) 28 30 0 0 5) 29 6 ((dd_n d : Nat) : Int)) 34 (dd_n d) (fun b => (b : Int)))
    (e3 : M3 = tm_rowf M2 32 40 (fun h => ct_n (fun k => decide (M2 7 k = (h : Int))) (M2 6 1).toNat)) (e4 : M4 = tm_rowf M3 33 40 (fun h => ct_n (fun k => decide (M3 9 k = (h : Int))) (M3 8 1).toNat)) :
    (∀ a, (a < 23 ∨ 27 < a) → (a < 29 ∨ 34 < a) → M4 a = μ a) ∧ sm_ag (sm_p M4 29) (dd_p d) ∧ M4 23 4 = (dd_n d : Int) ∧ (∀ k, k < dd_n d → M4 24 k = od_g (d 2) k ∧ M4 25 k = od_s (d 2) k ∧ M4 26 k = od_d (d 2) k ∧ M4 27 k = od_p (d 2) k) := by
  obtain ⟨h1, h2, h3, h4, h5, h6, h7, h8, h9⟩ := hm
  obtain ⟨d1, d2, d3, d4, d5, d6, d7, d8, -⟩ := hd
  have c5 : ∀ j, j < (μ 4 1).toNat → μ 5 j = d 2 j := fun j hj => h4 j (by omega)
  have c3 : ∀ j, j < (μ 2 1).toNat → μ 3 j = d 1 j := fun j hj => h3 j (by omega)
  have hno : sp_no (μ 5) (μ 4 1).toNat = dd_n d := by unfold dd_n; rw [sp_no_congr c5, h2]
  rw [hno] at e1
  have o1 : ∀ a, (a < 23 ∨ 27 < a) → M1 a = μ a := fun a ha => by rw [e1]; exact tm_or_o ha
  have o2 : ∀ a, a ≠ 29 → a ≠ 30 → a ≠ 31 → a ≠ 34 → M2 a = M1 a := fun a n1 n2 n3 n4 => by rw [e2, tm_rowf_f n4, tm_uf n1, tm_cp_f n2, tm_rowf_f n3]
  have o3 : ∀ a, a ≠ 32 → M3 a = M2 a := fun a n => by rw [e3, tm_rowf_f n]
  have o4 : ∀ a, a ≠ 33 → M4 a = M3 a := fun a n => by rw [e4, tm_rowf_f n]
  have hod : ∀ k, k < dd_n d → od_g (μ 5) k = od_g (d 2) k ∧ od_s (μ 5) k = od_s (d 2) k ∧ od_d (μ 5) k = od_d (d 2) k ∧ od_p (μ 5) k = od_p (d 2) k := by
    intro k hk
    have hk2 : k < sp_no (μ 5) (μ 4 1).toNat := by rw [hno]; exact hk
    exact od_congr c5 (sp_no_in hk2).2.1
  have hord : ∀ k, k < dd_n d → M4 24 k = od_g (d 2) k ∧ M4 25 k = od_s (d 2) k ∧ M4 26 k = od_d (d 2) k ∧ M4 27 k = od_p (d 2) k := by
    intro k hk
    obtain ⟨q1, q2, q3, q4⟩ := hod k hk
    have f : ∀ a, 23 ≤ a → a ≤ 27 → M4 a = M1 a := fun a x y => by rw [o4 a (by omega), o3 a (by omega), o2 a (by omega) (by omega) (by omega) (by omega)]
    rw [f 24 (by omega) (by omega), f 25 (by omega) (by omega), f 26 (by omega) (by omega), f 27 (by omega) (by omega), e1, tm_or_24, tm_or_25, tm_or_26, tm_or_27, if_pos hk, if_pos hk, if_pos hk, if_pos hk]
    exact ⟨q1, q2, q3, q4⟩
  refine ⟨fun a x y => by rw [o4 a (by omega), o3 a (by omega), o2 a (by omega) (by omega) (by omega) (by omega), o1 a x], ?_, ?_, hord⟩
  · have h5' : sm_p M4 29 5 0 = (dd_n d : Int) := by
      show M4 29 6 = _
      rw [o4 29 (by omega), o3 29 (by omega), e2, tm_rowf_k (by decide), tm_us]
    refine ⟨fun j hj => ?_, fun h hh => ⟨?_, ?_, ?_⟩, ?_, fun q hq => ?_⟩
    · show M4 30 j = d 6 j
      rw [o4 30 (by omega), o3 30 (by omega), e2, tm_rowf_k (by decide), tm_uk (by decide), tm_cp_in hj, tm_rowf_k (by decide), o1 28 (by omega)]
      exact h9 j hj
    · show M4 31 h = sp_sea (d 1) (d 0 0).toNat h
      rw [o4 31 (by omega), o3 31 (by omega), e2, tm_rowf_k (by decide), tm_uk (by decide), tm_cp_k (by decide), tm_rowf_in hh, o1 3 (by omega), o1 2 (by omega), sp_sea_congr c3, h1]
    · show M4 32 h = ct_n _ _
      rw [o4 32 (by omega), e3, tm_rowf_in hh, o2 7 (by omega) (by omega) (by omega) (by omega), o1 7 (by omega), o2 6 (by omega) (by omega) (by omega) (by omega), o1 6 (by omega), h5]
      exact ct_congr _ (fun k hk => by rw [h7 k (by omega)])
    · show M4 33 h = ct_n _ _
      rw [e4, tm_rowf_in hh, o3 9 (by omega), o2 9 (by omega) (by omega) (by omega) (by omega), o1 9 (by omega), o3 8 (by omega), o2 8 (by omega) (by omega) (by omega) (by omega), o1 8 (by omega), h6]
      exact ct_congr _ (fun k hk => by rw [h8 k (by omega)])
    · exact h5'
    · rw [h5'] at hq
      have hq2 : q < dd_n d := by omega
      have e34 : sm_p M4 29 4 q = (q : Int) := by
        show M4 34 q = _
        rw [o4 34 (by omega), o3 34 (by omega), e2, tm_rowf_in hq2]
      refine ⟨e34, ?_, ?_⟩
      · rw [e34]
        exact (hord q hq2).1
      · rw [e34]
        exact (hord q hq2).2.1
  · rw [o4 23 (by omega), o3 23 (by omega), o2 23 (by omega) (by omega) (by omega) (by omega), e1, tm_or_z]
theorem cl_done {μ d M4 M5 : tm_M} (hd : dd_ok d) (hm : cl_m μ d) (h : (∀ a, (a < 23 ∨ 27 < a) → (a < 29 ∨ 34 < a) → M4 a = μ a) ∧ sm_ag (sm_p M4 29) (dd_p d) ∧ M4 23 4 = (dd_n d : Int) ∧ (∀ k, k < dd_n d → M4 24 k = od_g (d 2) k ∧ M4 25 k = od_s (d 2) k ∧ M4 26 k = od_d (d 2) k ∧ M4 27 k = od_p (d 2) k))
    (e5 : M5 = tm_rn M4 (sm_p M4 29) 35 40) : cl_s M5 d ∧ ∀ a, (a < 23 ∨ 27 < a) → (a < 29 ∨ 42 < a) → M5 a = μ a := by
  obtain ⟨h1, h2, h3, h4⟩ := h
  have hok := sm_ag_ok h2 (dd_p_ok hd)
  have o5 : ∀ a, (a < 35 ∨ 42 < a) → M5 a = M4 a := fun a ha => by rw [e5]; exact tm_rn_o (by omega)
  have ep : sm_p M5 29 = sm_p M4 29 := by
    funext a b
    unfold sm_p
    rw [o5 30 (by omega), o5 31 (by omega), o5 32 (by omega), o5 33 (by omega), o5 34 (by omega), o5 29 (by omega), o5 24 (by omega), o5 25 (by omega)]
  have sc := fun x hx => sm_ag_sc h2 hok (x := x) hx
  refine ⟨⟨by rw [ep]; exact h2, by rw [o5 23 (by omega)]; exact h3, by rw [o5 24 (by omega), o5 25 (by omega), o5 26 (by omega), o5 27 (by omega)]; exact h4, fun x hx => ?_, fun k hk => ?_, ?_, ?_⟩, fun a x y => by rw [o5 a (by omega)]; exact h1 a x (by omega)⟩
  · have q2 : M5 37 x = sm_z (sm_p M4 29) (x + 1) := by rw [e5]; exact (tm_rn_2 x).trans (if_pos hx)
    have q3 : M5 38 x = sm_t (sm_p M4 29) (x + 1) := by rw [e5]; exact (tm_rn_3 x).trans (if_pos hx)
    have q4 : M5 39 x = sm_a (sm_p M4 29) x := by rw [e5]; exact (tm_rn_4 x).trans (if_pos hx)
    have q5 : M5 40 x = sm_d (sm_p M4 29) x := by rw [e5]; exact (tm_rn_5 x).trans (if_pos hx)
    have q6 : M5 41 x = sm_u (sm_p M4 29) x := by rw [e5]; exact (tm_rn_6 x).trans (if_pos hx)
    rw [q2, q3, q4, q5, q6, (sc (x + 1) (by omega)).1, (sc (x + 1) (by omega)).2.2.2.1, sm_ag_a h2 hok hx, sm_ag_d h2 hok hx, sm_ag_u h2 hok hx]
    exact ⟨rfl, rfl, rfl, rfl, rfl⟩
  · have q : M5 42 k = sm_e (sm_p M4 29) 40 k := by rw [e5]; exact (tm_rn_7 k).trans (if_pos hk)
    rw [q, (sc 40 (by omega)).2.2.2.2.2.2.2]
  · have q : M5 36 3 = sm_s (sm_p M4 29) 40 := by rw [e5]; exact tm_rn_p 3
    rw [q, (sc 40 (by omega)).2.2.1]
  · have q : M5 35 7 = sm_i (sm_p M4 29) 40 := by rw [e5]; exact tm_rn_i
    rw [q, (sc 40 (by omega)).2.2.2.2.1]
