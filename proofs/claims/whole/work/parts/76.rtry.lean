/-! what the reference tries -/
theorem sm_ag_trans {p r t : tm_M} (h : sm_ag p r) (h2 : sm_ag r t) : sm_ag p t := by
  obtain ⟨a0, a1, a5, a4⟩ := h
  obtain ⟨b0, b1, b5, b4⟩ := h2
  refine ⟨fun j hj => (a0 j hj).trans (b0 j hj), fun x hx => ⟨(a1 x hx).1.trans (b1 x hx).1, (a1 x hx).2.1.trans (b1 x hx).2.1, (a1 x hx).2.2.trans (b1 x hx).2.2⟩, a5.trans b5, fun q hq => ?_⟩
  obtain ⟨c1, c2, c3⟩ := a4 q hq
  obtain ⟨d1, d2, d3⟩ := b4 q (by rw [← a5]; exact hq)
  rw [← c1] at d1 d2 d3
  exact ⟨d1, c2.trans d2, c3.trans d3⟩
/-- what hangs on no run -/
def rf_F (μ ν : tm_M) : Prop := (∀ a, a < 74 ∨ a = 94 ∨ a = 95 ∨ (97 ≤ a ∧ a ≤ 100) → ν a = μ a) ∧ ν 74 35 = μ 74 35 ∧ ν 74 44 = μ 74 44
theorem rf_F_g {μ ν : tm_M} (h : rf_g μ ν) : rf_F μ ν := ⟨fun a ha => h.1 a (by omega) (by omega) (by omega) (by omega), h.2 35 (by omega) (by omega) (by omega) (by omega) (by omega) (by omega) (by omega), h.2 44 (by omega) (by omega) (by omega) (by omega) (by omega) (by omega) (by omega)⟩
theorem rf_F_t {μ ν κ : tm_M} (h : rf_F μ ν) (e : ∀ a, a < 74 ∨ a = 94 ∨ a = 95 ∨ (97 ≤ a ∧ a ≤ 100) → κ a = ν a) (e1 : κ 74 35 = ν 74 35) (e2 : κ 74 44 = ν 74 44) : rf_F μ κ := ⟨fun a ha => (e a ha).trans (h.1 a ha), e1.trans h.2.1, e2.trans h.2.2⟩
theorem rf_I_F {μ ν d s : tm_M} (h : rf_I μ d s) (q1 : rf_m ν d) (q : rf_F μ ν) : rf_I ν d s := ⟨q1, rf_d_same h.2 (fun a ha => q.1 a (by omega)) q.2.1 q.2.2⟩
theorem rf_r_same {μ ν d : tm_M} (h : rf_r μ d) (e : ∀ a, 77 ≤ a ∧ a ≤ 81 → ν a = μ a) (e2 : ν 74 2 = μ 74 2) (e4 : ν 74 4 = μ 74 4) : rf_r ν d := by
  obtain ⟨h1, h2, h3, h4⟩ := h
  exact ⟨by rw [e2]; exact h1, by rw [e4]; exact h2, by rw [e 77 (by omega)]; exact h3, by rw [e 78 (by omega), e 79 (by omega), e 80 (by omega), e 81 (by omega)]; exact h4⟩
theorem rm_p_same {μ ν : tm_M} (e : ∀ a, (78 ≤ a ∧ a ≤ 79) ∨ (82 ≤ a ∧ a ≤ 86) → ν a = μ a) (e0 : ∀ b, 10 ≤ b ∧ b ≤ 20 → ν 74 b = μ 74 b) : rm_p ν = rm_p μ := by
  funext a b
  unfold rm_p rm_c rm_dc
  rw [e 78 (by omega), e 79 (by omega), e 82 (by omega), e 83 (by omega), e 84 (by omega), e 85 (by omega), e 86 (by omega), e0 10 (by omega), e0 15 (by omega), e0 16 (by omega), e0 17 (by omega), e0 19 (by omega), e0 20 (by omega)]
/-- the reference is set to p over the data d -/
def rf_T (μ d p : tm_M) : Prop := rf_m μ d ∧ rf_r μ d ∧ sm_ag (rm_p μ) p ∧ (0 ≤ μ 74 15 ∧ μ 74 15 ≤ 1000) ∧ (0 ≤ μ 74 16 ∧ μ 74 16 ≤ 7) ∧ (∀ k : Nat, (k : Int) < μ 74 16 → 0 ≤ μ 84 k ∧ μ 84 k ≤ 39)
theorem rf_T_t {μ d : tm_M} (hd : dd_ok d) (hm : rf_m μ d) (hr : rf_r μ d) (ht : rf_t μ d) : rf_T μ d (dd_p d) := by
  obtain ⟨h1, h2, h3⟩ := ht
  have z := hd.2.2.2.2.2.1
  refine ⟨hm, hr, h1, by rw [h2]; omega, by rw [h3]; omega, fun k hk => ?_⟩
  rw [h3] at hk
  rw [hm.2.2.2.2.2.2.2.1 k hk]
  exact hd.2.2.2.2.2.2.2.1 k hk
theorem rf_T_ok {μ d p : tm_M} (h : rf_T μ d p) (hd : dd_ok d) (hp : sm_ok p) : rm_ok μ := by
  obtain ⟨hm, hr, ha, h15, h16, h84⟩ := h
  refine ⟨sm_ag_ok ha hp, by rw [hm.2.2.2.2.1]; exact hd.2.2.2.2.1, h15, h16, fun k hk => ?_, h84⟩
  rw [hm.2.2.2.2.1] at hk
  rw [hm.2.2.2.2.2.2.1 k hk]
  exact hd.2.2.2.2.2.2.1 k hk
theorem rf_T_run {n1 n2 d p : tm_M} (h : rf_T n1 d p) (hp : sm_ok p) (e2 : n2 = tm_rr n1 (rm_p n1) 40) : rf_T n2 d p ∧ rf_n n2 p ∧ (∀ a, a ≠ 74 → (a < 87 ∨ 92 < a) → n2 a = n1 a) ∧ (∀ b, (b < 21 ∨ 27 < b) → n2 74 b = n1 74 b) := by
  obtain ⟨q1, q2, q3⟩ := rf_n_of h.2.2.1 hp e2
  refine ⟨⟨?_, ?_, ?_, ?_, ?_, ?_⟩, q1, q2, q3⟩
  · exact rf_m_same h.1 (fun a ha => q2 a (by omega) (by omega)) (q3 10 (by omega)) (q3 12 (by omega))
  · exact rf_r_same h.2.1 (fun a ha => q2 a (by omega) (by omega)) (q3 2 (by omega)) (q3 4 (by omega))
  · rw [rm_p_same (fun a ha => q2 a (by omega) (by omega)) (fun b hb => q3 b (by omega))]; exact h.2.2.1
  · rw [q3 15 (by omega)]; exact h.2.2.2.1
  · rw [q3 16 (by omega)]; exact h.2.2.2.2.1
  · rw [q3 16 (by omega), q2 84 (by omega) (by omega)]; exact h.2.2.2.2.2
theorem rf_T_mk {μ ν d p r : tm_M} (h : rf_T μ d p) (ha : sm_ag (rm_p ν) r) (e : ∀ a, (75 ≤ a ∧ a ≤ 84) → ν a = μ a) (e0 : ∀ b, b = 2 ∨ b = 4 ∨ b = 10 ∨ b = 12 ∨ b = 16 → ν 74 b = μ 74 b) (h15 : 0 ≤ ν 74 15 ∧ ν 74 15 ≤ 1000) : rf_T ν d r := by
  refine ⟨rf_m_same h.1 (fun a ha => e a (by omega)) (e0 10 (by omega)) (e0 12 (by omega)), rf_r_same h.2.1 (fun a ha => e a (by omega)) (e0 2 (by omega)) (e0 4 (by omega)), ha, h15, ?_, ?_⟩
  · rw [e0 16 (by omega)]; exact h.2.2.2.2.1
  · rw [e0 16 (by omega), e 84 (by omega)]; exact h.2.2.2.2.2
/-- another start, another flow -/
theorem rm_p_19 (ν : tm_M) (v : Int) : rm_p (tm_up ν 74 19 v) = tm_up (rm_p ν) 0 0 v := by
  funext a b
  rcases a with _ | _ | _ | _ | _ | _ | _ | a <;> (try rcases b with _ | _ | b) <;> simp [rm_p, rm_c, rm_dc, tm_up]
theorem rm_p_20 (ν : tm_M) (v : Int) : rm_p (tm_up ν 74 20 v) = tm_up (rm_p ν) 0 1 v := by
  funext a b
  rcases a with _ | _ | _ | _ | _ | _ | _ | a <;> (try rcases b with _ | _ | b) <;> simp [rm_p, rm_c, rm_dc, tm_up]
theorem rm_p_85 (ν : tm_M) (g : Nat → Int) : rm_p (tm_rowf ν 85 40 g) = tm_rowf (rm_p ν) 1 40 g := by
  funext a b
  rcases a with _ | _ | _ | _ | _ | _ | _ | a <;> simp [rm_p, rm_c, rm_dc, tm_rowf]
theorem rf_T_19 {ν d : tm_M} {v0 : Int} (h : rf_T ν d (di_p d 0 v0)) (v : Int) : rf_T (tm_up ν 74 19 v) d (di_p d 0 v) := by
  refine rf_T_mk h ?_ (fun a ha => tm_uf (by omega)) (fun b hb => tm_uj (by omega)) (by rw [tm_uj (by decide)]; exact h.2.2.2.1)
  have q := sm_ag_up h.2.2.1 (a := 0) (by omega) 0 v
  rw [rm_p_19]
  unfold di_p at q
  rw [tm_uu] at q
  exact q
theorem rf_T_20 {ν d : tm_M} {v0 : Int} (h : rf_T ν d (di_p d 1 v0)) (v : Int) : rf_T (tm_up ν 74 20 v) d (di_p d 1 v) := by
  refine rf_T_mk h ?_ (fun a ha => tm_uf (by omega)) (fun b hb => tm_uj (by omega)) (by rw [tm_uj (by decide)]; exact h.2.2.2.1)
  have q := sm_ag_up h.2.2.1 (a := 0) (by omega) 1 v
  rw [rm_p_20]
  unfold di_p at q
  rw [tm_uu] at q
  exact q
theorem rf_T_85 {ν d p : tm_M} (h : rf_T ν d p) (g : Nat → Int) : rf_T (tm_rowf ν 85 40 g) d (tm_rowf p 1 40 g) := by
  refine rf_T_mk h ?_ (fun a ha => tm_rowf_f (by omega)) (fun b hb => tm_rowf_k (by decide)) (by rw [tm_rowf_k (by decide)]; exact h.2.2.2.1)
  rw [rm_p_85]
  exact sm_ag_row h.2.2.1 (by omega) g
/-- rains that never were -/
def rn_p (d : tm_M) (x : Int) : tm_M := fun a b => if a = 2 then ct_n (fun k => decide (d 4 k = (b : Int)) && !(tb_t x k)) (d 3 0).toNat else dd_p d a b
theorem rn_0 (d : tm_M) : rn_p d 0 = dd_p d := by
  funext a b
  unfold rn_p
  by_cases h : a = 2
  · subst h
    rw [if_pos rfl]
    exact ct_congr _ (fun k _ => by rw [tb_0]; simp)
  · rw [if_neg h]
theorem rm_c_d {ν d : tm_M} (hm : rf_m ν d) (hd : dd_ok d) (b : Nat) : rm_c ν b (ν 74 10).toNat = ct_n (fun k => decide (d 4 k = (b : Int)) && !(tb_t (ν 74 15) k)) (d 3 0).toNat := by
  unfold rm_c
  rw [hm.2.2.2.2.1]
  refine ct_congr _ (fun k hk => ?_)
  rw [hm.2.2.2.2.2.2.1 k (by omega)]
theorem rf_T_15 {ν d p0 : tm_M} {x : Int} (hd : dd_ok d) (h : rf_T ν d p0) (h0 : ∀ a, a ≠ 2 → p0 a = dd_p d a) (hx : 0 ≤ x ∧ x ≤ 1000) : rf_T (tm_up ν 74 15 x) d (rn_p d x) := by
  have hm : rf_m (tm_up ν 74 15 x) d := rf_m_same h.1 (fun a ha => tm_uf (by omega)) (tm_uj (by decide)) (tm_uj (by decide))
  refine rf_T_mk h ?_ (fun a ha => tm_uf (by omega)) (fun b hb => tm_uj (by omega)) (by rw [tm_us]; exact hx)
  obtain ⟨a0, a1, a5, a4⟩ := h.2.2.1
  rw [h0 0 (by decide)] at a0
  rw [h0 1 (by decide), h0 3 (by decide)] at a1
  rw [h0 5 (by decide)] at a5
  rw [h0 4 (by decide), h0 6 (by decide), h0 7 (by decide)] at a4
  refine ⟨fun j hj => ?_, fun y hy => ⟨?_, ?_, ?_⟩, a5, a4⟩
  · have q : rm_p ν 0 j = dd_p d 0 j := a0 j hj
    show _ = dd_p d 0 j
    rw [← q]
    rcases j with _ | _ | j <;> simp [rm_p, tm_up]
  · exact (a1 y hy).1
  · have q := rm_c_d hm hd y
    rw [tm_us] at q
    exact q
  · exact (a1 y hy).2.2
theorem tb_pw : ∀ k j : Nat, k < 6 → j < 6 → tb_t ((2 : Int) ^ k) j = decide (j = k) := by
  have h : ∀ k j : Fin 6, tb_t ((2 : Int) ^ (k : Nat)) (j : Nat) = decide ((j : Nat) = (k : Nat)) := by decide +kernel
  intro k j hk hj
  exact h ⟨k, hk⟩ ⟨j, hj⟩
theorem rn_nv {d : tm_M} (hd : dd_ok d) {k : Nat} (hk : (k : Int) < d 3 0) : sm_ag (rn_p d (2 ^ k)) (nv_p d k) := by
  have z3 := hd.2.2.2.2.1
  have h4 := hd.2.2.2.2.2.2.1 k hk
  refine ⟨fun j hj => rfl, fun y hy => ⟨rfl, ?_, rfl⟩, rfl, fun q hq => ⟨rfl, rfl, rfl⟩⟩
  show ct_n (fun j => decide (d 4 j = (y : Int)) && !(tb_t (2 ^ k) j)) (d 3 0).toNat = tm_up (dd_p d) 2 (d 4 k).toNat (dd_p d 2 (d 4 k).toNat - 1) 2 y
  rw [ct_congr (g := fun j => decide (d 4 j = (y : Int)) && !(decide (j = k))) _ (fun j hj => by rw [tb_pw k j (by omega) (by omega)]), ct_out _ _ (by omega)]
  by_cases hc : y = (d 4 k).toNat
  · subst hc
    rw [tm_us, if_pos (by simp; omega)]
    rfl
  · rw [tm_uj hc, if_neg (by simp; omega), Int.sub_zero]
    rfl
/-- one dressing more -/
def sm_a3 (p r : tm_M) : Prop := (∀ j, j < 5 → p 0 j = r 0 j) ∧ (∀ h, h < 40 → p 1 h = r 1 h ∧ p 2 h = r 2 h) ∧ p 5 0 = r 5 0 ∧ (∀ q : Nat, (q : Int) < p 5 0 → p 4 q = r 4 q ∧ p 6 (p 4 q).toNat = r 6 (p 4 q).toNat ∧ p 7 (p 4 q).toNat = r 7 (p 4 q).toNat)
def rf_D (μ d : tm_M) : Prop := rf_m μ d ∧ rf_r μ d ∧ sm_a3 (rm_p μ) (dd_p d) ∧ μ 74 15 = 0 ∧ μ 74 16 = d 3 1 + 1
theorem rf_D_t {ν d : tm_M} (hm : rf_m ν d) (hr : rf_r ν d) (ht : rf_t ν d) : rf_D (tm_up ν 74 16 (d 3 1 + 1)) d := by
  obtain ⟨⟨a0, a1, a5, a4⟩, h15, h16⟩ := ht
  refine ⟨rf_m_same hm (fun a ha => tm_uf (by omega)) (tm_uj (by decide)) (tm_uj (by decide)), rf_r_same hr (fun a ha => tm_uf (by omega)) (tm_uj (by decide)) (tm_uj (by decide)), ⟨fun j hj => ?_, fun y hy => ⟨(a1 y hy).1, ?_⟩, a5, a4⟩, (tm_uj (by decide)).trans h15, tm_us⟩
  · have q := a0 j hj
    rcases j with _ | _ | j <;> simpa [rm_p, tm_up] using q
  · have q := (a1 y hy).2.1
    simpa [rm_p, rm_c, tm_up] using q
theorem rf_D_T {ν d : tm_M} (hd : dd_ok d) (h : rf_D ν d) {y : Nat} (hy : y < 40) : rf_T (tm_up ν 84 (d 3 1).toNat (y : Int)) d (dr_p d y) := by
  obtain ⟨hm, hr, ⟨a0, a1, a5, a4⟩, h15, h16⟩ := h
  have z4 := hd.2.2.2.2.2.1
  obtain ⟨m1, m2, m3, m4, m5, m6, m7, m8, m9⟩ := hm
  refine ⟨⟨m1, m2, m3, m4, m5, m6, m7, fun j hj => ?_, m9⟩, rf_r_same hr (fun a ha => tm_uf (by omega)) rfl rfl, ⟨a0, fun x hx => ⟨(a1 x hx).1, (a1 x hx).2, ?_⟩, a5, a4⟩, ?_, ?_, fun k hk => ?_⟩
  · rw [tm_uj (by omega)]; exact m8 j hj
  · show rm_dc (tm_up ν 84 (d 3 1).toNat (y : Int)) x (tm_up ν 84 (d 3 1).toNat (y : Int) 74 16).toNat = tm_up (dd_p d) 3 y (dd_p d 3 y + 1) 3 x
    rw [tm_uk (by decide), h16]
    unfold rm_dc
    rw [show (d 3 1 + 1).toNat = (d 3 1).toNat + 1 by omega, ct_s]
    rw [ct_congr (g := fun k => decide (d 5 k = (x : Int))) _ (fun k hk => by rw [tm_uj (by omega), m8 k (by omega)])]
    by_cases hc : x = y
    · subst hc
      rw [if_pos (by rw [tm_us]; simp), tm_us]
      rfl
    · rw [if_neg (by rw [tm_us]; simp; omega), tm_uj hc, Int.add_zero]
      rfl
  · show 0 ≤ tm_up ν 84 (d 3 1).toNat (y : Int) 74 15 ∧ tm_up ν 84 (d 3 1).toNat (y : Int) 74 15 ≤ 1000
    rw [tm_uk (by decide), h15]; omega
  · show 0 ≤ tm_up ν 84 (d 3 1).toNat (y : Int) 74 16 ∧ tm_up ν 84 (d 3 1).toNat (y : Int) 74 16 ≤ 7
    rw [tm_uk (by decide), h16]; omega
  · have hk2 : (k : Int) < d 3 1 + 1 := by rw [← h16, ← tm_uk (μ := ν) (k := 84) (j := (d 3 1).toNat) (z := (y : Int)) (a := 74) (b := 16) (by decide)]; exact hk
    by_cases hc : k = (d 3 1).toNat
    · subst hc; rw [tm_us]; omega
    · rw [tm_uj hc, m8 k (by omega)]; exact hd.2.2.2.2.2.2.2.1 k (by omega)
theorem rf_D_same {μ ν d : tm_M} {y : Nat} (h : rf_D μ d) (e : ∀ a, a ≠ 74 → a ≠ 84 → (a < 87 ∨ 92 < a) → ν a = μ a) (e84 : ∀ b, b ≠ y → ν 84 b = μ 84 b) (hy : y = (d 3 1).toNat) (e0 : ∀ b, (b < 21 ∨ 27 < b) → ν 74 b = μ 74 b) (hd : dd_ok d) : rf_D ν d := by
  obtain ⟨hm, hr, ⟨a0, a1, a5, a4⟩, h15, h16⟩ := h
  have z4 := hd.2.2.2.2.2.1
  obtain ⟨m1, m2, m3, m4, m5, m6, m7, m8, m9⟩ := hm
  have p0 : rm_p ν 0 = rm_p μ 0 := by funext b; unfold rm_p; rw [e 82 (by omega) (by omega) (by omega), e0 19 (by omega), e0 20 (by omega)]; rfl
  have p1 : rm_p ν 1 = rm_p μ 1 := by funext b; show ν 85 b = μ 85 b; rw [e 85 (by omega) (by omega) (by omega)]
  have p2 : rm_p ν 2 = rm_p μ 2 := by funext b; show rm_c ν b (ν 74 10).toNat = rm_c μ b (μ 74 10).toNat; unfold rm_c; rw [e 83 (by omega) (by omega) (by omega), e0 10 (by omega), e0 15 (by omega)]
  have p4 : rm_p ν 4 = rm_p μ 4 := by funext b; show ν 86 b = μ 86 b; rw [e 86 (by omega) (by omega) (by omega)]
  have p5 : rm_p ν 5 = rm_p μ 5 := by funext b; show ν 74 17 = μ 74 17; rw [e0 17 (by omega)]
  have p6 : rm_p ν 6 = rm_p μ 6 := by funext b; show ν 78 b = μ 78 b; rw [e 78 (by omega) (by omega) (by omega)]
  have p7 : rm_p ν 7 = rm_p μ 7 := by funext b; show ν 79 b = μ 79 b; rw [e 79 (by omega) (by omega) (by omega)]
  refine ⟨⟨by rw [e 75 (by omega) (by omega) (by omega)]; exact m1, by rw [e 75 (by omega) (by omega) (by omega)]; exact m2, by rw [e 76 (by omega) (by omega) (by omega)]; exact m3, by rw [e 76 (by omega) (by omega) (by omega)]; exact m4, by rw [e0 10 (by omega)]; exact m5, by rw [e0 12 (by omega)]; exact m6, by rw [e 83 (by omega) (by omega) (by omega)]; exact m7, fun j hj => by rw [e84 j (by omega)]; exact m8 j hj, by rw [e 82 (by omega) (by omega) (by omega)]; exact m9⟩, rf_r_same hr (fun a ha => e a (by omega) (by omega) (by omega)) (e0 2 (by omega)) (e0 4 (by omega)), ?_, (e0 15 (by omega)).trans h15, (e0 16 (by omega)).trans h16⟩
  refine ⟨by rw [p0]; exact a0, by rw [p1, p2]; exact a1, by rw [p5]; exact a5, by rw [p4, p5, p6, p7]; exact a4⟩
/-- an order is sent away -/
theorem rf_T_out {ν d : tm_M} {k : Nat} (hd : dd_ok d) (hm : rf_m ν d) (hr : rf_r ν d) (h3 : ∀ j, j < 5 → rm_p ν 0 j = dd_p d 0 j) (h1 : ∀ h, h < 40 → rm_p ν 1 h = dd_p d 1 h ∧ rm_p ν 2 h = dd_p d 2 h ∧ rm_p ν 3 h = dd_p d 3 h) (h17 : ν 74 17 = (dd_n d : Int) - 1) (hk : k < dd_n d) (h15 : ν 74 15 = 0) (h16 : ν 74 16 = d 3 1) (h86 : ∀ q, q < dd_n d - 1 → ν 86 q = if q < k then (q : Int) else (q : Int) + 1) : rf_T ν d (ou_p d k) := by
  have z4 := hd.2.2.2.2.2.1
  refine ⟨hm, hr, ⟨h3, h1, h17, fun q hq => ?_⟩, by rw [h15]; omega, by rw [h16]; omega, fun j hj => ?_⟩
  · have hq2 : (q : Int) < ν 74 17 := hq
    rw [h17] at hq2
    have e4 : rm_p ν 4 q = ((if q < k then q else q + 1 : Nat) : Int) := by
      show ν 86 q = _
      rw [h86 q (by omega)]
      split <;> simp
    have e4b : ou_p d k 4 q = ((if q < k then q else q + 1 : Nat) : Int) := by
      show (if q < k then (q : Int) else (q : Int) + 1) = _
      split <;> simp
    rw [e4, e4b, Int.toNat_natCast]
    have h9 := hr.2.2.2 (if q < k then q else q + 1) (by split <;> omega)
    exact ⟨rfl, h9.1, h9.2.1⟩
  · rw [h16] at hj
    rw [hm.2.2.2.2.2.2.2.1 j hj]
    exact hd.2.2.2.2.2.2.2.1 j hj
/-- the bits that were put together -/
theorem bi_t (f : Nat → Bool) : ∀ n k, k < n → tb_t (bi_n f n) k = f k := by
  intro n
  induction n with
  | zero => intro k hk; omega
  | succ n ih =>
    intro k hk
    have hb := bi_bd f n
    rw [bi_s]
    by_cases hc : k = n
    · subst hc
      unfold tb_t
      by_cases hf : f k = true
      · rw [if_pos hf, hf, decide_eq_true_eq]
        have e : (bi_n f k + 2 ^ k) / 2 ^ k = 1 := by
          rw [Int.add_ediv_of_dvd_right (Int.dvd_refl _), Int.ediv_self (by have := (Int.pow_pos (n := 2) (m := k) (by omega)); omega), Int.ediv_eq_zero_of_lt hb.1 hb.2]
          rfl
        rw [e]; rfl
      · rw [if_neg hf, Int.add_zero]
        have e : bi_n f k / 2 ^ k = 0 := Int.ediv_eq_zero_of_lt hb.1 hb.2
        rw [e]
        simp at hf
        rw [hf]; rfl
    · rw [← ih k (by omega)]
      unfold tb_t
      by_cases hf : f n = true
      · rw [if_pos hf]
        have e : (2 : Int) ^ n = 2 ^ k * (2 * 2 ^ (n - k - 1)) := by
          rw [← Int.pow_succ', ← Int.pow_add]
          congr 1
          omega
        rw [e, Int.add_mul_ediv_left _ _ (by have := (Int.pow_pos (n := 2) (m := k) (by omega)); omega), Int.add_mul_emod_self_left]
      · rw [if_neg hf, Int.add_zero]
theorem rf_T_ag {ν d p r : tm_M} (h : rf_T ν d p) (ha : sm_ag p r) : rf_T ν d r := ⟨h.1, h.2.1, sm_ag_trans h.2.2.1 ha, h.2.2.2⟩
theorem nv_o (d : tm_M) (k a : Nat) (h : a ≠ 2) : nv_p d k a = dd_p d a := tm_uf h
def rf_S (ν d : tm_M) : Prop := rf_m ν d ∧ rf_r ν d ∧ (∀ j, j < 5 → rm_p ν 0 j = dd_p d 0 j) ∧ (∀ h, h < 40 → rm_p ν 1 h = dd_p d 1 h ∧ rm_p ν 2 h = dd_p d 2 h ∧ rm_p ν 3 h = dd_p d 3 h) ∧ ν 74 17 = (dd_n d : Int) - 1 ∧ ν 74 15 = 0 ∧ ν 74 16 = d 3 1
theorem rf_S_t {ν d : tm_M} (hm : rf_m ν d) (hr : rf_r ν d) (ht : rf_t ν d) : rf_S (tm_up ν 74 17 ((dd_n d : Int) - 1)) d := by
  obtain ⟨⟨a0, a1, a5, a4⟩, h15, h16⟩ := ht
  refine ⟨rf_m_same hm (fun a ha => tm_uf (by omega)) (tm_uj (by decide)) (tm_uj (by decide)), rf_r_same hr (fun a ha => tm_uf (by omega)) (tm_uj (by decide)) (tm_uj (by decide)), fun j hj => ?_, fun y hy => ⟨(a1 y hy).1, ?_, ?_⟩, tm_us, (tm_uj (by decide)).trans h15, (tm_uj (by decide)).trans h16⟩
  · have q := a0 j hj
    rcases j with _ | _ | j <;> simpa [rm_p, tm_up] using q
  · have q := (a1 y hy).2.1
    simpa [rm_p, rm_c, tm_up] using q
  · have q := (a1 y hy).2.2
    simpa [rm_p, rm_dc, tm_up] using q
theorem rf_S_same {μ ν d : tm_M} (h : rf_S μ d) (e : ∀ a, a ≠ 74 → a ≠ 86 → (a < 87 ∨ 92 < a) → ν a = μ a) (e0 : ∀ b, (b < 21 ∨ 27 < b) → ν 74 b = μ 74 b) : rf_S ν d := by
  obtain ⟨hm, hr, a0, a1, h17, h15, h16⟩ := h
  have p0 : rm_p ν 0 = rm_p μ 0 := by funext b; unfold rm_p; rw [e 82 (by omega) (by omega) (by omega), e0 19 (by omega), e0 20 (by omega)]; rfl
  have p1 : rm_p ν 1 = rm_p μ 1 := by funext b; show ν 85 b = μ 85 b; rw [e 85 (by omega) (by omega) (by omega)]
  have p2 : rm_p ν 2 = rm_p μ 2 := by funext b; show rm_c ν b (ν 74 10).toNat = rm_c μ b (μ 74 10).toNat; unfold rm_c; rw [e 83 (by omega) (by omega) (by omega), e0 10 (by omega), e0 15 (by omega)]
  have p3 : rm_p ν 3 = rm_p μ 3 := by funext b; show rm_dc ν b (ν 74 16).toNat = rm_dc μ b (μ 74 16).toNat; unfold rm_dc; rw [e 84 (by omega) (by omega) (by omega), e0 16 (by omega)]
  exact ⟨rf_m_same hm (fun a ha => e a (by omega) (by omega) (by omega)) (e0 10 (by omega)) (e0 12 (by omega)), rf_r_same hr (fun a ha => e a (by omega) (by omega) (by omega)) (e0 2 (by omega)) (e0 4 (by omega)), by rw [p0]; exact a0, by rw [p1, p2, p3]; exact a1, (e0 17 (by omega)).trans h17, (e0 15 (by omega)).trans h15, (e0 16 (by omega)).trans h16⟩
theorem rf_S_out {ν d : tm_M} {k : Nat} (hd : dd_ok d) (h : rf_S ν d) (hk : k < dd_n d) : rf_T (tm_rowf ν 86 (dd_n d - 1) (fun q : Nat => if q < k then (q : Int) else (q : Int) + 1)) d (ou_p d k) := by
  have h2 : rf_S (tm_rowf ν 86 (dd_n d - 1) (fun q : Nat => if q < k then (q : Int) else (q : Int) + 1)) d := rf_S_same h (fun a _ h2 _ => tm_rowf_f h2) (fun b _ => tm_rowf_k (by decide))
  obtain ⟨hm, hr, a0, a1, h17, h15, h16⟩ := h2
  exact rf_T_out hd hm hr a0 a1 h17 hk h15 h16 (fun q hq => tm_rowf_in hq)
