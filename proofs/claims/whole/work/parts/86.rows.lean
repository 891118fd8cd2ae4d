/-! the class has planned -/
theorem cl_I_pl {μ ν d s : tm_M} (h : cl_I μ d s) (h16 : μ 0 16 = 1) (hn : 0 < dd_n d) (e : ∀ a, (a < 57 ∨ 71 < a) → a ≠ 0 → ν a = μ a) (e0 : ∀ b, b ≠ 17 → ν 0 b = μ 0 b) (h17 : ν 0 17 = 1) (hb : rw_b d (ν 57 5) (ν 60)) : cl_I ν d s := by
  obtain ⟨h1, h2, c1, c2, c3, c4, c5⟩ := h
  refine ⟨cl_m_same h1 (fun a ha => e a (by omega) (by omega)), cl_d_same h2 (fun a ha => e a (by omega) (by omega)) (e0 6 (by omega)), by rw [e0 16 (by omega)]; exact c1, fun q => cl_s_same (c2 h16) (fun a ha => e a (by omega) (by omega)), Or.inr h17, fun _ => ⟨by rw [e0 16 (by omega)]; exact h16, hn, hb⟩, ?_⟩
  rw [e0 18 (by omega), e0 16 (by omega)]
  rcases c5 with q | ⟨q1, q2, q3⟩
  · exact Or.inl q
  · refine Or.inr ⟨q1, q2, ?_⟩
    unfold cl_w
    rw [e0 18 (by omega), e 72 (by omega) (by omega)]
    exact q3
/-! the reference's rows -/
theorem pm_congr {n : Nat} {v w : Nat → Int} (h : rw_pm n w) (e : ∀ j, j < n → v j = w j) : rw_pm n v := ⟨fun j hj => by rw [e j hj]; exact h.1 j hj, fun i j hi hj q => h.2 i j hi hj (by rw [← e i hi, ← e j hj]; exact q)⟩
theorem lt_congr {n : Nat} {u v w : Nat → Int} (h : rw_lt n u w) (e : ∀ j, j < n → v j = w j) : rw_lt n u v := by
  obtain ⟨i, h1, h2, h3⟩ := h
  exact ⟨i, h1, fun j hj => by rw [h2 j hj, e j (by omega)], by rw [e i h1]; exact h3⟩
theorem lt_congl {n : Nat} {u v w : Nat → Int} (h : rw_lt n u w) (e : ∀ j, j < n → v j = u j) : rw_lt n v w := by
  obtain ⟨i, h1, h2, h3⟩ := h
  exact ⟨i, h1, fun j hj => by rw [e j (by omega), h2 j hj], by rw [e i h1]; exact h3⟩
/-- u comes next behind w -/
def nx_p (n : Nat) (w u : Nat → Int) : Prop := rw_pm n u ∧ rw_lt n w u ∧ ∀ v, rw_pm n v → rw_lt n w v → (∀ k, k < n → v k = u k) ∨ rw_lt n u v
theorem nx_fin {n i j : Nat} {w u : Nat → Int} (hw : rw_pm n w) (hd : ∀ k, i < k → k + 1 < n → w (k + 1) < w k) (hi : i < j) (hj : j < n) (hlt : w i < w j) (hg : ∀ k, j < k → k < n → w k < w i) (e : ∀ k, k < n → u k = nx_w n i j w k) : nx_p n w u := by
  refine ⟨pm_congr (nx_pm hw hi hj) e, lt_congr (nx_lt (by omega) hlt) e, fun v hv hl => ?_⟩
  rcases nx_next hw hv hd hi hj hlt hg hl with q | q
  · exact Or.inl (fun k hk => by rw [q k hk, e k hk])
  · exact Or.inr (lt_congl q e)
def bw_p (d : tm_M) (m : Int) (b w : Nat → Int) : Prop := (m = -1 ∧ ∀ v, rw_pm (dd_n d) v → ¬ rw_lt (dd_n d) v w) ∨ (rw_pm (dd_n d) b ∧ rw_p d b = m ∧ (∀ v, rw_pm (dd_n d) v → rw_lt (dd_n d) v w → rw_p d v ≤ m) ∧ ∀ v, rw_pm (dd_n d) v → rw_lt (dd_n d) v b → rw_p d v < m)
def aw_p (d : tm_M) (m : Int) (b w : Nat → Int) : Prop := rw_pm (dd_n d) b ∧ rw_p d b = m ∧ (∀ v, rw_pm (dd_n d) v → ¬ rw_lt (dd_n d) w v → rw_p d v ≤ m) ∧ ∀ v, rw_pm (dd_n d) v → rw_lt (dd_n d) v b → rw_p d v < m
theorem rw_p_bd {d : tm_M} (hd : dd_ok d) (w : Nat → Int) : 0 ≤ rw_p d w ∧ rw_p d w ≤ 72 := py_s_bd hd _
theorem aw_y {d : tm_M} (hd : dd_ok d) {m : Int} {b b1 w : Nat → Int} (hw : rw_pm (dd_n d) w) (h : bw_p d m b w) (hm : m < rw_p d w) (e : ∀ j, j < dd_n d → b1 j = w j) : aw_p d (rw_p d w) b1 w := by
  have hb1 := pm_congr hw e
  have hlow : ∀ v, rw_pm (dd_n d) v → rw_lt (dd_n d) v w → rw_p d v ≤ m := by
    intro v hv hl
    rcases h with ⟨-, h2⟩ | ⟨-, -, h3, -⟩
    · exact absurd hl (h2 v hv)
    · exact h3 v hv hl
  refine ⟨hb1, rw_p_congr hd hb1 hw e, fun v hv hn => ?_, fun v hv hl => ?_⟩
  · rcases rw_eq_or (dd_n d) v w with q | q | q
    · rw [rw_p_congr hd hv hw q]; exact Int.le_refl _
    · have := hlow v hv q; omega
    · exact absurd q hn
  · have := hlow v hv (lt_congr hl (fun j hj => (e j hj).symm))
    omega
theorem aw_n {d : tm_M} (hd : dd_ok d) {m : Int} {b b1 w : Nat → Int} (hw : rw_pm (dd_n d) w) (h : bw_p d m b w) (hm : rw_p d w ≤ m) (e : ∀ j, j < dd_n d → b1 j = b j) : aw_p d m b1 w := by
  have hp := (rw_p_bd hd w).1
  rcases h with ⟨h1, -⟩ | ⟨h1, h2, h3, h4⟩
  · omega
  · have hb1 := pm_congr h1 e
    refine ⟨hb1, by rw [rw_p_congr hd hb1 h1 e]; exact h2, fun v hv hn => ?_, fun v hv hl => h4 v hv (lt_congr hl (fun j hj => (e j hj).symm))⟩
    rcases rw_eq_or (dd_n d) v w with q | q | q
    · rw [rw_p_congr hd hv hw q]; exact hm
    · exact h3 v hv q
    · exact absurd q hn
theorem bw_next {d : tm_M} {m : Int} {b b1 w u : Nat → Int} (h : aw_p d m b w) (hd : dd_ok d) (hu : nx_p (dd_n d) w u) (e : ∀ j, j < dd_n d → b1 j = b j) : bw_p d m b1 u := by
  obtain ⟨h1, h2, h3, h4⟩ := h
  have hb1 := pm_congr h1 e
  refine Or.inr ⟨hb1, by rw [rw_p_congr hd hb1 h1 e]; exact h2, fun v hv hl => h3 v hv (fun z => ?_), fun v hv hl => h4 v hv (lt_congr hl (fun j hj => (e j hj).symm))⟩
  rcases hu.2.2 v hv z with q | q
  · exact rw_lt_irr q hl
  · exact rw_lt_asy hl q
theorem bw_last {d : tm_M} {m : Int} {b b1 w : Nat → Int} (h : aw_p d m b w) (hd : dd_ok d) (hl : ∀ v, rw_pm (dd_n d) v → ¬ rw_lt (dd_n d) w v) (e : ∀ j, j < dd_n d → b1 j = b j) : rw_b d m b1 := by
  obtain ⟨h1, h2, h3, h4⟩ := h
  have hb1 := pm_congr h1 e
  exact ⟨hb1, by rw [rw_p_congr hd hb1 h1 e]; exact h2, fun v hv => h3 v hv (hl v hv), fun v hv q => h4 v hv (lt_congr q (fun j hj => (e j hj).symm))⟩
theorem rk_8 {n : Nat} (hn : n ≤ 8) {w : Nat → Int} (hw : rw_pm n w) : 0 ≤ rk_n w n ∧ rk_n w n ≤ 16777215 := by
  have h := rk_bd n (fun j hj => by have q := hw.1 j hj; omega) (w := w)
  have h2 : ∀ n : Fin 9, (8 : Int) ^ (n : Nat) ≤ 16777216 := by decide +kernel
  have := h2 ⟨n, by omega⟩
  have h3 : (8 : Int) ^ n ≤ 16777216 := this
  omega
theorem rk_up {n : Nat} (hn : n ≤ 8) {u w : Nat → Int} (hw : rw_pm n w) (hu : nx_p n w u) : rk_n w n + 1 ≤ rk_n u n := by
  have := rk_lt n (fun j hj => ⟨by have q := hw.1 j hj; omega, by have q := hu.1.1 j hj; omega⟩) hu.2.1
  omega
/-- the reference is set to a row -/
def rf_R (ν d : tm_M) : Prop := rf_m ν d ∧ rf_r ν d ∧ (∀ j, j < 5 → rm_p ν 0 j = dd_p d 0 j) ∧ (∀ h, h < 40 → rm_p ν 1 h = dd_p d 1 h ∧ rm_p ν 2 h = dd_p d 2 h ∧ rm_p ν 3 h = dd_p d 3 h) ∧ ν 74 17 = (dd_n d : Int) ∧ ν 74 15 = 0 ∧ ν 74 16 = d 3 1 ∧ rw_pm (dd_n d) (ν 86)
theorem rf_R_t {ν d : tm_M} (hm : rf_m ν d) (hr : rf_r ν d) (ht : rf_t ν d) : rf_R ν d ∧ ∀ j, j < dd_n d → ν 86 j = (j : Int) := by
  obtain ⟨⟨a0, a1, a5, a4⟩, h15, h16⟩ := ht
  have h17 : ν 74 17 = (dd_n d : Int) := a5
  have hid : ∀ j, j < dd_n d → ν 86 j = (j : Int) := fun j hj => (a4 j (by show (j : Int) < ν 74 17; omega)).1
  exact ⟨⟨hm, hr, a0, a1, h17, h15, h16, pm_congr (pm_id (dd_n d)) hid⟩, hid⟩
theorem rf_R_T {ν d : tm_M} (hd : dd_ok d) (h : rf_R ν d) : rf_T ν d (dd_row d (ν 86)) := by
  obtain ⟨hm, hr, h3, h1, h17, h15, h16, hw⟩ := h
  have z4 := hd.2.2.2.2.2.1
  refine ⟨hm, hr, ⟨h3, h1, h17, fun q hq => ?_⟩, by rw [h15]; omega, by rw [h16]; omega, fun j hj => ?_⟩
  · have hq2 : (q : Int) < ν 74 17 := hq
    rw [h17] at hq2
    have b := hw.1 q (by omega)
    have h9 := hr.2.2.2 (ν 86 q).toNat (by omega)
    exact ⟨rfl, h9.1, h9.2.1⟩
  · rw [h16] at hj
    rw [hm.2.2.2.2.2.2.2.1 j hj]
    exact hd.2.2.2.2.2.2.2.1 j hj
theorem rf_R_same {μ ν d : tm_M} (h : rf_R μ d) (e : ∀ a, 75 ≤ a → a ≤ 85 → ν a = μ a) (e0 : ∀ b, (b < 21 ∨ 27 < b) → ν 74 b = μ 74 b) (hw : rw_pm (dd_n d) (ν 86)) : rf_R ν d := by
  obtain ⟨hm, hr, a0, a1, h17, h15, h16, -⟩ := h
  have p0 : rm_p ν 0 = rm_p μ 0 := by funext b; unfold rm_p; rw [e 82 (by omega) (by omega), e0 19 (by omega), e0 20 (by omega)]; rfl
  have p1 : rm_p ν 1 = rm_p μ 1 := by funext b; show ν 85 b = μ 85 b; rw [e 85 (by omega) (by omega)]
  have p2 : rm_p ν 2 = rm_p μ 2 := by funext b; show rm_c ν b (ν 74 10).toNat = rm_c μ b (μ 74 10).toNat; unfold rm_c; rw [e 83 (by omega) (by omega), e0 10 (by omega), e0 15 (by omega)]
  have p3 : rm_p ν 3 = rm_p μ 3 := by funext b; show rm_dc ν b (ν 74 16).toNat = rm_dc μ b (μ 74 16).toNat; unfold rm_dc; rw [e 84 (by omega) (by omega), e0 16 (by omega)]
  exact ⟨rf_m_same hm (fun a ha => e a (by omega) (by omega)) (e0 10 (by omega)) (e0 12 (by omega)), rf_r_same hr (fun a ha => e a (by omega) (by omega)) (e0 2 (by omega)) (e0 4 (by omega)), by rw [p0]; exact a0, by rw [p1, p2, p3]; exact a1, (e0 17 (by omega)).trans h17, (e0 15 (by omega)).trans h15, (e0 16 (by omega)).trans h16, hw⟩
