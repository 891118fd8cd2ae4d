/-! rows of orders: sums over them, the next one -/
theorem su_at {f g : Nat → Int} {k : Nat} : ∀ n, k < n → (∀ j, j < n → j ≠ k → f j = g j) → su_n f n = su_n g n - g k + f k := by
  intro n
  induction n with
  | zero => intro h; omega
  | succ n ih =>
    intro hk h
    rw [su_s, su_s]
    by_cases hc : k = n
    · subst hc
      rw [su_congr k (fun j hj => h j (by omega) (by omega))]
      omega
    · rw [ih (by omega) (fun j hj hjk => h j (by omega) hjk), h n (by omega) (fun q => hc q.symm)]
      omega
theorem su_0 {f : Nat → Int} : ∀ n, (∀ j, j < n → f j = 0) → su_n f n = 0 := by
  intro n
  induction n with
  | zero => intro _; rfl
  | succ n ih =>
    intro h
    rw [su_s, ih (fun j hj => h j (by omega)), h n (by omega)]
    rfl
theorem su_le {f g : Nat → Int} : ∀ n, (∀ j, j < n → f j ≤ g j) → su_n f n ≤ su_n g n := by
  intro n
  induction n with
  | zero => intro _; exact Int.le_refl _
  | succ n ih =>
    intro h
    rw [su_s, su_s]
    have := ih (fun j hj => h j (by omega))
    have := h n (by omega)
    omega
theorem su_1 {a n : Nat} (h : a < n) : su_n (fun k => if k = a then (1 : Int) else 0) n = 1 := by
  have q := su_at (f := fun k => if k = a then (1 : Int) else 0) (g := fun _ => 0) (k := a) n h (fun j _ hj => if_neg hj)
  rw [su_0 (f := fun _ => 0) n (fun _ _ => rfl)] at q
  simp only [if_true] at q
  omega
def pm_u (n : Nat) (w : Nat → Int) (i : Nat) : Int := if w i = (n : Int) then w n else w i
theorem pm_uy {n : Nat} {w : Nat → Int} {i : Nat} (h : w i = (n : Int)) : pm_u n w i = w n := if_pos h
theorem pm_un {n : Nat} {w : Nat → Int} {i : Nat} (h : ¬ w i = (n : Int)) : pm_u n w i = w i := if_neg h
theorem pm_u_pm {n : Nat} {w : Nat → Int} (hw : rw_pm (n + 1) w) : rw_pm n (pm_u n w) := by
  obtain ⟨h1, h2⟩ := hw
  refine ⟨fun j hj => ?_, fun i j hi hj e => ?_⟩
  · have a := h1 j (by omega)
    have b := h1 n (by omega)
    by_cases hc : w j = (n : Int)
    · have hne : ¬ w n = (n : Int) := fun q => by
        have := h2 j n (by omega) (by omega) (by rw [hc, q])
        omega
      rw [pm_uy hc]
      omega
    · rw [pm_un hc]
      omega
  · by_cases hc : w i = (n : Int)
    · by_cases hc2 : w j = (n : Int)
      · exact h2 i j (by omega) (by omega) (by rw [hc, hc2])
      · rw [pm_uy hc, pm_un hc2] at e
        have := h2 n j (by omega) (by omega) e
        omega
    · by_cases hc2 : w j = (n : Int)
      · rw [pm_un hc, pm_uy hc2] at e
        have := h2 i n (by omega) (by omega) e
        omega
      · rw [pm_un hc, pm_un hc2] at e
        exact h2 i j (by omega) (by omega) e
theorem pm_sum : ∀ (n : Nat) (w : Nat → Int), rw_pm n w → ∀ f : Nat → Int, su_n (fun i => f (w i).toNat) n = su_n f n := by
  intro n
  induction n with
  | zero => intro w _ f; rfl
  | succ n ih =>
    intro w hw f
    have hu := pm_u_pm hw
    obtain ⟨h1, h2⟩ := hw
    have e := ih _ hu f
    rw [su_s, su_s]
    by_cases hx : ∃ k, k < n ∧ w k = (n : Int)
    · obtain ⟨k, hk, hkn⟩ := hx
      have q := su_at (f := fun i => f (w i).toNat) (g := fun i => f (pm_u n w i).toNat) (k := k) n hk (fun j hj hjk => by
        have hne : ¬ w j = (n : Int) := fun z => hjk (h2 j k (by omega) (by omega) (by rw [z, hkn]))
        rw [pm_un hne])
      rw [pm_uy hkn, hkn, Int.toNat_natCast, e] at q
      omega
    · have hn : ∀ j, j < n → ¬ w j = (n : Int) := fun j hj z => hx ⟨j, hj, z⟩
      have q : su_n (fun i => f (w i).toNat) n = su_n (fun i => f (pm_u n w i).toNat) n := su_congr n (fun j hj => by rw [pm_un (hn j hj)])
      have hwn : w n = (n : Int) := by
        by_cases hc : w n = (n : Int)
        · exact hc
        · have b := h1 n (by omega)
          have e2 := ih _ hu (fun k => if k = (w n).toNat then (1 : Int) else 0)
          rw [su_1 (by omega)] at e2
          rw [su_0 n (fun j hj => if_neg (fun z => by
            rw [pm_un (hn j hj)] at z
            have a := h1 j (by omega)
            have := h2 j n (by omega) (by omega) (by omega)
            omega))] at e2
          omega
      rw [q, e, hwn, Int.toNat_natCast]
theorem pm_surj {n : Nat} {w : Nat → Int} (hw : rw_pm n w) {k : Nat} (hk : k < n) : ∃ i, i < n ∧ w i = (k : Int) := by
  refine Classical.byContradiction (fun hno => ?_)
  have e := pm_sum n w hw (fun j => if j = k then (1 : Int) else 0)
  rw [su_1 hk, su_0 n (fun j hj => if_neg (fun z => hno ⟨j, hj, by have a := hw.1 j hj; omega⟩))] at e
  omega
theorem pm_in {n p : Nat} {v w : Nat → Int} (hv : rw_pm n v) (hw : rw_pm n w) (hp : p < n) (h : ∀ k, k < p → v k = w k) : ∃ q, p ≤ q ∧ q < n ∧ v p = w q := by
  have a := hv.1 p hp
  obtain ⟨q, h1, h2⟩ := pm_surj hw (k := (v p).toNat) (by omega)
  refine ⟨q, ?_, h1, by omega⟩
  rcases Nat.lt_or_ge q p with c | c
  · have := hv.2 q p (by omega) hp (by rw [h q c]; omega)
    omega
  · exact c
theorem rw_lt_irr {n : Nat} {v w : Nat → Int} (h : ∀ j, j < n → v j = w j) : ¬ rw_lt n v w := by
  rintro ⟨i, h1, h2, h3⟩
  have := h i h1
  omega
theorem rw_lt_asy {n : Nat} {v w : Nat → Int} (h : rw_lt n v w) : ¬ rw_lt n w v := by
  obtain ⟨i, h1, h2, h3⟩ := h
  rintro ⟨j, g1, g2, g3⟩
  rcases Nat.lt_trichotomy i j with c | c | c
  · have := g2 i c; omega
  · subst c; omega
  · have := h2 j c; omega
/-- rows that fall to their end have none behind them -/
theorem pm_down {n p : Nat} {w : Nat → Int} (hd : ∀ k, p ≤ k → k + 1 < n → w (k + 1) < w k) : ∀ m, p + m < n → w (p + m) ≤ w p := by
  intro m
  induction m with
  | zero => intro _; exact Int.le_refl _
  | succ m ih =>
    intro h
    have a := ih (by omega)
    have b := hd (p + m) (by omega) (by omega)
    rw [show p + (m + 1) = p + m + 1 by omega]
    omega
theorem pm_last {n i : Nat} {v w : Nat → Int} (hv : rw_pm n v) (hw : rw_pm n w) (hd : ∀ k, i ≤ k → k + 1 < n → w (k + 1) < w k) {p : Nat} (hp : p < n) (hi : i ≤ p) (h : ∀ k, k < p → v k = w k) : v p ≤ w p := by
  obtain ⟨q, h1, h2, h3⟩ := pm_in hv hw hp h
  have := pm_down (p := p) (fun k hk1 hk2 => hd k (by omega) hk2) (q - p) (by omega)
  rw [show p + (q - p) = q by omega] at this
  omega
def nx_w (n i j : Nat) (w : Nat → Int) (k : Nat) : Int := if k < i then w k else if k = i then w j else if n + i - k = j then w i else w (n + i - k)
theorem nx_lo {n i j : Nat} {w : Nat → Int} {k : Nat} (h : k < i) : nx_w n i j w k = w k := if_pos h
theorem nx_i {n i j : Nat} {w : Nat → Int} : nx_w n i j w i = w j := by
  unfold nx_w
  rw [if_neg (by omega), if_pos rfl]
theorem nx_hi {n i j : Nat} {w : Nat → Int} {k : Nat} (h : i < k) : nx_w n i j w k = if n + i - k = j then w i else w (n + i - k) := by
  unfold nx_w
  rw [if_neg (by omega), if_neg (by omega)]
/-- where the k-th of the next row stood -/
def nx_k (n i j k : Nat) : Nat := if k < i then k else if k = i then j else if n + i - k = j then i else n + i - k
theorem nx_wk (n i j : Nat) (w : Nat → Int) (k : Nat) : nx_w n i j w k = w (nx_k n i j k) := by
  unfold nx_w nx_k
  split
  · rfl
  · split
    · rfl
    · split <;> rfl
theorem nx_pm {n i j : Nat} {w : Nat → Int} (hw : rw_pm n w) (hi : i < j) (hj : j < n) : rw_pm n (nx_w n i j w) := by
  have hb : ∀ k, k < n → nx_k n i j k < n := by
    intro k hk
    unfold nx_k
    split
    · omega
    · split
      · omega
      · split <;> omega
  have hi2 : ∀ a b, a < n → b < n → nx_k n i j a = nx_k n i j b → a = b := by
    intro a b ha hb e
    unfold nx_k at e
    split at e <;> split at e <;> (try split at e) <;> (try split at e) <;> (try split at e) <;> (try split at e) <;> omega
  refine ⟨fun k hk => ?_, fun a b ha hb2 e => ?_⟩
  · rw [nx_wk]; exact hw.1 _ (hb k hk)
  · rw [nx_wk, nx_wk] at e
    exact hi2 a b ha hb2 (hw.2 _ _ (hb a ha) (hb b hb2) e)
theorem nx_lt {n i j : Nat} {w : Nat → Int} (hj : i < n) (hlt : w i < w j) : rw_lt n w (nx_w n i j w) := ⟨i, hj, fun k hk => (nx_lo hk).symm, by rw [nx_i]; exact hlt⟩
/-- behind i the next row rises -/
theorem nx_up {n i j : Nat} {w : Nat → Int} (hw : rw_pm n w) (hd : ∀ k, i < k → k + 1 < n → w (k + 1) < w k) (hi : i < j) (hj : j < n) (hlt : w i < w j) (hg : ∀ k, j < k → k < n → w k < w i) {k : Nat} (hk : i < k) (hk2 : k + 1 < n) : nx_w n i j w k < nx_w n i j w (k + 1) := by
  rw [nx_hi hk, nx_hi (by omega)]
  have e : n + i - k = (n + i - (k + 1)) + 1 := by omega
  by_cases h1 : n + i - k = j
  · rw [if_pos h1, if_neg (by omega)]
    have := hd (n + i - (k + 1)) (by omega) (by omega)
    rw [← e, h1] at this
    omega
  · rw [if_neg h1]
    by_cases h2 : n + i - (k + 1) = j
    · rw [if_pos h2]
      exact hg _ (by omega) (by omega)
    · rw [if_neg h2]
      have := hd (n + i - (k + 1)) (by omega) (by omega)
      rw [← e] at this
      exact this
theorem nx_rise {n i : Nat} {u : Nat → Int} (hu : ∀ k, i < k → k + 1 < n → u k < u (k + 1)) {p : Nat} (hp : i < p) : ∀ m, p + m < n → u p ≤ u (p + m) := by
  intro m
  induction m with
  | zero => intro _; exact Int.le_refl _
  | succ m ih =>
    intro h
    have a := ih (by omega)
    have b := hu (p + m) (by omega) (by omega)
    rw [show p + (m + 1) = p + m + 1 by omega]
    omega
theorem nx_next {n i j : Nat} {v w : Nat → Int} (hw : rw_pm n w) (hv : rw_pm n v) (hd : ∀ k, i < k → k + 1 < n → w (k + 1) < w k) (hi : i < j) (hj : j < n) (hlt : w i < w j) (hg : ∀ k, j < k → k < n → w k < w i) (h : rw_lt n w v) : (∀ k, k < n → v k = nx_w n i j w k) ∨ rw_lt n (nx_w n i j w) v := by
  obtain ⟨p, h1, h2, h3⟩ := h
  have hN := nx_pm hw hi hj
  rcases Nat.lt_trichotomy p i with c | c | c
  · exact Or.inr ⟨p, h1, fun k hk => by rw [nx_lo (by omega)]; exact h2 k hk, by rw [nx_lo c]; exact h3⟩
  · subst c
    obtain ⟨q, q1, q2, q3⟩ := pm_in hv hw h1 (fun k hk => (h2 k hk).symm)
    have hqj : q ≤ j := by
      rcases Nat.lt_or_ge j q with z | z
      · have := hg q z q2; omega
      · exact z
    have hpq : p < q := by
      rcases Nat.lt_or_ge p q with z | z
      · exact z
      · have : q = p := by omega
        subst this; omega
    have hle : w j ≤ w q := by
      have := pm_down (p := q) (n := n) (w := w) (fun k k1 k2 => hd k (by omega) k2) (j - q) (by omega)
      rwa [show q + (j - q) = j by omega] at this
    by_cases he : v p = w j
    · rcases rw_eq_or n v (nx_w n p j w) with z | ⟨r, z1, z2, z3⟩ | z
      · exact Or.inl z
      · exfalso
        have hr : p < r := by
          rcases Nat.lt_trichotomy r p with y | y | y
          · rw [nx_lo y] at z3
            have := h2 r y; omega
          · subst y; rw [nx_i] at z3; omega
          · exact y
        obtain ⟨t, t1, t2, t3⟩ := pm_in hv hN z1 z2
        have := nx_rise (u := nx_w n p j w) (fun k k1 k2 => nx_up hw hd hi hj hlt hg k1 k2) hr (t - r) (by omega)
        rw [show r + (t - r) = t by omega] at this
        omega
      · exact Or.inr z
    · exact Or.inr ⟨p, h1, fun k hk => by rw [nx_lo hk]; exact h2 k hk, by rw [nx_i]; omega⟩
  · exfalso
    have := pm_last hv hw (i := i + 1) (fun k k1 k2 => hd k (by omega) k2) h1 (by omega) (fun k hk => (h2 k hk).symm)
    omega
theorem pm_id (n : Nat) : rw_pm n (fun j => (j : Int)) := ⟨fun j hj => by show 0 ≤ (j : Int) ∧ (j : Int) < (n : Int); omega, fun i j _ _ e => by have e : (i : Int) = (j : Int) := e; omega⟩
theorem pm_first {n : Nat} {v : Nat → Int} (hv : rw_pm n v) : ¬ rw_lt n v (fun j => (j : Int)) := by
  rintro ⟨i, h1, h2, h3⟩
  have a := hv.1 i h1
  have h3 : v i < (i : Int) := h3
  have b : v (v i).toNat = (((v i).toNat : Nat) : Int) := h2 (v i).toNat (by omega)
  have := hv.2 (v i).toNat i (by omega) h1 (by rw [b]; omega)
  omega
/-- a row's number, by which rows grow -/
def rk_n (w : Nat → Int) : Nat → Int
  | 0 => 0
  | n + 1 => 8 * rk_n w n + w n
theorem rk_bd {w : Nat → Int} : ∀ n : Nat, (∀ j, j < n → 0 ≤ w j ∧ w j < 8) → 0 ≤ rk_n w n ∧ rk_n w n < 8 ^ n := by
  intro n
  induction n with
  | zero => intro _; exact ⟨Int.le_refl _, by show (0 : Int) < 8 ^ 0; decide⟩
  | succ n ih =>
    intro h
    have a := ih (fun j hj => h j (by omega))
    have b := h n (by omega)
    have e : (8 : Int) ^ (n + 1) = 8 * 8 ^ n := by rw [Int.pow_succ]; omega
    show 0 ≤ 8 * rk_n w n + w n ∧ 8 * rk_n w n + w n < _
    rw [e]
    omega
theorem rk_congr {v w : Nat → Int} : ∀ n : Nat, (∀ j, j < n → v j = w j) → rk_n v n = rk_n w n := by
  intro n
  induction n with
  | zero => intro _; rfl
  | succ n ih =>
    intro h
    show 8 * rk_n v n + v n = 8 * rk_n w n + w n
    rw [ih (fun j hj => h j (by omega)), h n (by omega)]
theorem rk_lt {v w : Nat → Int} : ∀ n : Nat, (∀ j, j < n → (0 ≤ v j ∧ v j < 8) ∧ (0 ≤ w j ∧ w j < 8)) → rw_lt n v w → rk_n v n < rk_n w n := by
  intro n
  induction n with
  | zero => rintro _ ⟨i, h1, _⟩; omega
  | succ n ih =>
    rintro h ⟨i, h1, h2, h3⟩
    have b := h n (by omega)
    show 8 * rk_n v n + v n < 8 * rk_n w n + w n
    by_cases hc : i = n
    · subst hc
      rw [rk_congr i h2]
      omega
    · have := ih (fun j hj => h j (by omega)) ⟨i, by omega, h2, h3⟩
      omega
