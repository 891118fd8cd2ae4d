/-! the first that isn't so; rows written by a rule -/
def fi_n (ok : Nat → Bool) : Nat → Nat → Int
  | 0, _ => -1
  | m + 1, i => if ok i = true then fi_n ok m (i + 1) else (i : Int)
theorem fi_y {ok : Nat → Bool} {n i : Nat} (h : i < n) (hi : ok i = true) : fi_n ok (n - i) i = fi_n ok (n - (i + 1)) (i + 1) := by
  obtain ⟨m, hm⟩ : ∃ m, n - i = m + 1 := ⟨n - i - 1, by omega⟩
  rw [hm, show n - (i + 1) = m by omega]
  show (if ok i = true then _ else _) = _
  rw [if_pos hi]
theorem fi_x {ok : Nat → Bool} {n i : Nat} (h : i < n) (hi : ¬ ok i = true) : fi_n ok (n - i) i = (i : Int) := by
  obtain ⟨m, hm⟩ : ∃ m, n - i = m + 1 := ⟨n - i - 1, by omega⟩
  rw [hm]
  show (if ok i = true then _ else _) = _
  rw [if_neg hi]
theorem fi_e {ok : Nat → Bool} {n i : Nat} (h : n ≤ i) : fi_n ok (n - i) i = -1 := by
  rw [show n - i = 0 by omega]
  rfl
theorem fi_spec {ok : Nat → Bool} : ∀ (m i : Nat), (fi_n ok m i = -1 ∧ ∀ j, i ≤ j → j < i + m → ok j = true) ∨ (∃ j : Nat, i ≤ j ∧ j < i + m ∧ fi_n ok m i = (j : Int) ∧ ¬ ok j = true ∧ ∀ a, i ≤ a → a < j → ok a = true) := by
  intro m
  induction m with
  | zero => intro i; exact Or.inl ⟨rfl, fun j h1 h2 => by omega⟩
  | succ m ih =>
    intro i
    by_cases hi : ok i = true
    · have e : fi_n ok (m + 1) i = fi_n ok m (i + 1) := by
        show (if ok i = true then _ else _) = _
        rw [if_pos hi]
      rw [e]
      rcases ih (i + 1) with ⟨h1, h2⟩ | ⟨j, h1, h2, h3, h4, h5⟩
      · refine Or.inl ⟨h1, fun j h3 h4 => ?_⟩
        by_cases hj : j = i
        · rw [hj]; exact hi
        · exact h2 j (by omega) (by omega)
      · refine Or.inr ⟨j, by omega, by omega, h3, h4, fun a h6 h7 => ?_⟩
        by_cases ha : a = i
        · rw [ha]; exact hi
        · exact h5 a (by omega) h7
    · have e : fi_n ok (m + 1) i = (i : Int) := by
        show (if ok i = true then _ else _) = _
        rw [if_neg hi]
      exact Or.inr ⟨i, by omega, by omega, e, hi, fun a h6 h7 => by omega⟩
theorem fi_congr {ok ok' : Nat → Bool} : ∀ (m i : Nat), (∀ j, i ≤ j → j < i + m → ok j = ok' j) → fi_n ok m i = fi_n ok' m i := by
  intro m
  induction m with
  | zero => intro i _; rfl
  | succ m ih =>
    intro i h
    show (if ok i = true then fi_n ok m (i + 1) else _) = (if ok' i = true then fi_n ok' m (i + 1) else _)
    rw [h i (by omega) (by omega), ih (i + 1) (fun j h1 h2 => h j (by omega) (by omega))]
theorem fi_bd {ok : Nat → Bool} (m i : Nat) : -1 ≤ fi_n ok m i ∧ fi_n ok m i < (i + m : Nat) ∨ fi_n ok m i = -1 := by
  rcases fi_spec (ok := ok) m i with ⟨h, _⟩ | ⟨j, h1, h2, h3, _⟩
  · exact Or.inr h
  · left; rw [h3]; omega
def tm_rowf (μ : tm_M) (k n : Nat) (g : Nat → Int) : tm_M := fun a b => if a = k then (if b < n then g b else μ a b) else μ a b
theorem tm_rowf_0 (μ : tm_M) (k : Nat) (g : Nat → Int) : tm_rowf μ k 0 g = μ := by
  funext a b
  simp [tm_rowf]
theorem tm_rowf_k {μ : tm_M} {k n a b : Nat} {g : Nat → Int} (h : a ≠ k) : tm_rowf μ k n g a b = μ a b := by simp [tm_rowf, h]
theorem tm_rowf_f {μ : tm_M} {k n a : Nat} {g : Nat → Int} (h : a ≠ k) : tm_rowf μ k n g a = μ a := by funext b; exact tm_rowf_k h
theorem tm_rowf_in {μ : tm_M} {k n b : Nat} {g : Nat → Int} (h : b < n) : tm_rowf μ k n g k b = g b := by simp [tm_rowf, h]
theorem tm_rowf_out {μ : tm_M} {k n b : Nat} {g : Nat → Int} (h : n ≤ b) : tm_rowf μ k n g k b = μ k b := by
  have : ¬ b < n := by omega
  simp [tm_rowf, this]
theorem tm_rowf_s {μ : tm_M} {k n : Nat} {g : Nat → Int} {v : Int} (hv : v = g n) : tm_up (tm_rowf μ k n g) k n v = tm_rowf μ k (n + 1) g := by
  funext a b
  by_cases ha : a = k
  · subst ha
    rw [tm_ua]
    by_cases hb : b = n
    · subst hb
      rw [if_pos rfl, tm_rowf_in (by omega), hv]
    · rw [if_neg hb]
      by_cases h2 : b < n
      · rw [tm_rowf_in h2, tm_rowf_in (by omega)]
      · rw [tm_rowf_out (by omega), tm_rowf_out (by omega)]
  · rw [tm_uk ha, tm_rowf_k ha, tm_rowf_k ha]
/-! texts -/
def ok_t (f : Nat → Int) (j : Nat) : Bool := decide (48 ≤ f j ∧ f j ≤ 57)
def sp_fit (b : Int) (pl : Nat) : Bool := match pl with
  | 0 => decide (b = 119 ∨ b = 114 ∨ b = 111)
  | 1 => decide (49 ≤ b ∧ b ≤ 57)
  | 2 => decide (48 ≤ b ∧ b ≤ 51)
  | 5 => decide (b = 59)
  | _ => decide (48 ≤ b ∧ b ≤ 57)
def ok_o (f : Nat → Int) (j : Nat) : Bool := sp_fit (f j) (j % 6)
def sp_tf (f : Nat → Int) (n : Nat) : Int := fi_n (ok_t f) n 0
def sp_of (f : Nat → Int) (n : Nat) : Int := if fi_n (ok_o f) n 0 = -1 then (if n = 0 ∨ n % 6 = 5 then -1 else (n : Int)) else fi_n (ok_o f) n 0
def sp_no (f : Nat → Int) (n : Nat) : Nat := if sp_of f n = -1 then (n + 1) / 6 else 0
def od_g (f : Nat → Int) (k : Nat) : Int := if f (6 * k) = 119 then 0 else if f (6 * k) = 114 then 1 else 2
def od_s (f : Nat → Int) (k : Nat) : Int := f (6 * k + 1) - 48
def od_d (f : Nat → Int) (k : Nat) : Int := (f (6 * k + 2) - 48) * 10 + f (6 * k + 3) - 48
def od_p (f : Nat → Int) (k : Nat) : Int := f (6 * k + 4) - 48
def sp_sea (f : Nat → Int) (n : Nat) (h : Nat) : Int := if sp_tf f n = -1 ∧ h < n then 2 * (f h - 48) else 0
/-! the mill's data. d: 0 the texts' sizes, 1 and 2 their bytes, 3 how many rains and dressings, 4 and 5 their hours, 6 the dials -/
def dd_n (d : tm_M) : Nat := sp_no (d 2) (d 0 1).toNat
def dd_p (d : tm_M) : tm_M := fun a b => match a with
  | 0 => d 6 b
  | 1 => sp_sea (d 1) (d 0 0).toNat b
  | 2 => ct_n (fun k => decide (d 4 k = (b : Int))) (d 3 0).toNat
  | 3 => ct_n (fun k => decide (d 5 k = (b : Int))) (d 3 1).toNat
  | 4 => (b : Int)
  | 5 => (dd_n d : Int)
  | 6 => od_g (d 2) b
  | _ => od_s (d 2) b
def dd_ok (d : tm_M) : Prop := (0 ≤ d 0 0 ∧ d 0 0 ≤ 40) ∧ (0 ≤ d 0 1 ∧ d 0 1 ≤ 47) ∧ (∀ j : Nat, (j : Int) < d 0 0 → 0 ≤ d 1 j ∧ d 1 j ≤ 255) ∧ (∀ j : Nat, (j : Int) < d 0 1 → 0 ≤ d 2 j ∧ d 2 j ≤ 255) ∧ (0 ≤ d 3 0 ∧ d 3 0 ≤ 6) ∧ (0 ≤ d 3 1 ∧ d 3 1 ≤ 6) ∧ (∀ j : Nat, (j : Int) < d 3 0 → 0 ≤ d 4 j ∧ d 4 j ≤ 39) ∧ (∀ j : Nat, (j : Int) < d 3 1 → 0 ≤ d 5 j ∧ d 5 j ≤ 39) ∧ (0 ≤ d 6 0 ∧ d 6 0 ≤ 20) ∧ (1 ≤ d 6 1 ∧ d 6 1 ≤ 9) ∧ (0 ≤ d 6 2 ∧ d 6 2 ≤ 9) ∧ (0 ≤ d 6 3 ∧ d 6 3 ≤ 9) ∧ (1 ≤ d 6 4 ∧ d 6 4 ≤ 9)
theorem sp_no_bd (f : Nat → Int) {n : Nat} (h : n ≤ 47) : sp_no f n ≤ 8 := by
  unfold sp_no
  split <;> omega
theorem sp_of_none {f : Nat → Int} {n : Nat} (h : sp_of f n = -1) : (∀ j, j < n → ok_o f j = true) ∧ (n = 0 ∨ n % 6 = 5) := by
  unfold sp_of at h
  rcases fi_spec (ok := ok_o f) n 0 with ⟨h1, h2⟩ | ⟨j, h1, h2, h3, _⟩
  · rw [if_pos h1] at h
    refine ⟨fun j hj => h2 j (by omega) (by omega), ?_⟩
    by_cases hc : n = 0 ∨ n % 6 = 5
    · exact hc
    · rw [if_neg hc] at h; omega
  · rw [if_neg (by omega), h3] at h; omega
theorem sp_no_in {f : Nat → Int} {n k : Nat} (hk : k < sp_no f n) : sp_of f n = -1 ∧ 6 * k + 5 ≤ n ∧ ∀ j, j < n → ok_o f j = true := by
  unfold sp_no at hk
  by_cases h : sp_of f n = -1
  · rw [if_pos h] at hk
    obtain ⟨h1, h2⟩ := sp_of_none h
    exact ⟨h, by omega, h1⟩
  · rw [if_neg h] at hk; omega
/-- what the orders that there are say -/
theorem od_bd {f : Nat → Int} {n k : Nat} (hk : k < sp_no f n) : (0 ≤ od_g f k ∧ od_g f k ≤ 2) ∧ (1 ≤ od_s f k ∧ od_s f k ≤ 9) ∧ (0 ≤ od_d f k ∧ od_d f k ≤ 39) ∧ (0 ≤ od_p f k ∧ od_p f k ≤ 9) := by
  obtain ⟨h1, h2, h3⟩ := sp_no_in hk
  have a1 := h3 (6 * k + 1) (by omega)
  have a2 := h3 (6 * k + 2) (by omega)
  have a3 := h3 (6 * k + 3) (by omega)
  have a4 := h3 (6 * k + 4) (by omega)
  unfold ok_o at a1 a2 a3 a4
  rw [show (6 * k + 1) % 6 = 1 by omega] at a1
  rw [show (6 * k + 2) % 6 = 2 by omega] at a2
  rw [show (6 * k + 3) % 6 = 3 by omega] at a3
  rw [show (6 * k + 4) % 6 = 4 by omega] at a4
  simp only [sp_fit, decide_eq_true_eq] at a1 a2 a3 a4
  refine ⟨?_, ?_, ?_, ?_⟩
  · unfold od_g; split
    · omega
    · split <;> omega
  · unfold od_s; omega
  · unfold od_d; omega
  · unfold od_p; omega
theorem sp_sea_bd {f : Nat → Int} {n : Nat} (h : Nat) : 0 ≤ sp_sea f n h ∧ sp_sea f n h ≤ 18 := by
  unfold sp_sea
  split
  · rename_i hc
    rcases fi_spec (ok := ok_t f) n 0 with ⟨h1, h2⟩ | ⟨j, h1, h2, h3, _⟩
    · have := h2 h (by omega) (by omega)
      simp only [ok_t, decide_eq_true_eq] at this
      omega
    · have h4 := hc.1
      unfold sp_tf at h4
      omega
  · omega
theorem dd_p_ok {d : tm_M} (h : dd_ok d) : sm_ok (dd_p d) := by
  obtain ⟨h1, h2, h3, h4, h5, h6, h7, h8, h9, h10, h11, h12, h13⟩ := h
  refine ⟨h9, h10, h11, h12, h13, fun a _ => sp_sea_bd a, fun a _ => ?_, fun a _ => ?_, ?_, ?_⟩
  · have := ct_bd (fun k => decide (d 4 k = (a : Int))) (d 3 0).toNat
    show 0 ≤ ct_n _ _ ∧ ct_n _ _ ≤ 10
    omega
  · have := ct_bd (fun k => decide (d 5 k = (a : Int))) (d 3 1).toNat
    show 0 ≤ ct_n _ _ ∧ ct_n _ _ ≤ 10
    omega
  · have := sp_no_bd (d 2) (n := (d 0 1).toNat) (by omega)
    show 0 ≤ (dd_n d : Int) ∧ (dd_n d : Int) ≤ 8
    unfold dd_n
    omega
  · intro q hq
    have hq1 : (q : Int) < (dd_n d : Int) := hq
    have hq2 : q < sp_no (d 2) (d 0 1).toNat := by unfold dd_n at hq1; omega
    have hb := od_bd hq2
    have h8 := sp_no_bd (d 2) (n := (d 0 1).toNat) (by omega)
    refine ⟨?_, ?_, ?_⟩
    · show 0 ≤ (q : Int) ∧ (q : Int) ≤ 7
      omega
    · exact hb.1
    · exact hb.2.1
/-! runs that agree -/
def sm_ag (p r : tm_M) : Prop := (∀ j, j < 5 → p 0 j = r 0 j) ∧ (∀ h, h < 40 → p 1 h = r 1 h ∧ p 2 h = r 2 h ∧ p 3 h = r 3 h) ∧ p 5 0 = r 5 0 ∧ (∀ q : Nat, (q : Int) < p 5 0 → p 4 q = r 4 q ∧ p 6 (p 4 q).toNat = r 6 (p 4 q).toNat ∧ p 7 (p 4 q).toNat = r 7 (p 4 q).toNat)
theorem sm_ag_ok {p r : tm_M} (h : sm_ag p r) (hr : sm_ok r) : sm_ok p := by
  obtain ⟨h0, h1, h5, h4⟩ := h
  obtain ⟨r1, r2, r3, r4, r5, r6, r7, r8, r9, r10⟩ := hr
  refine ⟨by rw [h0 0 (by omega)]; exact r1, by rw [h0 1 (by omega)]; exact r2, by rw [h0 2 (by omega)]; exact r3, by rw [h0 3 (by omega)]; exact r4, by rw [h0 4 (by omega)]; exact r5, fun a ha => by rw [(h1 a ha).1]; exact r6 a ha, fun a ha => by rw [(h1 a ha).2.1]; exact r7 a ha, fun a ha => by rw [(h1 a ha).2.2]; exact r8 a ha, by rw [h5]; exact r9, fun q hq => ?_⟩
  obtain ⟨a1, a2, a3⟩ := h4 q hq
  have := r10 q (by rw [← h5]; exact hq)
  rw [a2, a3, a1]
  exact this
theorem sm_ag_run {p r : tm_M} (h : sm_ag p r) (hp : sm_ok p) : ∀ x, x ≤ 40 → sm_run p x = sm_run r x := by
  intro x
  induction x with
  | zero =>
    intro _
    show (p 0 0, _) = (r 0 0, _)
    rw [h.1 0 (by omega)]
  | succ x ih =>
    intro hx
    have e := ih (by omega)
    show sm_step p x (sm_run p x) = sm_step r x (sm_run r x)
    rw [← e]
    have hq := (sm_bd hp x (by omega)).2.2.2.2.2.1
    have hf : sm_f p (sm_run p x).2.2.2.2.2.1 = sm_f r (sm_run p x).2.2.2.2.2.1 := by
      unfold sm_f
      rw [← h.2.2.1]
      by_cases hc : ((sm_run p x).2.2.2.2.2.1 : Int) < p 5 0
      · rw [if_pos hc, if_pos hc, (h.2.2.2 _ hc).1]
      · rw [if_neg hc, if_neg hc]
    have hg : sm_g p (sm_run p x).2.2.2.2.2.1 = sm_g r (sm_run p x).2.2.2.2.2.1 := by
      unfold sm_g
      rw [← hf]
      by_cases hc : ((sm_run p x).2.2.2.2.2.1 : Int) < p 5 0
      · have e1 : sm_f p (sm_run p x).2.2.2.2.2.1 = p 4 (sm_run p x).2.2.2.2.2.1 := by unfold sm_f; rw [if_pos hc]
        rw [e1, (h.2.2.2 _ hc).2.1]
      · have e1 : sm_f p (sm_run p x).2.2.2.2.2.1 = -1 := by unfold sm_f; rw [if_neg hc]
        rw [e1, if_pos rfl, if_pos rfl]
    have h7 : sm_f p (sm_run p x).2.2.2.2.2.1 = -1 ∨ p 7 (sm_f p (sm_run p x).2.2.2.2.2.1).toNat = r 7 (sm_f p (sm_run p x).2.2.2.2.2.1).toNat := by
      by_cases hc : ((sm_run p x).2.2.2.2.2.1 : Int) < p 5 0
      · have e1 : sm_f p (sm_run p x).2.2.2.2.2.1 = p 4 (sm_run p x).2.2.2.2.2.1 := by unfold sm_f; rw [if_pos hc]
        right
        rw [e1, (h.2.2.2 _ hc).2.2]
      · left; unfold sm_f; rw [if_neg hc]
    have b := h.2.1 x (by omega)
    have hw : ∀ z, sm_wet p x z = sm_wet r x z := by
      intro z
      unfold sm_wet
      rw [b.1, b.2.1, h.1 1 (by omega), h.1 2 (by omega)]
    have hgr : ∀ z w, sm_gr p x z w (sm_run p x).2.2.2.2.2.1 = sm_gr r x z w (sm_run p x).2.2.2.2.2.1 := by
      intro z w
      unfold sm_gr
      rw [hw, hg, b.2.2, b.1, h.1 3 (by omega), h.1 4 (by omega)]
    have hdn : ∀ z w g, sm_dn p x z w (sm_run p x).2.2.2.2.2.1 g = sm_dn r x z w (sm_run p x).2.2.2.2.2.1 g := by
      intro z w g
      unfold sm_dn
      rw [← hf, ← hgr]
      rcases h7 with h7 | h7
      · have e0 : sm_gr p x z w (sm_run p x).2.2.2.2.2.1 = 0 := by
          unfold sm_gr sp_g
          have e2 : sm_g p (sm_run p x).2.2.2.2.2.1 = -1 := by unfold sm_g; rw [if_pos h7]
          by_cases hd : 0 < p 3 x
          · rw [if_pos hd]
          · rw [if_neg hd, if_pos e2]
        rw [e0]
        simp
      · rw [h7]
    unfold sm_step
    rw [hw, hgr, hg, hdn, hf, b.1, b.2.1, b.2.2, h.1 1 (by omega)]
