/-! what is tried: other parameters, their runs -/
theorem up_eq {p r : tm_M} {a b x y : Nat} {v : Int} (h : p x y = r x y) : tm_up p a b v x y = tm_up r a b v x y := by
  unfold tm_up
  rw [h]
theorem sm_ag_up {p r : tm_M} (h : sm_ag p r) {a : Nat} (ha : a < 4) (b : Nat) (v : Int) : sm_ag (tm_up p a b v) (tm_up r a b v) := by
  obtain ⟨h0, h1, h5, h4⟩ := h
  have e4 : ∀ x y, 4 ≤ x → tm_up p a b v x y = p x y := fun x y hx => tm_uk (by omega)
  have r4 : ∀ x y, 4 ≤ x → tm_up r a b v x y = r x y := fun x y hx => tm_uk (by omega)
  refine ⟨fun j hj => up_eq (h0 j hj), fun x hx => ⟨up_eq (h1 x hx).1, up_eq (h1 x hx).2.1, up_eq (h1 x hx).2.2⟩, ?_, fun q hq => ?_⟩
  · rw [e4 5 0 (by omega), r4 5 0 (by omega)]; exact h5
  · rw [e4 5 0 (by omega)] at hq
    rw [e4 4 q (by omega), r4 4 q (by omega), e4 6 _ (by omega), r4 6 _ (by omega), e4 7 _ (by omega), r4 7 _ (by omega)]
    exact h4 q hq
theorem sm_ag_row {p r : tm_M} (h : sm_ag p r) {a : Nat} (ha : a < 4) (g : Nat → Int) : sm_ag (tm_rowf p a 40 g) (tm_rowf r a 40 g) := by
  obtain ⟨h0, h1, h5, h4⟩ := h
  have U : ∀ x y, p x y = r x y → tm_rowf p a 40 g x y = tm_rowf r a 40 g x y := by
    intro x y q
    unfold tm_rowf
    rw [q]
  have e4 : ∀ x y, 4 ≤ x → tm_rowf p a 40 g x y = p x y := fun x y hx => tm_rowf_k (by omega)
  have r4 : ∀ x y, 4 ≤ x → tm_rowf r a 40 g x y = r x y := fun x y hx => tm_rowf_k (by omega)
  refine ⟨fun j hj => U _ _ (h0 j hj), fun x hx => ⟨U _ _ (h1 x hx).1, U _ _ (h1 x hx).2.1, U _ _ (h1 x hx).2.2⟩, ?_, fun q hq => ?_⟩
  · rw [e4 5 0 (by omega), r4 5 0 (by omega)]; exact h5
  · rw [e4 5 0 (by omega)] at hq
    rw [e4 4 q (by omega), r4 4 q (by omega), e4 6 _ (by omega), r4 6 _ (by omega), e4 7 _ (by omega), r4 7 _ (by omega)]
    exact h4 q hq
theorem sm_p_up (ν : tm_M) {c : Nat} (hc : c < 4) (j : Nat) (v : Int) : sm_p (tm_up ν (44 + c) j v) 43 = tm_up (sm_p ν 43) c j v := by
  funext a b
  rcases (show c = 0 ∨ c = 1 ∨ c = 2 ∨ c = 3 by omega) with rfl | rfl | rfl | rfl <;> rcases a with _ | _ | _ | _ | _ | _ | _ | a <;> simp [sm_p, tm_up]
theorem sm_p_row (ν : tm_M) {c : Nat} (hc : c < 4) (g : Nat → Int) : sm_p (tm_rowf ν (44 + c) 40 g) 43 = tm_rowf (sm_p ν 43) c 40 g := by
  funext a b
  rcases (show c = 0 ∨ c = 1 ∨ c = 2 ∨ c = 3 by omega) with rfl | rfl | rfl | rfl <;> rcases a with _ | _ | _ | _ | _ | _ | _ | a <;> simp [sm_p, tm_rowf]
theorem sm_p_same {μ ν : tm_M} (e : ∀ a, a = 24 ∨ a = 25 ∨ (43 ≤ a ∧ a ≤ 48) → ν a = μ a) : sm_p ν 43 = sm_p μ 43 := by
  funext a b
  unfold sm_p
  rw [e 44 (by omega), e 45 (by omega), e 46 (by omega), e 47 (by omega), e 48 (by omega), e 43 (by omega), e 24 (by omega), e 25 (by omega)]
theorem up_r {p : tm_M} {a b x y : Nat} {v lo hi : Int} (h : lo ≤ p x y ∧ p x y ≤ hi) (hv : a = x → b = y → lo ≤ v ∧ v ≤ hi) : lo ≤ tm_up p a b v x y ∧ tm_up p a b v x y ≤ hi := by
  by_cases ha : x = a
  · by_cases hb : y = b
    · subst ha; subst hb; rw [tm_us]; exact hv rfl rfl
    · rw [tm_uj hb]; exact h
  · rw [tm_uk ha]; exact h
theorem sm_ok_up {p : tm_M} (h : sm_ok p) {a b : Nat} {v : Int} (hv : (a = 0 ∧ b = 0 ∧ 0 ≤ v ∧ v ≤ 20) ∨ (a = 0 ∧ b = 1 ∧ 1 ≤ v ∧ v ≤ 9) ∨ (a = 1 ∧ 0 ≤ v ∧ v ≤ 18) ∨ (a = 2 ∧ 0 ≤ v ∧ v ≤ 10) ∨ (a = 3 ∧ 0 ≤ v ∧ v ≤ 10)) : sm_ok (tm_up p a b v) := by
  obtain ⟨h1, h2, h3, h4, h5, h6, h7, h8, h9, h10⟩ := h
  have e4 : ∀ x, 4 ≤ x → tm_up p a b v x = p x := fun x hx => tm_uf (by omega)
  refine ⟨up_r h1 (by intros; omega), up_r h2 (by intros; omega), up_r h3 (by intros; omega), up_r h4 (by intros; omega), up_r h5 (by intros; omega), fun x hx => up_r (h6 x hx) (by intros; omega), fun x hx => up_r (h7 x hx) (by intros; omega), fun x hx => up_r (h8 x hx) (by intros; omega), ?_, ?_⟩
  · rw [e4 5 (by omega)]; exact h9
  · rw [e4 5 (by omega), e4 4 (by omega), e4 6 (by omega), e4 7 (by omega)]; exact h10
/-- the trial's run -/
def cl_N (μ p : tm_M) : Prop := (∀ h, h < 40 → μ 51 h = sm_z p (h + 1)) ∧ μ 52 39 = sm_t p 40 ∧ (∀ k, k < 8 → μ 56 k = sm_e p 40 k)
theorem cl_N_of {μ ν p : tm_M} (ha : sm_ag (sm_p μ 43) p) (hp : sm_ok p) (e : ν = tm_rn μ (sm_p μ 43) 49 40) : cl_N ν p ∧ ∀ a, a < 49 ∨ 56 < a → ν a = μ a := by
  have hok := sm_ag_ok ha hp
  have sc := fun x hx => sm_ag_sc ha hok (x := x) hx
  subst e
  refine ⟨⟨fun h hh => ?_, ?_, fun k hk => ?_⟩, fun a ha => tm_rn_o (by omega)⟩
  · rw [show tm_rn μ (sm_p μ 43) 49 40 51 h = _ from tm_rn_2 h, if_pos hh, (sc (h + 1) (by omega)).1]
  · rw [show tm_rn μ (sm_p μ 43) 49 40 52 39 = _ from tm_rn_3 39, if_pos (by omega), (sc 40 (by omega)).2.2.2.1]
  · rw [show tm_rn μ (sm_p μ 43) 49 40 56 k = _ from tm_rn_7 k, if_pos hk, (sc 40 (by omega)).2.2.2.2.2.2.2]
/-- the class's state doesn't hang on what is tried -/
theorem cl_I_tr {μ ν d s : tm_M} (h : cl_I μ d s) (e : ∀ a, ¬ (43 ≤ a ∧ a ≤ 56) → a ≠ 73 → ν a = μ a) : cl_I ν d s := by
  obtain ⟨h1, h2, c1, c2, c3, c4, c5⟩ := h
  have e0 := e 0 (by omega) (by omega)
  refine ⟨cl_m_same h1 (fun a ha => e a (by omega) (by omega)), cl_d_same h2 (fun a ha => e a (by omega) (by omega)) (by rw [e0]), by rw [e0]; exact c1, fun q => cl_s_same (c2 (by rw [e0] at q; exact q)) (fun a ha => e a (by omega) (by omega)), by rw [e0]; exact c3, fun q => ?_, ?_⟩
  · rw [e0] at q ⊢
    refine ⟨(c4 q).1, ?_⟩
    unfold cl_p
    rw [e 57 (by omega) (by omega), e 60 (by omega) (by omega)]
    exact (c4 q).2
  · rw [e0]
    rcases c5 with q | ⟨q1, q2, q3⟩
    · exact Or.inl q
    · refine Or.inr ⟨q1, q2, ?_⟩
      unfold cl_w
      rw [e0, e 72 (by omega) (by omega)]
      exact q3
/-- whether all that was seen comes out so -/
def so_b (s p : tm_M) : Bool := decide (∀ j, j < (s 0 0).toNat → sm_z p ((s 1 j).toNat + 1) = s 2 j)
/-- the best of n, the first of them -/
def bs_n (b0 : Int) (f : Nat → Int) : Nat → Int × Int
  | 0 => (b0, -1)
  | n + 1 => if (bs_n b0 f n).2 < f n then ((n : Int), f n) else bs_n b0 f n
theorem bs_s (b0 : Int) (f : Nat → Int) (n : Nat) : bs_n b0 f (n + 1) = if (bs_n b0 f n).2 < f n then ((n : Int), f n) else bs_n b0 f n := rfl
theorem bs_0 {b0 b1 : Int} {f : Nat → Int} (h : 0 ≤ f 0) : ∀ n, bs_n b0 f (n + 1) = bs_n b1 f (n + 1) := by
  intro n
  induction n with
  | zero => rw [bs_s, bs_s, if_pos (show (bs_n b0 f 0).2 < f 0 from (by show (-1 : Int) < f 0; omega)), if_pos (show (bs_n b1 f 0).2 < f 0 from (by show (-1 : Int) < f 0; omega))]
  | succ n ih => rw [bs_s, bs_s b1, ih]
theorem bs_r {b0 : Int} {f : Nat → Int} {c : Int} (hb : -1 ≤ b0 ∧ b0 ≤ 0) : ∀ n, (∀ k, k < n → 0 ≤ f k ∧ f k ≤ c) → n ≤ 100 → (-1 ≤ (bs_n b0 f n).1 ∧ (bs_n b0 f n).1 ≤ 100) ∧ (-1 ≤ (bs_n b0 f n).2 ∧ ((bs_n b0 f n).2 ≤ c ∨ (bs_n b0 f n).2 = -1)) := by
  intro n
  induction n with
  | zero => intro _ _; exact ⟨⟨hb.1, by show b0 ≤ 100; omega⟩, ⟨Int.le_refl _, Or.inr rfl⟩⟩
  | succ n ih =>
    intro h hn
    have q := ih (fun k hk => h k (by omega)) (by omega)
    have q2 := h n (by omega)
    rw [bs_s]
    by_cases hc : (bs_n b0 f n).2 < f n
    · rw [if_pos hc]; exact ⟨⟨by show -1 ≤ (n : Int); omega, by show (n : Int) ≤ 100; omega⟩, ⟨by show -1 ≤ f n; omega, Or.inl q2.2⟩⟩
    · rw [if_neg hc]; exact q
/-! the tried parameters -/
def dr_p (d : tm_M) (h : Nat) : tm_M := tm_up (dd_p d) 3 h (dd_p d 3 h + 1)
def di_p (d : tm_M) (j : Nat) (v : Int) : tm_M := tm_up (dd_p d) 0 j v
def nv_p (d : tm_M) (k : Nat) : tm_M := tm_up (dd_p d) 2 (d 4 k).toNat (dd_p d 2 (d 4 k).toNat - 1)
def ou_p (d : tm_M) (k : Nat) : tm_M := fun a b => if a = 4 then (if b < k then (b : Int) else (b : Int) + 1) else if a = 5 then (dd_n d : Int) - 1 else dd_p d a b
def mo_l (x : Int) : Nat → Int
  | 0 => x
  | n + 1 => 1103515245 * mo_l x n + 12345
def mo_s (x : Int) : Int := ((Int32.ofInt x).toUInt32 >>> ((Int32.ofInt 16).toUInt32 &&& Int32.toUInt32 31)).toInt32.toInt
def mo_f (x n : Int) (h : Nat) : Int := if (h : Int) < n then 2 * (mo_s (mo_l x (h + 1)) % 10) else 0
def mo_p (d : tm_M) (x n : Int) : tm_M := tm_rowf (dd_p d) 1 40 (mo_f x n)
theorem dd_p_3 {d : tm_M} (hd : dd_ok d) (h : Nat) : 0 ≤ dd_p d 3 h ∧ dd_p d 3 h ≤ 6 := by
  have q := ct_bd (fun k => decide (d 5 k = (h : Int))) (d 3 1).toNat
  have q2 := hd.2.2.2.2.2.1
  show 0 ≤ ct_n _ _ ∧ ct_n _ _ ≤ 6
  omega
theorem dd_p_2 {d : tm_M} (hd : dd_ok d) (h : Nat) : 0 ≤ dd_p d 2 h ∧ dd_p d 2 h ≤ 6 := by
  have q := ct_bd (fun k => decide (d 4 k = (h : Int))) (d 3 0).toNat
  have q2 := hd.2.2.2.2.1
  show 0 ≤ ct_n _ _ ∧ ct_n _ _ ≤ 6
  omega
theorem dr_ok {d : tm_M} (hd : dd_ok d) (h : Nat) : sm_ok (dr_p d h) := sm_ok_up (dd_p_ok hd) (by have q := dd_p_3 hd h; omega)
theorem di_ok0 {d : tm_M} (hd : dd_ok d) {v : Int} (hv : 0 ≤ v ∧ v ≤ 20) : sm_ok (di_p d 0 v) := sm_ok_up (dd_p_ok hd) (by omega)
theorem di_ok1 {d : tm_M} (hd : dd_ok d) {v : Int} (hv : 1 ≤ v ∧ v ≤ 9) : sm_ok (di_p d 1 v) := sm_ok_up (dd_p_ok hd) (by omega)
theorem ct_s (f : Nat → Bool) (n : Nat) : ct_n f (n + 1) = ct_n f n + (if f n = true then 1 else 0) := rfl
theorem ct_out (f : Nat → Bool) {k : Nat} : ∀ n, k < n → ct_n (fun j => f j && !(decide (j = k))) n = ct_n f n - (if f k = true then 1 else 0) := by
  intro n
  induction n with
  | zero => intro h; omega
  | succ n ih =>
    intro h
    rw [ct_s, ct_s]
    by_cases hk : k = n
    · subst hk
      have e : ct_n (fun j => f j && !(decide (j = k))) k = ct_n f k := ct_congr k (fun j hj => by simp; intro _; omega)
      rw [e]
      simp
    · rw [ih (by omega)]
      have e : (f n && !(decide (n = k))) = f n := by simp; intro _; omega
      simp only [e]
      omega
theorem nv_pos {d : tm_M} (hd : dd_ok d) {k : Nat} (hk : (k : Int) < d 3 0) : 1 ≤ dd_p d 2 (d 4 k).toNat ∧ dd_p d 2 (d 4 k).toNat ≤ 6 := by
  have h4 := hd.2.2.2.2.2.2.1 k hk
  have e := ct_out (fun j => decide (d 4 j = ((d 4 k).toNat : Int))) (k := k) (d 3 0).toNat (by omega)
  rw [if_pos (by simp; omega)] at e
  have q := (ct_bd (fun j => decide (d 4 j = ((d 4 k).toNat : Int)) && !(decide (j = k))) (d 3 0).toNat).1
  have q2 := (dd_p_2 hd (d 4 k).toNat).2
  refine ⟨?_, q2⟩
  show 1 ≤ ct_n (fun j => decide (d 4 j = ((d 4 k).toNat : Int))) (d 3 0).toNat
  omega
theorem nv_ok {d : tm_M} (hd : dd_ok d) {k : Nat} (hk : (k : Int) < d 3 0) : sm_ok (nv_p d k) := sm_ok_up (dd_p_ok hd) (by have q := nv_pos hd hk; omega)
theorem ou_ok {d : tm_M} (hd : dd_ok d) {k : Nat} (hk : k < dd_n d) : sm_ok (ou_p d k) := by
  obtain ⟨h1, h2, h3, h4, h5, h6, h7, h8, h9, h10⟩ := dd_p_ok hd
  have h8n : dd_n d ≤ 8 := sp_no_bd _ (by have q := hd.2.1; omega)
  have e5 : ou_p d k 5 0 = (dd_n d : Int) - 1 := rfl
  refine ⟨h1, h2, h3, h4, h5, h6, h7, h8, by rw [e5]; omega, fun q hq => ?_⟩
  rw [e5] at hq
  have e4 : ou_p d k 4 q = ((if q < k then q else q + 1 : Nat) : Int) := by
    show (if q < k then (q : Int) else (q : Int) + 1) = _
    split <;> simp
  rw [e4]
  have q1 := h10 (if q < k then q else q + 1) (by show ((if q < k then q else q + 1 : Nat) : Int) < (dd_n d : Int); split <;> omega)
  exact q1
theorem mo_r (x : Int) : 0 ≤ mo_s x ∧ mo_s x ≤ 65535 := by
  unfold mo_s
  have e : ((Int32.ofInt 16).toUInt32 &&& Int32.toUInt32 31) = 16 := by decide
  rw [e]
  have h : ((Int32.ofInt x).toUInt32 >>> 16).toNat ≤ 65535 := by
    rw [UInt32.toNat_shiftRight]
    have := (Int32.ofInt x).toUInt32.toNat_lt
    show (Int32.ofInt x).toUInt32.toNat >>> (16 % 32) ≤ 65535
    rw [Nat.shiftRight_eq_div_pow, show (2 : Nat) ^ (16 % 32) = 65536 by decide]
    omega
  have e2 : ((Int32.ofInt x).toUInt32 >>> 16).toInt32.toInt = (((Int32.ofInt x).toUInt32 >>> 16).toNat : Int) := by
    show ((Int32.ofInt x).toUInt32 >>> 16).toBitVec.toInt = _
    rw [BitVec.toInt_eq_toNat_of_lt (by show 2 * ((Int32.ofInt x).toUInt32 >>> 16).toNat < 2 ^ 32; omega)]
    rfl
  rw [e2]
  omega
theorem mo_ok {d : tm_M} (hd : dd_ok d) (x n : Int) : sm_ok (mo_p d x n) := by
  obtain ⟨h1, h2, h3, h4, h5, h6, h7, h8, h9, h10⟩ := dd_p_ok hd
  refine ⟨h1, h2, h3, h4, h5, fun h hh => ?_, h7, h8, h9, h10⟩
  show 0 ≤ tm_rowf (dd_p d) 1 40 (mo_f x n) 1 h ∧ tm_rowf (dd_p d) 1 40 (mo_f x n) 1 h ≤ 18
  rw [tm_rowf_in hh]
  unfold mo_f
  have q := mo_r (mo_l x (h + 1))
  split <;> omega
/-- ends of orders in their row -/
theorem sm_id {p : tm_M} {n : Nat} (hp : sm_ok p) (h4 : ∀ q, q < n → p 4 q = (q : Int)) (h5 : p 5 0 = (n : Int)) : ∀ h, h ≤ 40 → ∀ k, k < n → (sm_e p h k = -1 ↔ sm_q p h ≤ k) := by
  intro h
  induction h with
  | zero => intro _ k _; exact ⟨fun _ => Nat.zero_le _, fun _ => rfl⟩
  | succ h ih =>
    intro hh k hk
    have q := ih (by omega) k hk
    rw [sm_e_s, sm_q_s]
    by_cases hN : sm_N p h = true
    · rw [if_pos hN, if_pos hN]
      have hG := (sm_G_1 hp ((sm_N_iff p h).mp hN).1).2
      have hf : sm_f p (sm_q p h) = (sm_q p h : Int) := by unfold sm_f; rw [if_pos hG, h4 _ (by omega)]
      rw [hf]
      by_cases hc : k = sm_q p h
      · rw [if_pos (by omega)]; constructor <;> intro _ <;> omega
      · rw [if_neg (by omega), q]; omega
    · rw [if_neg hN, if_neg hN]; exact q
def le_g (d : tm_M) (v : Nat) : Bool := decide (sm_q (di_p d 0 (v : Int)) 40 = dd_n d)
theorem le_iff {d : tm_M} (hd : dd_ok d) {v : Nat} (hv : v ≤ 20) : le_g d v = true ↔ ∀ k, k < dd_n d → ¬ sm_e (di_p d 0 (v : Int)) 40 k = -1 := by
  have hp := di_ok0 hd (v := (v : Int)) (by omega)
  have hq := (sm_bd hp 40 (by omega)).2.2.2.2.2.1
  have h5 : di_p d 0 (v : Int) 5 0 = (dd_n d : Int) := rfl
  rw [h5] at hq
  have hi := sm_id (n := dd_n d) hp (fun q _ => rfl) h5 40 (by omega)
  unfold le_g
  rw [decide_eq_true_eq]
  constructor
  · intro q k hk q2
    have := (hi k hk).mp q2
    omega
  · intro q
    by_cases hc : sm_q (di_p d 0 (v : Int)) 40 = dd_n d
    · exact hc
    · exact absurd ((hi (sm_q (di_p d 0 (v : Int)) 40) (by omega)).mpr (Nat.le_refl _)) (q _ (by omega))
/-! the answers -/
def dr_z (d : tm_M) (w : Int) : Int := if 0 ≤ w ∧ w ≤ 1 then (if w = 0 then (bs_n (-1) (fun h => sm_t (dr_p d h) 40) 40).1 else (bs_n (-1) (fun h => sm_t (dr_p d h) 40) 40).2) else -2
def le_z (d : tm_M) : Int := fi_n (fun v => !(le_g d v)) 21 0
def sd_z (d : tm_M) (w : Int) : Int := if 0 ≤ w ∧ w ≤ 1 then (if w = 0 then (bs_n (-1) (fun k => py_s d (sm_e (ou_p d k) 40)) (dd_n d)).1 else (bs_n (-1) (fun k => py_s d (sm_e (ou_p d k) 40)) (dd_n d)).2) else -2
def nv_z (d s : tm_M) : Int := bi_n (fun k => so_b s (nv_p d k)) (d 3 0).toNat
def fl_z (d s : tm_M) : Int := bi_n (fun v => decide (1 ≤ v) && so_b s (di_p d 1 (v : Int))) 10
def sb_z (d s : tm_M) : Int := bi_n (fun v => so_b s (di_p d 0 (v : Int))) 21
def wa_z (d s : tm_M) (w : Int) : Int := if 0 ≤ w ∧ w ≤ 1 then (if w = 0 then fl_z d s else sb_z d s) else -2
def mn_z (d : tm_M) (x n w : Int) : Int := if (0 ≤ n ∧ n ≤ 40) ∧ (0 ≤ w ∧ w ≤ 1) then (if w = 0 then sm_t (mo_p d x n) 40 else py_s d (sm_e (mo_p d x n) 40)) else -2
def mx_n (f : Nat → Int) : Nat → Int
  | 0 => 0
  | n + 1 => max (mx_n f n) (f n)
def cr_c (d s : tm_M) (h z : Nat) : Int := ct_n (fun v => so_b s (di_p d 0 (v : Int)) && decide (sm_z (di_p d 0 (v : Int)) (h + 1) = (z : Int))) 21
def cr_g (d s : tm_M) (h : Nat) : Int := mx_n (cr_c d s h) 21
def am_n (g : Nat → Int) : Nat → Int × Int
  | 0 => (-1, 0)
  | n + 1 => if (am_n g n).1 = -1 ∨ g n < (am_n g n).2 then ((n : Int), g n) else am_n g n
def as_z (d s : tm_M) : Int := (am_n (cr_g d s) 40).1
theorem mx_le {f : Nat → Int} {c : Int} (hc : 0 ≤ c) : ∀ n, (∀ k, k < n → f k ≤ c) → mx_n f n ≤ c := by
  intro n
  induction n with
  | zero => intro _; exact hc
  | succ n ih =>
    intro h
    have q := ih (fun k hk => h k (by omega))
    have q2 := h n (by omega)
    show max (mx_n f n) (f n) ≤ c
    omega
theorem mx_ge {f : Nat → Int} : ∀ n, 0 ≤ mx_n f n ∧ ∀ k, k < n → f k ≤ mx_n f n := by
  intro n
  induction n with
  | zero => exact ⟨Int.le_refl _, fun k hk => by omega⟩
  | succ n ih =>
    show 0 ≤ max (mx_n f n) (f n) ∧ ∀ k, k < n + 1 → f k ≤ max (mx_n f n) (f n)
    refine ⟨by omega, fun k hk => ?_⟩
    by_cases hc : k = n
    · subst hc; omega
    · have := ih.2 k (by omega); omega
theorem ct_f (n : Nat) : ct_n (fun _ => false) n = 0 := by
  induction n with
  | zero => rfl
  | succ n ih => rw [ct_s, ih]; rfl
theorem ct_pos {f : Nat → Bool} : ∀ n, 0 < ct_n f n → ∃ k, k < n ∧ f k = true := by
  intro n
  induction n with
  | zero => intro h; exact absurd h (Int.lt_irrefl 0)
  | succ n ih =>
    intro h
    by_cases hf : f n = true
    · exact ⟨n, by omega, hf⟩
    · rw [ct_s, if_neg hf] at h
      obtain ⟨k, h1, h2⟩ := ih (by omega)
      exact ⟨k, by omega, h2⟩
/-- the greatest crowd by heights, by starts -/
theorem cr_eq {d s : tm_M} (hd : dd_ok d) {h : Nat} (hh : h < 40) : mx_n (fun a => ct_n (fun b => (so_b s (di_p d 0 (a : Int)) && so_b s (di_p d 0 (b : Int))) && decide (sm_z (di_p d 0 (a : Int)) (h + 1) = sm_z (di_p d 0 (b : Int)) (h + 1))) 21) 21 = cr_g d s h := by
  unfold cr_g
  have key : ∀ a : Nat, so_b s (di_p d 0 (a : Int)) = true → ct_n (fun b => (so_b s (di_p d 0 (a : Int)) && so_b s (di_p d 0 (b : Int))) && decide (sm_z (di_p d 0 (a : Int)) (h + 1) = sm_z (di_p d 0 (b : Int)) (h + 1))) 21 = cr_c d s h (sm_z (di_p d 0 (a : Int)) (h + 1)).toNat ∨ ¬ (0 ≤ sm_z (di_p d 0 (a : Int)) (h + 1)) := by
    intro a ha
    by_cases hz : 0 ≤ sm_z (di_p d 0 (a : Int)) (h + 1)
    · left
      unfold cr_c
      refine ct_congr 21 (fun b hb => ?_)
      simp only [ha, Bool.true_and]
      congr 1
      exact decide_eq_decide.mpr (by omega)
    · exact Or.inr hz
  have zb : ∀ a : Nat, a < 21 → 0 ≤ sm_z (di_p d 0 (a : Int)) (h + 1) ∧ sm_z (di_p d 0 (a : Int)) (h + 1) ≤ 20 := fun a ha => (sm_bd (di_ok0 hd (v := (a : Int)) (by omega)) (h + 1) (by omega)).1
  apply Int.le_antisymm
  · refine mx_le (mx_ge 21).1 21 (fun a ha => ?_)
    by_cases hf : so_b s (di_p d 0 (a : Int)) = true
    · have hz := zb a ha
      rcases key a hf with q | q
      · rw [q]; exact (mx_ge (f := cr_c d s h) 21).2 _ (by omega)
      · exact absurd hz.1 q
    · have e : ct_n (fun b => (so_b s (di_p d 0 (a : Int)) && so_b s (di_p d 0 (b : Int))) && decide (sm_z (di_p d 0 (a : Int)) (h + 1) = sm_z (di_p d 0 (b : Int)) (h + 1))) 21 = 0 := by
        rw [ct_congr (g := fun _ => false) 21 (fun b _ => by simp [hf]), ct_f]
      rw [e]; exact (mx_ge 21).1
  · refine mx_le (mx_ge 21).1 21 (fun z hz => ?_)
    by_cases hp : 0 < cr_c d s h z
    · obtain ⟨a, ha, hb⟩ := ct_pos 21 hp
      simp only [Bool.and_eq_true, decide_eq_true_eq] at hb
      rcases key a hb.1 with q | q
      · have ez : (sm_z (di_p d 0 (a : Int)) (h + 1)).toNat = z := by rw [hb.2]; exact Int.toNat_natCast _
        rw [ez] at q
        rw [← q]
        exact (mx_ge (f := fun a => ct_n (fun b => (so_b s (di_p d 0 (a : Int)) && so_b s (di_p d 0 (b : Int))) && decide (sm_z (di_p d 0 (a : Int)) (h + 1) = sm_z (di_p d 0 (b : Int)) (h + 1))) 21) 21).2 a ha
      · exact absurd (zb a ha).1 q
    · have := (mx_ge (f := fun a => ct_n (fun b => (so_b s (di_p d 0 (a : Int)) && so_b s (di_p d 0 (b : Int))) && decide (sm_z (di_p d 0 (a : Int)) (h + 1) = sm_z (di_p d 0 (b : Int)) (h + 1))) 21) 21).1
      omega
