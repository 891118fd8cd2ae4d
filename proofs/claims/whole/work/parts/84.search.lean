/-! the search over rows, as numbers: which orders are taken, what may still be paid, what was reached before -/
def mk_n (w : Nat → Int) : Nat → Nat
  | 0 => 0
  | k + 1 => mk_n w k + 2 ^ (w k).toNat
theorem mk_add : ∀ x o : Nat, x < 256 → o < 8 → ¬ tb_t (x : Int) o = true → x + 2 ^ o < 256 ∧ ct_n (fun k => tb_t ((x + 2 ^ o : Nat) : Int) k) 8 = ct_n (fun k => tb_t (x : Int) k) 8 + 1 ∧ Int32.ofInt (x : Int) ||| Int32.ofInt ((2 : Int) ^ o) = Int32.ofInt ((x + 2 ^ o : Nat) : Int) := by
  have h : ∀ x : Fin 256, ∀ o : Fin 8, ¬ tb_t ((x : Nat) : Int) (o : Nat) = true → (x : Nat) + 2 ^ (o : Nat) < 256 ∧ ct_n (fun k => tb_t (((x : Nat) + 2 ^ (o : Nat) : Nat) : Int) k) 8 = ct_n (fun k => tb_t ((x : Nat) : Int) k) 8 + 1 ∧ Int32.ofInt ((x : Nat) : Int) ||| Int32.ofInt ((2 : Int) ^ (o : Nat)) = Int32.ofInt (((x : Nat) + 2 ^ (o : Nat) : Nat) : Int) := by decide +kernel
  intro x o hx ho
  exact h ⟨x, hx⟩ ⟨o, ho⟩
theorem mk_bit : ∀ x o j : Nat, x < 256 → o < 8 → j < 8 → ¬ tb_t (x : Int) o = true → tb_t ((x + 2 ^ o : Nat) : Int) j = (tb_t (x : Int) j || decide (j = o)) := by
  have h : ∀ x : Fin 256, ∀ o : Fin 8, ∀ j : Fin 8, ¬ tb_t ((x : Nat) : Int) (o : Nat) = true → tb_t (((x : Nat) + 2 ^ (o : Nat) : Nat) : Int) (j : Nat) = (tb_t ((x : Nat) : Int) (j : Nat) || decide ((j : Nat) = (o : Nat))) := by decide +kernel
  intro x o j hx ho hj
  exact h ⟨x, hx⟩ ⟨o, ho⟩ ⟨j, hj⟩
theorem pf_dn {n k : Nat} {w : Nat → Int} (h : pf_k n (k + 1) w) : pf_k n k w := ⟨fun j hj => h.1 j (by omega), fun i j hi hj e => h.2 i j (by omega) (by omega) e⟩
theorem mk_ok {n : Nat} (hn : n ≤ 8) {w : Nat → Int} : ∀ k, pf_k n k w → mk_n w k < 256 ∧ (∀ o, o < 8 → (tb_t ((mk_n w k : Nat) : Int) o = true ↔ ∃ i, i < k ∧ w i = (o : Int))) ∧ ct_n (fun j => tb_t ((mk_n w k : Nat) : Int) j) 8 = (k : Int) := by
  intro k
  induction k with
  | zero =>
    intro _
    refine ⟨by show 0 < 256; omega, fun o ho => ⟨fun q => ?_, fun ⟨i, h1, _⟩ => by omega⟩, ?_⟩
    · have e : tb_t ((mk_n w 0 : Nat) : Int) o = false := tb_0 o
      rw [e] at q
      cases q
    · show ct_n (fun j => tb_t ((0 : Nat) : Int) j) 8 = ((0 : Nat) : Int)
      decide +kernel
  | succ k ih =>
    intro h
    obtain ⟨a1, a2, a3⟩ := ih (pf_dn h)
    have b := h.1 k (by omega)
    have hno : ¬ tb_t ((mk_n w k : Nat) : Int) (w k).toNat = true := by
      intro q
      obtain ⟨i, h1, h2⟩ := (a2 (w k).toNat (by omega)).mp q
      have := h.2 i k (by omega) (by omega) (by omega)
      omega
    obtain ⟨c1, c2, -⟩ := mk_add (mk_n w k) (w k).toNat a1 (by omega) hno
    refine ⟨c1, fun o ho => ?_, ?_⟩
    · show tb_t ((mk_n w k + 2 ^ (w k).toNat : Nat) : Int) o = true ↔ _
      rw [mk_bit (mk_n w k) (w k).toNat o a1 (by omega) ho hno, Bool.or_eq_true, a2 o ho, decide_eq_true_eq]
      constructor
      · rintro (⟨i, h1, h2⟩ | q)
        · exact ⟨i, by omega, h2⟩
        · exact ⟨k, by omega, by omega⟩
      · rintro ⟨i, h1, h2⟩
        by_cases hc : i = k
        · subst hc; right; omega
        · left; exact ⟨i, by omega, h2⟩
    · show ct_n (fun j => tb_t ((mk_n w k + 2 ^ (w k).toNat : Nat) : Int) j) 8 = _
      rw [c2, a3]
      omega
theorem mk_congr {v w : Nat → Int} : ∀ k, (∀ i, i < k → v i = w i) → mk_n v k = mk_n w k := by
  intro k
  induction k with
  | zero => intro _; rfl
  | succ k ih =>
    intro h
    show mk_n v k + 2 ^ (v k).toNat = mk_n w k + 2 ^ (w k).toNat
    rw [ih (fun i hi => h i (by omega)), h k (by omega)]
/-- where a head of a row is kept -/
def cd_n (x : Nat) (T : Nat × Int × Int) : Int := (((x : Int) * 41 + (T.1 : Int)) * 21 + T.2.1) * 41 + T.2.2
theorem cd_bd {x : Nat} {T : Nat × Int × Int} (hx : x < 256) (h : gd_T T) : 0 ≤ cd_n x T ∧ cd_n x T ≤ 10000000 := by
  obtain ⟨h1, h2, h3⟩ := h
  unfold cd_n
  omega
theorem cd_inj {x y : Nat} {T U : Nat × Int × Int} (h : gd_T T) (g : gd_T U) (e : cd_n x T = cd_n y U) : x = y ∧ T = U := by
  obtain ⟨t1, t2, t3⟩ := T
  obtain ⟨u1, u2, u3⟩ := U
  obtain ⟨h1, h2, h3⟩ := h
  obtain ⟨g1, g2, g3⟩ := g
  have e : (((x : Int) * 41 + (t1 : Int)) * 21 + t2) * 41 + t3 = (((y : Int) * 41 + (u1 : Int)) * 21 + u2) * 41 + u3 := e
  have h1 : t1 ≤ 40 := h1
  have g1 : u1 ≤ 40 := g1
  have h2 : 0 ≤ t2 ∧ t2 ≤ 20 := h2
  have g2 : 0 ≤ u2 ∧ u2 ≤ 20 := g2
  have h3 : 0 ≤ t3 ∧ t3 ≤ (t1 : Int) := h3
  have g3 : 0 ≤ u3 ∧ u3 ≤ (u1 : Int) := g3
  have e3 : t3 = u3 := by omega
  have e2 : t2 = u2 := by omega
  have e1 : t1 = u1 := by omega
  have e0 : x = y := by omega
  subst e3 e2 e1 e0
  exact ⟨rfl, rfl⟩
/-! what may still be paid -/
theorem su_split {f : Nat → Int} {k : Nat} : ∀ n, k ≤ n → su_n (fun i => if i < k then f i else 0) n = su_n f k := by
  intro n
  induction n with
  | zero =>
    intro h
    have : k = 0 := by omega
    subst this
    rfl
  | succ n ih =>
    intro h
    by_cases hc : k = n + 1
    · subst hc
      exact su_congr _ (fun i hi => if_pos hi)
    · rw [su_s, ih (by omega), if_neg (by omega), Int.add_zero]
theorem su_add {f g : Nat → Int} : ∀ n, su_n (fun i => f i + g i) n = su_n f n + su_n g n := by
  intro n
  induction n with
  | zero => rfl
  | succ n ih => rw [su_s, su_s, su_s, ih]; omega
theorem st_up {d : tm_M} {w : Nat → Int} {k : Nat} : ∀ m, (st_n d w k).1 ≤ (st_n d w (k + m)).1 := by
  intro m
  induction m with
  | zero => exact Nat.le_refl _
  | succ m ih =>
    have q := (gd_n_h (p := dd_p d) (g := dd_p d 6 (w (k + m)).toNat) 40 ((st_n d w (k + m)).1, (st_n d w (k + m)).2.1, (st_n d w (k + m)).2.2, dd_p d 7 (w (k + m)).toNat)).2
    have q2 : (st_n d w (k + m)).1 ≤ (st_n d w (k + m + 1)).1 := q
    rw [show k + (m + 1) = k + m + 1 by omega]
    omega
def hp_t (d : tm_M) (h : Int) (x : Nat) (o : Nat) : Int := if ¬ tb_t (x : Int) o = true ∧ h + dd_p d 7 o - 1 ≤ od_d (d 2) o then od_p (d 2) o else 0
def hp_n (d : tm_M) (h : Int) (x : Nat) : Int := su_n (hp_t d h x) (dd_n d)
theorem hp_t_bd {d : tm_M} {h : Int} {x o : Nat} (ho : o < dd_n d) : 0 ≤ hp_t d h x o ∧ hp_t d h x o ≤ 9 := by
  have b := dd_o ho
  unfold hp_t
  split <;> omega
theorem hp_bd {d : tm_M} (hd : dd_ok d) (h : Int) (x : Nat) {k : Nat} (hk : k ≤ dd_n d) : 0 ≤ su_n (hp_t d h x) k ∧ su_n (hp_t d h x) k ≤ 72 := by
  have h8 : dd_n d ≤ 8 := sp_no_bd _ (by have q := hd.2.1; omega)
  have q := su_bd (f := hp_t d h x) (c := 9) k (fun o ho => hp_t_bd (by omega))
  omega
theorem hp_le {d : tm_M} (hd : dd_ok d) {v : Nat → Int} (hv : rw_pm (dd_n d) v) {k : Nat} (hk : k ≤ dd_n d) : pp_n d v (dd_n d) ≤ pp_n d v k + hp_n d ((st_n d v k).1 : Int) (mk_n v k) := by
  have h8 : dd_n d ≤ 8 := sp_no_bd _ (by have q := hd.2.1; omega)
  have hm := mk_ok h8 k (pf_of hv hk)
  have e1 := pm_sum (dd_n d) v hv (hp_t d ((st_n d v k).1 : Int) (mk_n v k))
  have e2 := su_split (f := pp_t d v) (k := k) (dd_n d) hk
  have e3 := su_add (f := fun i => if i < k then pp_t d v i else 0) (g := fun i => hp_t d ((st_n d v k).1 : Int) (mk_n v k) (v i).toNat) (dd_n d)
  unfold hp_n
  rw [← e1]
  show su_n (pp_t d v) (dd_n d) ≤ su_n (pp_t d v) k + _
  rw [← e2, ← e3]
  refine su_le _ (fun i hi => ?_)
  have b := hv.1 i hi
  have bo := hp_t_bd (d := d) (h := ((st_n d v k).1 : Int)) (x := mk_n v k) (o := (v i).toNat) (by omega)
  by_cases hc : i < k
  · rw [if_pos hc]; omega
  · rw [if_neg hc, Int.zero_add]
    unfold pp_t
    by_cases hp : gd_p d (st_n d v i) (v i).toNat = true
    · rw [if_pos hp]
      unfold gd_p at hp
      rw [decide_eq_true_eq] at hp
      have q := (gd_n_h (p := dd_p d) (g := dd_p d 6 (v i).toNat) 40 ((st_n d v i).1, (st_n d v i).2.1, (st_n d v i).2.2, dd_p d 7 (v i).toNat)).1
      have q2 : (((st_n d v i).1 : Nat) : Int) + dd_p d 7 (v i).toNat ≤ ((gd_o (dd_p d) (st_n d v i) (v i).toNat).1 : Int) + (gd_o (dd_p d) (st_n d v i) (v i).toNat).2.2.2 := q
      have q3 := st_up (d := d) (w := v) (k := k) (i - k)
      rw [show k + (i - k) = i by omega] at q3
      unfold hp_t
      rw [if_pos]
      · exact Int.le_refl _
      · refine ⟨fun z => ?_, by omega⟩
        obtain ⟨j, h1, h2⟩ := (hm.2.1 (v i).toNat (by omega)).mp z
        have := hv.2 j i (by omega) hi (by omega)
        omega
    · rw [if_neg hp]; exact bo.1
theorem hp_0 {d : tm_M} (hd : dd_ok d) {w : Nat → Int} (hw : rw_pm (dd_n d) w) (h : Int) : hp_n d h (mk_n w (dd_n d)) = 0 := by
  have h8 : dd_n d ≤ 8 := sp_no_bd _ (by have q := hd.2.1; omega)
  have hm := mk_ok h8 (dd_n d) (pf_of hw (Nat.le_refl _))
  refine su_0 _ (fun o ho => ?_)
  unfold hp_t
  rw [if_neg]
  rintro ⟨q, -⟩
  exact q ((hm.2.1 o (by omega)).mpr (pm_surj hw ho))
/-! what a search brings -/
def ex_k (n k : Nat) (w v : Nat → Int) : Prop := rw_pm n v ∧ ∀ i, i < k → v i = w i
def rs_p (d : tm_M) (m0 : Int) (b0 : Nat → Int) (m : Int) (b : Nat → Int) (S : (Nat → Int) → Prop) : Prop :=
  (m = m0 ∧ (∀ i, i < dd_n d → b i = b0 i) ∧ ∀ v, S v → pp_n d v (dd_n d) ≤ m0) ∨ (m0 < m ∧ S b ∧ pp_n d b (dd_n d) = m ∧ (∀ v, S v → pp_n d v (dd_n d) ≤ m) ∧ ∀ v, S v → rw_lt (dd_n d) v b → pp_n d v (dd_n d) < m)
theorem rs_le {d : tm_M} {m0 m : Int} {b0 b : Nat → Int} {S : (Nat → Int) → Prop} (h : rs_p d m0 b0 m b S) : m0 ≤ m := by
  rcases h with ⟨h, -⟩ | ⟨h, -⟩ <;> omega
theorem rs_all {d : tm_M} {m0 m : Int} {b0 b : Nat → Int} {S : (Nat → Int) → Prop} (h : rs_p d m0 b0 m b S) (v : Nat → Int) (hv : S v) : pp_n d v (dd_n d) ≤ m := by
  rcases h with ⟨h1, -, h3⟩ | ⟨-, -, -, h3, -⟩
  · rw [h1]; exact h3 v hv
  · exact h3 v hv
theorem rs_iff {d : tm_M} {m0 m : Int} {b0 b : Nat → Int} {S S1 : (Nat → Int) → Prop} (e : ∀ v, S1 v ↔ S v) (h : rs_p d m0 b0 m b S) : rs_p d m0 b0 m b S1 := by
  rcases h with ⟨h1, h2, h3⟩ | ⟨h1, h2, h3, h4, h5⟩
  · exact Or.inl ⟨h1, h2, fun v hv => h3 v ((e v).mp hv)⟩
  · exact Or.inr ⟨h1, (e b).mpr h2, h3, fun v hv => h4 v ((e v).mp hv), fun v hv q => h5 v ((e v).mp hv) q⟩
theorem rs_none {d : tm_M} {m0 : Int} {b0 b : Nat → Int} {S : (Nat → Int) → Prop} (hb : ∀ i, i < dd_n d → b i = b0 i) (h : ∀ v, S v → pp_n d v (dd_n d) ≤ m0) : rs_p d m0 b0 m0 b S := Or.inl ⟨rfl, hb, h⟩
theorem rs_seq {d : tm_M} {m0 m1 m2 : Int} {b0 b1 b2 : Nat → Int} {w w1 : Nat → Int} {k o : Nat} (hk : k < dd_n d) (hw : ∀ i, i < k → w1 i = w i) (ho : w1 k = (o : Int)) (h : rs_p d m0 b0 m1 b1 (fun v => ex_k (dd_n d) k w v ∧ v k < (o : Int))) (g : rs_p d m1 b1 m2 b2 (ex_k (dd_n d) (k + 1) w1)) : rs_p d m0 b0 m2 b2 (fun v => ex_k (dd_n d) k w v ∧ v k < ((o + 1 : Nat) : Int)) := by
  have hsp : ∀ v, (ex_k (dd_n d) k w v ∧ v k < ((o + 1 : Nat) : Int)) → (ex_k (dd_n d) k w v ∧ v k < (o : Int)) ∨ ex_k (dd_n d) (k + 1) w1 v := by
    rintro v ⟨⟨q1, q2⟩, q3⟩
    by_cases hc : v k < (o : Int)
    · exact Or.inl ⟨⟨q1, q2⟩, hc⟩
    · refine Or.inr ⟨q1, fun i hi => ?_⟩
      by_cases hik : i = k
      · subst hik; rw [ho]; omega
      · rw [q2 i (by omega), hw i (by omega)]
  have hin : ∀ v, ex_k (dd_n d) (k + 1) w1 v → ex_k (dd_n d) k w v ∧ v k = (o : Int) := by
    rintro v ⟨q1, q2⟩
    exact ⟨⟨q1, fun i hi => by rw [q2 i (by omega), hw i hi]⟩, by rw [q2 k (by omega), ho]⟩
  rcases g with ⟨g1, g2, g3⟩ | ⟨g1, g2, g3, g4, g5⟩
  · rcases h with ⟨h1, h2, h3⟩ | ⟨h1, h2, h3, h4, h5⟩
    · refine Or.inl ⟨by omega, fun i hi => by rw [g2 i hi, h2 i hi], fun v hv => ?_⟩
      rcases hsp v hv with q | q
      · exact h3 v q
      · rw [← h1]; exact g3 v q
    · have eb : pp_n d b2 (dd_n d) = pp_n d b1 (dd_n d) := pp_congr _ g2
      have hb2 : ex_k (dd_n d) k w b2 ∧ b2 k < (o : Int) := by
        refine ⟨⟨⟨fun j hj => by rw [g2 j hj]; exact h2.1.1.1 j hj, fun i j hi hj e => h2.1.1.2 i j hi hj (by rw [← g2 i hi, ← g2 j hj]; exact e)⟩, fun i hi => by rw [g2 i (by omega)]; exact h2.1.2 i hi⟩, by rw [g2 k hk]; exact h2.2⟩
      refine Or.inr ⟨by omega, ⟨hb2.1, by omega⟩, by rw [eb, h3, g1], fun v hv => ?_, fun v hv hlt => ?_⟩
      · rcases hsp v hv with q | q
        · rw [g1]; exact h4 v q
        · rw [g1]; exact g3 v q
      · have hlt1 : rw_lt (dd_n d) v b1 := by
          obtain ⟨i, i1, i2, i3⟩ := hlt
          exact ⟨i, i1, fun j hj => by rw [i2 j hj, g2 j (by omega)], by rw [← g2 i i1]; exact i3⟩
        rcases hsp v hv with q | q
        · rw [g1]; exact h5 v q hlt1
        · exfalso
          have q2 := hin v q
          refine rw_lt_asy hlt1 ⟨k, hk, fun j hj => by rw [h2.1.2 j hj, q2.1.2 j hj], by rw [q2.2]; exact h2.2⟩
  · have q2 := hin b2 g2
    have hm : m0 ≤ m1 := rs_le h
    refine Or.inr ⟨by omega, ⟨q2.1, by rw [q2.2]; omega⟩, g3, fun v hv => ?_, fun v hv hlt => ?_⟩
    · rcases hsp v hv with q | q
      · have := rs_all h v q; omega
      · exact g4 v q
    · rcases hsp v hv with q | q
      · have := rs_all h v q; omega
      · exact g5 v q hlt
theorem rs_skip {d : tm_M} {m0 m : Int} {b0 b : Nat → Int} {w : Nat → Int} {k o i : Nat} (hk : k < dd_n d) (hi : i < k) (ho : w i = (o : Int)) (h : rs_p d m0 b0 m b (fun v => ex_k (dd_n d) k w v ∧ v k < (o : Int))) : rs_p d m0 b0 m b (fun v => ex_k (dd_n d) k w v ∧ v k < ((o + 1 : Nat) : Int)) := by
  refine rs_iff (fun v => ⟨fun q => ⟨q.1, ?_⟩, fun q => ⟨q.1, by have := q.2; omega⟩⟩) h
  have hne : ¬ v k = (o : Int) := by
    intro z
    have := q.1.1.2 i k (by omega) hk (by rw [q.1.2 i hi, ho, z])
    omega
  have := q.2
  omega
theorem rs_end {d : tm_M} {m0 m : Int} {b0 b : Nat → Int} {w : Nat → Int} {k : Nat} (hk : k < dd_n d) (h : rs_p d m0 b0 m b (fun v => ex_k (dd_n d) k w v ∧ v k < ((dd_n d : Nat) : Int))) : rs_p d m0 b0 m b (ex_k (dd_n d) k w) :=
  rs_iff (fun v => ⟨fun q => ⟨q, (q.1.1 k hk).2⟩, fun q => q.1⟩) h
theorem rs_beg {d : tm_M} {m0 : Int} {b0 b : Nat → Int} {w : Nat → Int} {k : Nat} (hk : k < dd_n d) (hb : ∀ i, i < dd_n d → b i = b0 i) : rs_p d m0 b0 m0 b (fun v => ex_k (dd_n d) k w v ∧ v k < ((0 : Nat) : Int)) := by
  refine rs_none hb (fun v hv => ?_)
  have := (hv.1.1.1 k hk).1
  have := hv.2
  omega
theorem rs_leaf {d : tm_M} {m0 : Int} {b0 b : Nat → Int} {w : Nat → Int} (hw : rw_pm (dd_n d) w) (hb : ∀ i, i < dd_n d → b i = w i) (hm : m0 < pp_n d w (dd_n d)) : rs_p d m0 b0 (pp_n d w (dd_n d)) b (ex_k (dd_n d) (dd_n d) w) := by
  refine Or.inr ⟨hm, ⟨⟨fun j hj => by rw [hb j hj]; exact hw.1 j hj, fun i j hi hj e => hw.2 i j hi hj (by rw [← hb i hi, ← hb j hj]; exact e)⟩, hb⟩, pp_congr _ hb, fun v hv => ?_, fun v hv hlt => ?_⟩
  · rw [pp_congr _ hv.2]; exact Int.le_refl _
  · exact absurd hlt (rw_lt_irr (fun j hj => by rw [hv.2 j hj, hb j hj]))
/-! the table of what was reached -/
def cp_p (d : tm_M) (m c q : Int) : Prop := ∀ v, rw_pm (dd_n d) v → ∀ k, k ≤ dd_n d → cd_n (mk_n v k) (st_n d v k) = c → q + (pp_n d v (dd_n d) - pp_n d v k) ≤ m
def an_p (k : Nat) (c : Int) : Prop := ∃ (x : Nat) (T : Nat × Int × Int), gd_T T ∧ c = cd_n x T ∧ ct_n (fun j => tb_t (x : Int) j) 8 < (k : Int)
def tb_p (d μ : tm_M) (k : Nat) (m : Int) : Prop := ∀ a, a < 1021 → (-1 ≤ μ 61 a ∧ μ 61 a ≤ 10000000) ∧ (μ 61 a = -1 ∨ ((0 ≤ μ 62 a ∧ μ 62 a ≤ 72) ∧ (cp_p d m (μ 61 a) (μ 62 a) ∨ an_p k (μ 61 a))))
def td_p (d μ ν : tm_M) (m : Int) : Prop := ∀ a, a < 1021 → (ν 61 a = μ 61 a ∧ ν 62 a = μ 62 a) ∨ ((-1 ≤ ν 61 a ∧ ν 61 a ≤ 10000000) ∧ (0 ≤ ν 62 a ∧ ν 62 a ≤ 72) ∧ cp_p d m (ν 61 a) (ν 62 a))
theorem cp_up {d : tm_M} {m m1 c q : Int} (h : cp_p d m c q) (hm : m ≤ m1) : cp_p d m1 c q := fun v hv k hk e => by
  have := h v hv k hk e
  omega
theorem td_rf (d μ : tm_M) (m : Int) : td_p d μ μ m := fun a _ => Or.inl ⟨rfl, rfl⟩
theorem td_same {d μ ν : tm_M} {m : Int} (h1 : ν 61 = μ 61) (h2 : ν 62 = μ 62) : td_p d μ ν m := fun a _ => Or.inl ⟨by rw [h1], by rw [h2]⟩
theorem td_tr {d μ ν κ : tm_M} {m m1 : Int} (h : td_p d μ ν m) (g : td_p d ν κ m1) (hm : m ≤ m1) : td_p d μ κ m1 := by
  intro a ha
  rcases g a ha with ⟨g1, g2⟩ | g
  · rcases h a ha with ⟨h1, h2⟩ | ⟨h1, h2, h3⟩
    · exact Or.inl ⟨by rw [g1, h1], by rw [g2, h2]⟩
    · exact Or.inr ⟨by rw [g1]; exact h1, by rw [g2]; exact h2, by rw [g1, g2]; exact cp_up h3 hm⟩
  · exact Or.inr g
theorem tb_td {d μ ν : tm_M} {k : Nat} {m m1 : Int} (h : tb_p d μ k m) (g : td_p d μ ν m1) (hm : m ≤ m1) : tb_p d ν k m1 := by
  intro a ha
  obtain ⟨h1, h2⟩ := h a ha
  rcases g a ha with ⟨g1, g2⟩ | ⟨g1, g2, g3⟩
  · rw [g1, g2]
    refine ⟨h1, ?_⟩
    rcases h2 with h2 | ⟨h2, h3⟩
    · exact Or.inl h2
    · refine Or.inr ⟨h2, ?_⟩
      rcases h3 with h3 | h3
      · exact Or.inl (cp_up h3 hm)
      · exact Or.inr h3
  · exact ⟨g1, Or.inr ⟨g2, Or.inl g3⟩⟩
theorem an_up {k : Nat} {c : Int} (h : an_p k c) : an_p (k + 1) c := by
  obtain ⟨x, T, h1, h2, h3⟩ := h
  exact ⟨x, T, h1, h2, by omega⟩
theorem tb_own {d μ ν : tm_M} (hd : dd_ok d) {w : Nat → Int} {k a : Nat} {m : Int} (hw : pf_k (dd_n d) k w) (hk : k ≤ dd_n d) (h : tb_p d μ k m) (e61 : ∀ b, ν 61 b = if b = a then cd_n (mk_n w k) (st_n d w k) else μ 61 b) (e62 : ∀ b, ν 62 b = if b = a then pp_n d w k else μ 62 b) : tb_p d ν (k + 1) m := by
  have h8 : dd_n d ≤ 8 := sp_no_bd _ (by have q := hd.2.1; omega)
  have hm := mk_ok h8 k hw
  have hT := st_T hd k hw
  intro b hb
  rw [e61, e62]
  by_cases hc : b = a
  · rw [if_pos hc, if_pos hc]
    have q := cd_bd hm.1 hT
    exact ⟨by omega, Or.inr ⟨pp_bd hd hw hk, Or.inr ⟨_, _, hT, rfl, by rw [hm.2.2]; omega⟩⟩⟩
  · rw [if_neg hc, if_neg hc]
    obtain ⟨h1, h2⟩ := h b hb
    refine ⟨h1, ?_⟩
    rcases h2 with h2 | ⟨h2, h3⟩
    · exact Or.inl h2
    · refine Or.inr ⟨h2, ?_⟩
      rcases h3 with h3 | h3
      · exact Or.inl h3
      · exact Or.inr (an_up h3)
theorem cp_own {d : tm_M} (hd : dd_ok d) {w : Nat → Int} {k : Nat} {m : Int} (hw : pf_k (dd_n d) k w) (hk : k ≤ dd_n d) (h : ∀ v, ex_k (dd_n d) k w v → pp_n d v (dd_n d) ≤ m) : cp_p d m (cd_n (mk_n w k) (st_n d w k)) (pp_n d w k) := by
  have h8 : dd_n d ≤ 8 := sp_no_bd _ (by have q := hd.2.1; omega)
  intro v hv j hj e
  obtain ⟨e1, e2⟩ := cd_inj (st_T hd j (pf_of hv hj)) (st_T hd k hw) e
  have hm := mk_ok h8 k hw
  have hm2 := mk_ok h8 j (pf_of hv hj)
  have hjk : j = k := by
    have q1 := hm.2.2
    have q2 := hm2.2.2
    rw [e1] at q2
    omega
  subst hjk
  have hu : ex_k (dd_n d) j w (fun i => if i < j then w i else v i) := by
    refine ⟨⟨fun i hi => ?_, fun a b ha hb q => ?_⟩, fun i hi => if_pos hi⟩
    · by_cases hc : i < j
      · simp only [hc, if_true]; exact hw.1 i hc
      · simp only [hc, if_false]; exact hv.1 i hi
    · have key : ∀ a b, a < j → ¬ b < j → b < dd_n d → w a = v b → False := by
        intro a b ha hb hb2 z
        have r := hw.1 a ha
        have t := (hm.2.1 (w a).toNat (by omega)).mpr ⟨a, ha, by omega⟩
        rw [← e1] at t
        obtain ⟨i, i1, i2⟩ := (hm2.2.1 (w a).toNat (by omega)).mp t
        have := hv.2 i b (by omega) hb2 (by omega)
        omega
      by_cases hc : a < j
      · by_cases hc2 : b < j
        · simp only [hc, hc2, if_true] at q
          exact hw.2 a b hc hc2 q
        · simp only [hc, hc2, if_true, if_false] at q
          exact absurd q (fun z => key a b hc hc2 hb z)
      · by_cases hc2 : b < j
        · simp only [hc, hc2, if_true, if_false] at q
          exact absurd q.symm (fun z => key b a hc2 hc ha z)
        · simp only [hc, hc2, if_false] at q
          exact hv.2 a b ha hb q
  have q1 := h _ hu
  have q2 : st_n d (fun i => if i < j then w i else v i) j = st_n d v j := by rw [st_congr j hu.2, e2]
  have q3 := (pp_rest (d := d) (v := fun i => if i < j then w i else v i) (w := v) (k := j) q2 (dd_n d - j) (fun i i1 i2 => if_neg (by omega))).2
  rw [show j + (dd_n d - j) = dd_n d by omega] at q3
  have q4 : pp_n d (fun i => if i < j then w i else v i) j = pp_n d w j := pp_congr j hu.2
  omega
theorem cp_hit {d μ : tm_M} (hd : dd_ok d) {w : Nat → Int} {k a : Nat} {m : Int} (hw : pf_k (dd_n d) k w) (hk : k ≤ dd_n d) (h : tb_p d μ k m) (ha : a < 1021) (e61 : μ 61 a = cd_n (mk_n w k) (st_n d w k)) (e62 : pp_n d w k ≤ μ 62 a) (v : Nat → Int) (hv : ex_k (dd_n d) k w v) : pp_n d v (dd_n d) ≤ m := by
  have h8 : dd_n d ≤ 8 := sp_no_bd _ (by have q := hd.2.1; omega)
  have hm := mk_ok h8 k hw
  have hT := st_T hd k hw
  obtain ⟨h1, h2⟩ := h a ha
  have hb := cd_bd hm.1 hT
  rcases h2 with h2 | ⟨-, h3⟩
  · rw [e61] at h2; omega
  · rcases h3 with h3 | ⟨x, T, t1, t2, t3⟩
    · have q := h3 v hv.1 k hk (by rw [mk_congr k hv.2, st_congr k hv.2, e61])
      rw [pp_congr k hv.2] at q
      omega
    · rw [e61] at t2
      have q := (cd_inj hT t1 t2).1
      rw [← q, hm.2.2] at t3
      omega
/-- a node is through -/
theorem td_node {d μ μ1 ν : tm_M} (hd : dd_ok d) {w : Nat → Int} {k a : Nat} {m : Int} (hw : pf_k (dd_n d) k w) (hk : k ≤ dd_n d) (h : td_p d μ1 ν m) (e61 : ∀ b, μ1 61 b = if b = a then cd_n (mk_n w k) (st_n d w k) else μ 61 b) (e62 : ∀ b, μ1 62 b = if b = a then pp_n d w k else μ 62 b) (hall : ∀ v, ex_k (dd_n d) k w v → pp_n d v (dd_n d) ≤ m) : td_p d μ ν m := by
  have h8 : dd_n d ≤ 8 := sp_no_bd _ (by have q := hd.2.1; omega)
  have hm := mk_ok h8 k hw
  have hT := st_T hd k hw
  intro b hb
  rcases h b hb with ⟨h1, h2⟩ | h1
  · by_cases hc : b = a
    · right
      rw [h1, h2, e61, e62, if_pos hc, if_pos hc]
      have q := cd_bd hm.1 hT
      exact ⟨by omega, pp_bd hd hw hk, cp_own hd hw hk hall⟩
    · left
      rw [h1, h2, e61, e62, if_neg hc, if_neg hc]
      exact ⟨rfl, rfl⟩
  · exact Or.inr h1
theorem ex_hope {d : tm_M} (hd : dd_ok d) {w v : Nat → Int} {k : Nat} {m : Int} (hk : k ≤ dd_n d) (h : pp_n d w k + hp_n d ((st_n d w k).1 : Int) (mk_n w k) ≤ m) (hv : ex_k (dd_n d) k w v) : pp_n d v (dd_n d) ≤ m := by
  have q := hp_le hd hv.1 hk
  rw [pp_congr k hv.2, st_congr k hv.2, mk_congr k hv.2] at q
  omega
/-! a head of a row with one more -/
def w_up (w : Nat → Int) (k o : Nat) : Nat → Int := fun i => if i = k then (o : Int) else w i
theorem wu_lo {w : Nat → Int} {k o i : Nat} (h : i < k) : w_up w k o i = w i := if_neg (by omega)
theorem wu_k {w : Nat → Int} {k o : Nat} : w_up w k o k = (o : Int) := if_pos rfl
theorem wu_pf {n k o : Nat} {w : Nat → Int} (h : pf_k n k w) (ho : o < n) (hno : ∀ i, i < k → ¬ w i = (o : Int)) : pf_k n (k + 1) (w_up w k o) := by
  refine ⟨fun j hj => ?_, fun i j hi hj e => ?_⟩
  · by_cases hc : j = k
    · subst hc; rw [wu_k]; omega
    · rw [wu_lo (by omega)]; exact h.1 j (by omega)
  · by_cases hc : i = k
    · by_cases hc2 : j = k
      · omega
      · subst hc
        rw [wu_k, wu_lo (by omega)] at e
        exact absurd e.symm (hno j (by omega))
    · by_cases hc2 : j = k
      · subst hc2
        rw [wu_k, wu_lo (by omega)] at e
        exact absurd e (hno i (by omega))
      · rw [wu_lo (by omega), wu_lo (by omega)] at e
        exact h.2 i j (by omega) (by omega) e
theorem wu_mk {w : Nat → Int} {k o : Nat} : mk_n (w_up w k o) (k + 1) = mk_n w k + 2 ^ o := by
  show mk_n (w_up w k o) k + 2 ^ (w_up w k o k).toNat = _
  rw [mk_congr k (fun i hi => wu_lo hi), wu_k, Int.toNat_natCast]
theorem wu_st {d : tm_M} {w : Nat → Int} {k o : Nat} : st_n d (w_up w k o) (k + 1) = ((gd_o (dd_p d) (st_n d w k) o).1, (gd_o (dd_p d) (st_n d w k) o).2.1, (gd_o (dd_p d) (st_n d w k) o).2.2.1) := by
  show ((gd_o (dd_p d) (st_n d (w_up w k o) k) (w_up w k o k).toNat).1, _, _) = _
  rw [st_congr k (fun i hi => wu_lo hi), wu_k, Int.toNat_natCast]
theorem wu_pp {d : tm_M} {w : Nat → Int} {k o : Nat} : pp_n d (w_up w k o) (k + 1) = pp_n d w k + (if gd_p d (st_n d w k) o = true then od_p (d 2) o else 0) := by
  rw [pp_s, pp_congr k (fun i hi => wu_lo hi)]
  unfold pp_t
  rw [st_congr k (fun i hi => wu_lo hi), wu_k, Int.toNat_natCast]
/-- what the search begins with, what it leaves -/
def xf_p (μ ν : tm_M) (k : Nat) : Prop := (∀ a, a < 57 ∨ 71 < a → ν a = μ a) ∧ (∀ i, i < k → ν 59 i = μ 59 i) ∧ ∀ a, 63 ≤ a → a ≤ 63 + k → ν a = μ a
def xp_p (d μ : tm_M) (k : Nat) (w : Nat → Int) (m : Int) : Prop := cl_s μ d ∧ k ≤ dd_n d ∧ pf_k (dd_n d) k w ∧ (∀ i, i < k → μ 59 i = w i) ∧ (μ (63 + k) 0 = ((st_n d w k).1 : Int) ∧ μ (63 + k) 1 = (st_n d w k).2.1 ∧ μ (63 + k) 2 = (st_n d w k).2.2 ∧ (0 ≤ μ (63 + k) 3 ∧ μ (63 + k) 3 ≤ 100 * ((st_n d w k).1 : Int))) ∧ μ 57 5 = m ∧ (-1 ≤ m ∧ m ≤ 72) ∧ tb_p d μ k m
def xq_p (d μ ν : tm_M) (k : Nat) (w : Nat → Int) (m : Int) : Prop := ∃ m1, ν 57 5 = m1 ∧ (-1 ≤ m1 ∧ m1 ≤ 72) ∧ rs_p d m (μ 60) m1 (ν 60) (ex_k (dd_n d) k w) ∧ td_p d μ ν m1 ∧ xf_p μ ν k
theorem xf_rf (μ : tm_M) (k : Nat) : xf_p μ μ k := ⟨fun _ _ => rfl, fun _ _ => rfl, fun _ _ _ => rfl⟩
theorem xf_tr {μ ν κ : tm_M} {k : Nat} (h : xf_p μ ν k) (g : xf_p ν κ k) : xf_p μ κ k := ⟨fun a ha => (g.1 a ha).trans (h.1 a ha), fun i hi => (g.2.1 i hi).trans (h.2.1 i hi), fun a h1 h2 => (g.2.2 a h1 h2).trans (h.2.2 a h1 h2)⟩
theorem xf_dn {μ ν : tm_M} {k : Nat} (h : xf_p μ ν (k + 1)) : xf_p μ ν k := ⟨h.1, fun i hi => h.2.1 i (by omega), fun a h1 h2 => h.2.2 a h1 (by omega)⟩
theorem gd_stop {p : tm_M} {g : Int} {m : Nat} {S : gd_S} (h : ¬ (0 < S.2.2.2 ∧ S.1 < 40)) : gd_n p g m S = S := by
  cases m with
  | zero => rfl
  | succ m => show (if _ then _ else _) = _; rw [if_neg h]
theorem gd_go {p : tm_M} {g : Int} {m : Nat} {S : gd_S} (h : 0 < S.2.2.2 ∧ S.1 < 40) : gd_n p g (m + 1) S = gd_n p g m (gd_1 p g S) := by
  show (if _ then _ else _) = _
  rw [if_pos h]
theorem pd_k : ∀ k, k < 9 → tm_tm[63 + k]? = some (0, 4, [none, none, none, none]) := by
  have h : ∀ k : Fin 9, tm_tm[63 + (k : Nat)]? = some (0, 4, [none, none, none, none]) := by decide +kernel
  intro k hk
  exact h ⟨k, hk⟩
theorem pd_q : ∀ k, k < 9 → ([some 63, some 64, some 65, some 66, some 67, some 68, some 69, some 70, some 71] : List (Option Nat))[k]? = some (some (63 + k)) := by
  have h : ∀ k : Fin 9, ([some 63, some 64, some 65, some 66, some 67, some 68, some 69, some 70, some 71] : List (Option Nat))[(k : Nat)]? = some (some (63 + (k : Nat))) := by decide +kernel
  intro k hk
  exact h ⟨k, hk⟩
/-- the row that pays most, the first of them: told by what it is -/
noncomputable def rb_m (d : tm_M) : Int × (Nat → Int) := @dite (Int × (Nat → Int)) (∃ q : Int × (Nat → Int), rw_b d q.1 q.2) (Classical.propDecidable _) (fun h => h.choose) (fun _ => (0, fun _ => 0))
theorem rb_eq {d : tm_M} {m : Int} {w : Nat → Int} (h : rw_b d m w) : m = (rb_m d).1 ∧ ∀ j, j < dd_n d → w j = (rb_m d).2 j := by
  have hx : ∃ q : Int × (Nat → Int), rw_b d q.1 q.2 := ⟨(m, w), h⟩
  have e : rb_m d = hx.choose := by
    unfold rb_m
    exact dif_pos hx
  rw [e]
  exact rw_b_uni h hx.choose_spec
theorem rs_b {d : tm_M} (hd : dd_ok d) {m : Int} {b0 b w : Nat → Int} (h : rs_p d (-1) b0 m b (ex_k (dd_n d) 0 w)) : rw_b d m b := by
  rcases h with ⟨-, -, h3⟩ | ⟨h1, h2, h3, h4, h5⟩
  · exfalso
    have q := h3 _ ⟨pm_id (dd_n d), fun i hi => by omega⟩
    have := (pp_bd hd (pf_of (pm_id (dd_n d)) (Nat.le_refl _)) (Nat.le_refl _)).1
    omega
  · refine ⟨h2.1, by rw [rw_pp hd h2.1]; exact h3, fun v hv => by rw [rw_pp hd hv]; exact h4 v ⟨hv, fun i hi => by omega⟩, fun v hv hlt => by rw [rw_pp hd hv]; exact h5 v ⟨hv, fun i hi => by omega⟩ hlt⟩
noncomputable def ro_z (d : tm_M) (w : Int) : Int := if 0 ≤ w ∧ w ≤ 8 then (if dd_n d = 0 ∨ (dd_n d : Int) < w then -1 else if w = 0 then (rb_m d).1 else (rb_m d).2 (w - 1).toNat) else -2
