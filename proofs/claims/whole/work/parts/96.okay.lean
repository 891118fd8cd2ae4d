/-! what is told stays in its bounds -/
theorem ty_ok {d : tm_M} (hd : dd_ok d) (t b : Int) : dd_ok (ty_d d t b) := by
  unfold ty_d
  by_cases h : (0 ≤ t ∧ t ≤ 1) ∧ (0 ≤ b ∧ b ≤ 255)
  · rw [if_pos h]
    rcases (show t = 0 ∨ t = 1 by omega) with e | e
    · subst e
      by_cases h2 : (if (0 : Int) = 0 then (40 : Int) else 47) ≤ d 0 (0 : Int).toNat
      · rw [if_pos h2]; exact hd
      · rw [if_neg h2]
        have h3 : ¬ (40 : Int) ≤ d 0 0 := h2
        exact dd_push0 hd h.2 (by omega)
    · subst e
      by_cases h2 : (if (1 : Int) = 0 then (40 : Int) else 47) ≤ d 0 (1 : Int).toNat
      · rw [if_pos h2]; exact hd
      · rw [if_neg h2]
        have h3 : ¬ (47 : Int) ≤ d 0 1 := h2
        exact dd_push1 hd h.2 (by omega)
  · rw [if_neg h]; exact hd
theorem wi_ok {d : tm_M} (hd : dd_ok d) (t : Int) : dd_ok (wi_d d t) := by
  unfold wi_d
  by_cases h : 0 ≤ t ∧ t ≤ 1
  · rw [if_pos h]
    rcases (show t = 0 ∨ t = 1 by omega) with e | e
    · subst e; exact dd_size0 hd (by have := hd.1; omega)
    · subst e; exact dd_size1 hd (by have := hd.2.1; omega)
  · rw [if_neg h]; exact hd
theorem un_ok {d : tm_M} (hd : dd_ok d) (t : Int) : dd_ok (un_d d t) := by
  unfold un_d
  by_cases h : 0 ≤ t ∧ t ≤ 1
  · rw [if_pos h]
    by_cases h2 : d 0 t.toNat = 0
    · rw [if_pos h2]; exact hd
    · rw [if_neg h2]
      rcases (show t = 0 ∨ t = 1 by omega) with e | e
      · subst e
        have h3 : ¬ d 0 0 = 0 := h2
        exact dd_size0 hd (by have := hd.1; show 0 ≤ d 0 0 - 1 ∧ d 0 0 - 1 ≤ d 0 0; omega)
      · subst e
        have h3 : ¬ d 0 1 = 0 := h2
        exact dd_size1 hd (by have := hd.2.1; show 0 ≤ d 0 1 - 1 ∧ d 0 1 - 1 ≤ d 0 1; omega)
  · rw [if_neg h]; exact hd
theorem se_ok {d : tm_M} (hd : dd_ok d) (w v : Int) : dd_ok (se_d d w v) := by
  unfold se_d
  by_cases h : (0 ≤ w ∧ w ≤ 4) ∧ (se_lo w ≤ v ∧ v ≤ se_hi w)
  · rw [if_pos h]
    refine dd_dial hd (by omega) ?_
    have h2 := h.2
    unfold se_lo se_hi at h2
    rcases (show w = 0 ∨ w = 1 ∨ w = 2 ∨ w = 3 ∨ w = 4 by omega) with e | e | e | e | e <;> subst e <;> exact h2
  · rw [if_neg h]; exact hd
theorem ra_ok {d : tm_M} (hd : dd_ok d) {w : Nat} (hw : w = 0 ∨ w = 1) (h : Int) : dd_ok (ra_d d w h) := by
  unfold ra_d
  by_cases hc : 0 ≤ h ∧ h ≤ 39
  · rw [if_pos hc]
    by_cases h2 : 6 ≤ d 3 w
    · rw [if_pos h2]; exact hd
    · rw [if_neg h2]
      rcases hw with e | e
      · subst e; exact dd_push2 hd hc (by omega)
      · subst e; exact dd_push3 hd hc (by omega)
  · rw [if_neg hc]; exact hd
theorem ba_ok {d : tm_M} (hd : dd_ok d) (t : Int) : dd_ok (ba_d d t) := by
  unfold ba_d
  by_cases h : 0 ≤ t ∧ t ≤ 1
  · rw [if_pos h]
    by_cases h2 : d 3 t.toNat = 0
    · rw [if_pos h2]; exact hd
    · rw [if_neg h2]
      rcases (show t = 0 ∨ t = 1 by omega) with e | e
      · subst e
        have h3 : ¬ d 3 0 = 0 := h2
        exact dd_size2 hd (by have := hd.2.2.2.2.1; show 0 ≤ d 3 0 - 1 ∧ d 3 0 - 1 ≤ d 3 0; omega)
      · subst e
        have h3 : ¬ d 3 1 = 0 := h2
        exact dd_size3 hd (by have := hd.2.2.2.2.2.1; show 0 ≤ d 3 1 - 1 ∧ d 3 1 - 1 ≤ d 3 1; omega)
  · rw [if_neg h]; exact hd
theorem rd_fok (f : Nat → Int) (n : Int) : ∀ (m : Nat) (d : tm_M) (j : Nat), dd_ok d → dd_ok (rd_f f n m d j).1 := by
  intro m
  induction m with
  | zero => intro d j h; exact h
  | succ m ih =>
    intro d j h
    rw [rd_f_s]
    by_cases hc : (j : Int) < n ∧ (0 ≤ f j ∧ f j ≤ 39) ∧ d 3 0 < 6
    · rw [if_pos hc]; exact ih _ _ (dd_push2 h hc.2.1 hc.2.2)
    · rw [if_neg hc]; exact h
theorem rd_ok {d : tm_M} (hd : dd_ok d) (s : tm_M) (k : Int) : dd_ok (rd_d d s k) := by
  unfold rd_d
  split
  · split
    · exact hd
    · exact rd_fok _ _ _ _ _ hd
  · exact hd
theorem rs_ok {s : tm_M} (hs : ss_ok s) (k : Int) : ss_ok (rd_s s k) := by
  unfold rd_s
  split
  · split
    · exact ss_fd hs (by omega)
    · exact hs
  · exact hs
theorem sn_ok {s : tm_M} (hs : ss_ok s) (h v : Int) : ss_ok (sn_s s h v) := by
  unfold sn_s
  by_cases hc : (0 ≤ h ∧ h ≤ 39) ∧ (0 ≤ v ∧ v ≤ 20)
  · rw [if_pos hc]
    by_cases h2 : 8 ≤ s 0 0
    · rw [if_pos h2]; exact hs
    · rw [if_neg h2]; exact ss_sn hs hc.1 hc.2 (by omega)
  · rw [if_neg hc]; exact hs
theorem sh_ok {s : tm_M} (hs : ss_ok s) (k f n : Int) : ss_ok (sh_s s k f n) := by
  unfold sh_s
  by_cases hc : (0 ≤ k ∧ k ≤ 3) ∧ (0 ≤ f ∧ f ≤ 2) ∧ n ≤ 60
  · rw [if_pos hc]
    by_cases h2 : n < 0
    · rw [if_pos h2]; exact ss_fd hs (by omega)
    · rw [if_neg h2]
      have e3 : tm_fill (tm_up (tm_up (tm_up s 3 k.toNat 1) 4 k.toNat f) 5 k.toNat n) (6 + k.toNat) 60 0 3 k.toNat = 1 := by rw [tm_fill_k (by omega), tm_uk (by decide), tm_uk (by decide), tm_us]
      have e4 : tm_fill (tm_up (tm_up (tm_up s 3 k.toNat 1) 4 k.toNat f) 5 k.toNat n) (6 + k.toNat) 60 0 4 k.toNat = f := by rw [tm_fill_k (by omega), tm_uk (by decide), tm_us]
      have e5 : tm_fill (tm_up (tm_up (tm_up s 3 k.toNat 1) 4 k.toNat f) 5 k.toNat n) (6 + k.toNat) 60 0 5 k.toNat = n := by rw [tm_fill_k (by omega), tm_us]
      refine ss_sh hs k.toNat (fun a ha => ?_) (fun a b h1 h3 h4 => ?_) (fun a h1 h3 => ?_) ?_
      · rw [tm_fill_f (by omega), tm_uf (by omega), tm_uf (by omega), tm_uf (by omega)]
      · rw [tm_fill_k (by omega), tm_uj h4, tm_uj h4, tm_uj h4]
      · rw [tm_fill_f h3, tm_uf (by omega), tm_uf (by omega), tm_uf (by omega)]
      · rw [e3, e4, e5]
        refine ⟨Or.inr rfl, fun _ => ⟨hc.2.1, by omega, fun j hj => ?_⟩⟩
        rw [tm_fill_in hj]
        omega
  · rw [if_neg hc]; exact hs
theorem lo_ok {s : tm_M} (hs : ss_ok s) (k : Int) : ss_ok (lo_s s k) := by
  unfold lo_s
  by_cases hc : 0 ≤ k ∧ k ≤ 3
  · rw [if_pos hc]
    by_cases h2 : s 3 k.toNat = 0
    · rw [if_pos h2]; exact ss_fd hs (by omega)
    · rw [if_neg h2]
      refine ss_sh hs k.toNat (fun a ha => tm_uf (by omega)) (fun a b h1 h3 h4 => tm_uj h4) (fun a h1 h3 => tm_uf (by omega)) ?_
      rw [tm_us]
      exact ⟨Or.inl rfl, fun q => by omega⟩
  · rw [if_neg hc]; exact hs
theorem lk_r (s : tm_M) (k : Nat) (f i : Int) : (lk_z s k f i = 0 ∧ ¬ s 3 k = 0 ∧ (0 ≤ i ∧ i < s 5 k)) ∨ (1 ≤ lk_z s k f i ∧ lk_z s k f i ≤ 3) := by
  unfold lk_z
  by_cases h1 : s 3 k = 0
  · rw [if_pos h1]; right; omega
  · rw [if_neg h1]
    by_cases h2 : s 4 k = f
    · rw [if_pos h2]
      by_cases h3 : 0 ≤ i ∧ i < s 5 k
      · rw [if_pos h3]; exact Or.inl ⟨rfl, h1, h3⟩
      · rw [if_neg h3]; right; omega
    · rw [if_neg h2]; right; omega
theorem pu_ok {s : tm_M} (hs : ss_ok s) (k f x v : Int) (hv : -2147483648 ≤ v ∧ v ≤ 2147483647) : ss_ok (pu_s s k f x v) := by
  unfold pu_s
  by_cases hc : (0 ≤ k ∧ k ≤ 3) ∧ (0 ≤ f ∧ f ≤ 2)
  · rw [if_pos hc]
    rcases lk_r s k.toNat f x with ⟨h1, h2, h3⟩ | h1
    · rw [if_pos h1]
      refine ss_it hs k.toNat (by omega) (fun a ha => tm_uf ha) (fun q j hj => ?_)
      rw [tm_ua]
      by_cases hjx : j = x.toNat
      · rw [if_pos hjx]; exact st_r _ _ hv
      · rw [if_neg hjx]; exact ((hs.2.2.2 k.toNat (by omega)).2 q).2.2 j hj
    · rw [if_neg (by omega)]; exact ss_fd hs (by omega)
  · rw [if_neg hc]; exact hs
theorem ge_ok {s : tm_M} (hs : ss_ok s) (k f x : Int) : ss_ok (ge_s s k f x) := by
  unfold ge_s
  split
  · rename_i h
    rcases lk_r s k.toNat f x with ⟨h1, -⟩ | h1
    · exact absurd h1 h.2
    · exact ss_fd hs (by omega)
  · exact hs
theorem cy_ok {s : tm_M} (hs : ss_ok s) (k x t y n : Int) : ss_ok (cy_s s k x t y n) := by
  unfold cy_s
  by_cases hc : (0 ≤ k ∧ k ≤ 3) ∧ (0 ≤ t ∧ t ≤ 3)
  · rw [if_pos hc]
    have hk := hs.2.2.2 k.toNat (by omega)
    have ht := hs.2.2.2 t.toNat (by omega)
    rcases cy_r s k.toNat t.toNat x y n with ⟨h1, -⟩ | ⟨h1, -⟩ | ⟨h1, -⟩ | ⟨h1, h2, h3, h4, h5⟩
    · rw [if_neg (by omega)]; exact ss_fd hs (by omega)
    · rw [if_neg (by omega)]; exact ss_fd hs (by omega)
    · rw [if_neg (by omega)]; exact ss_fd hs (by omega)
    · rw [if_pos h1]
      have hk1 : s 3 k.toNat = 1 := by omega
      have hk2 := hk.2 hk1
      refine ss_it hs t.toNat (by omega) (fun a ha => tm_cp_f ha) (fun q j hj => ?_)
      have ht2 := ht.2 q
      by_cases hb : y.toNat ≤ j ∧ j < y.toNat + n.toNat
      · have e : tm_cp s (6 + k.toNat) (6 + t.toNat) x.toNat y.toNat n.toNat (6 + t.toNat) j = s (6 + k.toNat) (x.toNat + (j - y.toNat)) := by simp [tm_cp, hb]
        rw [e]
        exact hk2.2.2 _ (by omega)
      · have e : tm_cp s (6 + k.toNat) (6 + t.toNat) x.toNat y.toNat n.toNat (6 + t.toNat) j = s (6 + t.toNat) j := by
          simp only [tm_cp, if_true, if_neg hb]
        rw [e]
        exact ht2.2.2 j hj
  · rw [if_neg hc]; exact hs
theorem ws_ok {d s : tm_M} (hd : dd_ok d) (hs : ss_ok s) (k : Int) : ss_ok (wr_s d s k) := by
  unfold wr_s
  by_cases hc : 0 ≤ k ∧ k ≤ 3
  · rw [if_pos hc]
    by_cases h2 : s 3 k.toNat = 0
    · rw [if_pos h2]; exact ss_fd hs (by omega)
    · rw [if_neg h2]
      refine ss_it hs k.toNat (by omega) (fun a ha => tm_rowf_f ha) (fun q j hj => ?_)
      have hk := (hs.2.2.2 k.toNat (by omega)).2 q
      by_cases hb : j < (min (s 5 k.toNat) 40).toNat
      · rw [tm_rowf_in hb]
        have hz := (sm_bd (dd_p_ok hd) (j + 1) (by omega)).1
        exact st_r _ _ (by omega)
      · rw [tm_rowf_out (by omega)]
        exact hk.2.2 j hj
  · rw [if_neg hc]; exact hs
/-! the beginning -/
def dd_0 : tm_M := fun a b => if a = 6 then (tm_sv 2).getD b 0 else 0
def ss_0 : tm_M := fun _ _ => 0
theorem dd_0k : dd_ok dd_0 := by
  refine ⟨by decide, by decide, fun j hj => ?_, fun j hj => ?_, by decide, by decide, fun j hj => ?_, fun j hj => ?_, by decide, by decide, by decide, by decide, by decide⟩
  · have : (j : Int) < 0 := hj; omega
  · have : (j : Int) < 0 := hj; omega
  · have : (j : Int) < 0 := hj; omega
  · have : (j : Int) < 0 := hj; omega
theorem ss_0k : ss_ok ss_0 := by
  refine ⟨by decide, by decide, fun j hj => ?_, fun k hk => ⟨Or.inl rfl, fun q => ?_⟩⟩
  · have : (j : Int) < 0 := hj; omega
  · have q : (0 : Int) = 1 := q
    omega
theorem m3_lo {a : Nat} (h : a ≠ 82) : tn_3 tn_2 a = tn_2 a := by
  unfold tn_3
  rw [tm_uf h, tm_uf h, tm_uf h, tm_uf h, tm_uf h]
theorem m2_o {a : Nat} (h0 : a ≠ 0) (h1 : a ≠ 15) (h2 : a ≠ 17) (h3 : a ≠ 19) (h4 : a ≠ 21) : tn_2 a = tn_0 a := by
  unfold tn_2
  rw [tm_uf (by assumption), tm_uf (by assumption), tm_uf (by assumption), tm_uf (by assumption), tm_uf (by assumption)]
theorem m3_z {a : Nat} (h0 : a ≠ 0) (h1 : a ≠ 15) (h2 : a ≠ 17) (h3 : a ≠ 19) (h4 : a ≠ 21) (h5 : a ≠ 28) (h6 : a ≠ 82) (j : Nat) : tn_3 tn_2 a j = 0 := by
  rw [m3_lo h6, m2_o h0 h1 h2 h3 h4]
  exact tn_0z h5 j
theorem cl_0 : cl_I (tn_3 tn_2) dd_0 ss_0 := by
  have n0 : ∀ j : Nat, ¬ (j : Int) < 0 := fun j => by omega
  refine ⟨⟨m3_z (by decide) (by decide) (by decide) (by decide) (by decide) (by decide) (by decide) _, m3_z (by decide) (by decide) (by decide) (by decide) (by decide) (by decide) (by decide) _, fun j hj => absurd hj (n0 j), fun j hj => absurd hj (n0 j), m3_z (by decide) (by decide) (by decide) (by decide) (by decide) (by decide) (by decide) _, m3_z (by decide) (by decide) (by decide) (by decide) (by decide) (by decide) (by decide) _, fun j hj => absurd hj (n0 j), fun j hj => absurd hj (n0 j), fun j hj => ?_⟩, ⟨m3_z (by decide) (by decide) (by decide) (by decide) (by decide) (by decide) (by decide) _, m3_z (by decide) (by decide) (by decide) (by decide) (by decide) (by decide) (by decide) _, fun j hj => absurd hj (n0 j), ?_, fun k hk => ⟨fun q => ?_, fun _ => ?_⟩⟩, ?_⟩
  · rw [m3_lo (by decide), m2_o (by decide) (by decide) (by decide) (by decide) (by decide)]
    rfl
  · rw [m3_lo (by decide)]
    rfl
  · have q : (0 : Int) = 1 := q
    omega
  · rw [m3_lo (by omega)]
    rcases (show k = 0 ∨ k = 1 ∨ k = 2 ∨ k = 3 by omega) with e | e | e | e <;> subst e <;> rfl
  · unfold cl_c
    rw [m3_lo (by decide)]
    refine ⟨Or.inl rfl, fun q => ?_, Or.inl rfl, fun q => ?_, Or.inl rfl⟩
    · have q : (0 : Int) = 1 := q
      omega
    · have q : (0 : Int) = 1 := q
      omega
theorem rf_0 : rf_I (tn_3 tn_2) dd_0 ss_0 := by
  have n0 : ∀ j : Nat, ¬ (j : Int) < 0 := fun j => by omega
  have z : ∀ {a : Nat}, 74 ≤ a → a ≠ 82 → ∀ j, tn_3 tn_2 a j = 0 := fun h1 h2 j => m3_z (by omega) (by omega) (by omega) (by omega) (by omega) (by omega) h2 j
  refine ⟨⟨z (by decide) (by decide) _, z (by decide) (by decide) _, fun j hj => absurd hj (n0 j), fun j hj => absurd hj (n0 j), z (by decide) (by decide) _, z (by decide) (by decide) _, fun j hj => absurd hj (n0 j), fun j hj => absurd hj (n0 j), fun j hj => ?_⟩, ⟨z (by decide) (by decide) _, fun j hj => absurd hj (n0 j), z (by decide) (by decide) _, fun k hk => ⟨z (by decide) (by decide) _, fun q => ?_⟩⟩⟩
  · rcases (show j = 0 ∨ j = 1 ∨ j = 2 ∨ j = 3 ∨ j = 4 by omega) with e | e | e | e | e <;> subst e <;> rfl
  · have q : (0 : Int) = 1 := q
    omega
