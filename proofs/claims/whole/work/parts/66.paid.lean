theorem c5_pays_a (E : tm_Ev) (l : Launch) (μ : tm_M) (d : tm_M) (e : Nat → Int) (hd : dd_ok d) (hn : μ 23 4 = (dd_n d : Int)) (ho : ∀ k, k < dd_n d → μ 26 k = od_d (d 2) k ∧ μ 27 k = od_p (d 2) k) (he : ∀ k, k < 8 → μ 42 k = e k) (hr : ∀ k, -1 ≤ e k ∧ e k ≤ 39) (k : Nat) (x : Int) (hx : x = k) (hk : k < dd_n d) : tm_Met E l yX5_pays cX5_pays 3 (some .boolean) 0 [.ref (E.2.1 35), .ref (E.2.1 23), tm_i x] μ (tm_pi (fun z μ' => z = (if py_b d e k = true then 1 else 0) ∧ μ' = μ)) := by
  refine tm_intro [(0, .ref (E.2.1 35)), (1, .ref (E.2.1 23)), (2, tm_i x)] rfl (by decide +kernel) (Nat.le_of_ble_eq_true rfl) ?_
  intro X hX C
  subst hX
  have h8 : dd_n d ≤ 8 := sp_no_bd _ (by have q := hd.2.1; omega)
  have hb := (od_bd (f := d 2) (n := (d 0 1).toNat) (k := k) hk).2.2.1
  have hrk := hr k
  refine tv_aload_n (pc := 0) 0 C dX5_pays_0 rfl rfl ?_
  refine tv_getr (pc := 1) (q := 42) C rfl rfl fl_X5_34 dX5_pays_1 ?_
  refine tv_iload_n (pc := 4) 2 C dX5_pays_4 rfl rfl ?_
  refine tv_iald (pc := 5) (j := k) (z := e k) C rfl dX5_pays_5 (by omega) (by omega) (he k (by omega)) ?_
  refine tv_iconst (pc := 6) C dX5_pays_6 ?_
  refine tv_icmp_eq (pc := 7) 29 C dX5_pays_7 (by decide) (by omega) (by omega) (fun h7 => ?_) (fun h7 => ?_)
  · skip
    refine tv_iconst (pc := 29) C dX5_pays_29 ?_
    refine tv_zret (pc := 30) C dX5_pays_30 (by omega) ?_
    exact ⟨_, rfl, by unfold py_b; rw [if_neg (by simp only [decide_eq_true_eq]; omega)], rfl⟩
  · skip
    refine tv_aload_n (pc := 10) 0 C dX5_pays_10 rfl rfl ?_
    refine tv_getr (pc := 11) (q := 42) C rfl rfl fl_X5_34 dX5_pays_11 ?_
    refine tv_iload_n (pc := 14) 2 C dX5_pays_14 rfl rfl ?_
    refine tv_iald (pc := 15) (j := k) (z := e k) C rfl dX5_pays_15 (by omega) (by omega) (he k (by omega)) ?_
    refine tv_aload_n (pc := 16) 1 C dX5_pays_16 rfl rfl ?_
    refine tv_getr (pc := 17) (q := 26) C rfl rfl fl_X5_82 dX5_pays_17 ?_
    refine tv_iload_n (pc := 20) 2 C dX5_pays_20 rfl rfl ?_
    refine tv_iald (pc := 21) (j := k) (z := od_d (d 2) k) C rfl dX5_pays_21 (by omega) (by omega) ((ho k hk).1) ?_
    refine tv_icmp_gt (pc := 22) 29 C dX5_pays_22 (by decide) (by omega) (by omega) (fun h22 => ?_) (fun h22 => ?_)
    · skip
      refine tv_iconst (pc := 29) C dX5_pays_29 ?_
      refine tv_zret (pc := 30) C dX5_pays_30 (by omega) ?_
      exact ⟨_, rfl, by unfold py_b; rw [if_neg (by simp only [decide_eq_true_eq]; omega)], rfl⟩
    · skip
      refine tv_iconst (pc := 25) C dX5_pays_25 ?_
      refine tv_goto (pc := 26) 30 C dX5_pays_26 (by decide) ?_
      refine tv_zret (pc := 30) C dX5_pays_30 (by omega) ?_
      exact ⟨_, rfl, by unfold py_b; rw [if_pos (decide_eq_true (by omega))], rfl⟩
theorem l_sumPaid_a {E : tm_Ev} {X : tm_X} (C : tm_C E X yX5_sumPaid.cls cX5_sumPaid 4 (some .int) 1) (μ : tm_M) (d : tm_M) (e : Nat → Int) (hd : dd_ok d) (hn : μ 23 4 = (dd_n d : Int)) (ho : ∀ k, k < dd_n d → μ 26 k = od_d (d 2) k ∧ μ 27 k = od_p (d 2) k) (he : ∀ k, k < 8 → μ 42 k = e k) (hr : ∀ k, -1 ≤ e k ∧ e k ≤ 39) (h8 : dd_n d ≤ 8) (post : Option Value → tm_M → Prop) (hpost : post (some (tm_i (py_s d e))) μ) : ∀ (f k : Nat) (x y : Int), x = k → k ≤ dd_n d → dd_n d - k < f → y = su_n (fun k => if py_b d e k = true then od_p (d 2) k else 0) k → tm_V E X (tm_Q E X post) 4 4 [(3, tm_i x), (2, tm_i y), (0, .ref (E.2.1 35)), (1, .ref (E.2.1 23))] [] μ := by
  intro f
  induction f with
  | zero => intro k x y hx hj hf hy; omega
  | succ f ih =>
    intro k x y hx hj hf hy
    refine tv_iload_n (pc := 4) 0 C dX5_sumPaid_4 rfl rfl ?_
    refine tv_aload_n (pc := 5) 3 C dX5_sumPaid_5 rfl rfl ?_
    refine tv_geti (pc := 6) (z := (dd_n d : Int)) C rfl rfl fl_X5_85 dX5_sumPaid_6 hn ?_
    refine tv_icmp_ge (pc := 9) 40 C dX5_sumPaid_9 (by decide) (by omega) (by omega) (fun h9 => ?_) (fun h9 => ?_)
    · skip
      refine tv_iload_n (pc := 40) 1 C dX5_sumPaid_40 rfl rfl ?_
      refine tv_iret (pc := 41) C dX5_sumPaid_41 ?_
      have hin : k = dd_n d := by omega
      subst hin
      rw [hy]
      exact hpost
    · skip
      refine tv_iload_n (pc := 12) 1 C dX5_sumPaid_12 rfl rfl ?_
      refine tv_aload_n (pc := 13) 2 C dX5_sumPaid_13 rfl rfl ?_
      refine tv_aload_n (pc := 14) 3 C dX5_sumPaid_14 rfl rfl ?_
      refine tv_iload_n (pc := 15) 0 C dX5_sumPaid_15 rfl rfl ?_
      refine tv_callV (pc := 16) [.ref (E.2.1 23), tm_i x] [tm_i y] C (c5_pays_a E _ μ d e hd hn ho he hr k _ hx (by omega)) cv_X5_88 rfl rfl (by decide) rfl (Nat.le_of_ble_eq_true rfl) rfl dX5_sumPaid_16 (tm_kp ?_)
      refine tv_ifeqB (pc := 19) 31 C dX5_sumPaid_19 (by decide) (fun h19 => ?_) (fun h19 => ?_)
      · skip
        refine tv_iconst (pc := 31) C dX5_sumPaid_31 ?_
        refine tv_iadd (pc := 32) C dX5_sumPaid_32 ?_
        refine tv_istore_n (pc := 33) [(2, tm_i (y + 0)), (3, tm_i x), (0, .ref (E.2.1 35)), (1, .ref (E.2.1 23))] C dX5_sumPaid_33 rfl (by decide) rfl ?_
        refine tv_iinc (pc := 34) 1 [(3, tm_i (x + 1)), (2, tm_i (y + 0)), (0, .ref (E.2.1 35)), (1, .ref (E.2.1 23))] C dX5_sumPaid_34 rfl (by decide) rfl ?_
        refine tv_goto (pc := 37) 4 C dX5_sumPaid_37 (by decide) ?_
        refine tv_sub (lv1 := [(3, tm_i (x + 1)), (2, tm_i (y + 0)), (0, .ref (E.2.1 35)), (1, .ref (E.2.1 23))]) [0, 1, 2, 3] rfl ?_
        exact ih (k + 1) (x + 1) _ (by omega) (by omega) (by omega) (by rw [su_s, if_neg h19]; omega)
      · skip
        refine tv_aload_n (pc := 22) 3 C dX5_sumPaid_22 rfl rfl ?_
        refine tv_getr (pc := 23) (q := 27) C rfl rfl fl_X5_92 dX5_sumPaid_23 ?_
        refine tv_iload_n (pc := 26) 0 C dX5_sumPaid_26 rfl rfl ?_
        refine tv_iald (pc := 27) (j := k) (z := od_p (d 2) k) C rfl dX5_sumPaid_27 (by omega) (by omega) ((ho k (by omega)).2) ?_
        refine tv_goto (pc := 28) 32 C dX5_sumPaid_28 (by decide) ?_
        refine tv_iadd (pc := 32) C dX5_sumPaid_32 ?_
        refine tv_istore_n (pc := 33) [(2, tm_i (y + (od_p (d 2) k))), (3, tm_i x), (0, .ref (E.2.1 35)), (1, .ref (E.2.1 23))] C dX5_sumPaid_33 rfl (by decide) rfl ?_
        refine tv_iinc (pc := 34) 1 [(3, tm_i (x + 1)), (2, tm_i (y + (od_p (d 2) k))), (0, .ref (E.2.1 35)), (1, .ref (E.2.1 23))] C dX5_sumPaid_34 rfl (by decide) rfl ?_
        refine tv_goto (pc := 37) 4 C dX5_sumPaid_37 (by decide) ?_
        refine tv_sub (lv1 := [(3, tm_i (x + 1)), (2, tm_i (y + (od_p (d 2) k))), (0, .ref (E.2.1 35)), (1, .ref (E.2.1 23))]) [0, 1, 2, 3] rfl ?_
        exact ih (k + 1) (x + 1) _ (by omega) (by omega) (by omega) (by rw [su_s, if_pos h19]; omega)
theorem c5_sumPaid_a (E : tm_Ev) (l : Launch) (μ : tm_M) (d : tm_M) (e : Nat → Int) (hd : dd_ok d) (hn : μ 23 4 = (dd_n d : Int)) (ho : ∀ k, k < dd_n d → μ 26 k = od_d (d 2) k ∧ μ 27 k = od_p (d 2) k) (he : ∀ k, k < 8 → μ 42 k = e k) (hr : ∀ k, -1 ≤ e k ∧ e k ≤ 39) : tm_Met E l yX5_sumPaid cX5_sumPaid 4 (some .int) 1 [.ref (E.2.1 35), .ref (E.2.1 23)] μ (tm_pi (fun z μ' => z = py_s d e ∧ μ' = μ)) := by
  refine tm_intro [(0, .ref (E.2.1 35)), (1, .ref (E.2.1 23))] rfl (by decide +kernel) (Nat.le_of_ble_eq_true rfl) ?_
  intro X hX C
  subst hX
  have h8 : dd_n d ≤ 8 := sp_no_bd _ (by have q := hd.2.1; omega)
  refine tv_iconst (pc := 0) C dX5_sumPaid_0 ?_
  refine tv_istore_n (pc := 1) [(2, tm_i 0), (0, .ref (E.2.1 35)), (1, .ref (E.2.1 23))] C dX5_sumPaid_1 rfl (by decide) rfl ?_
  refine tv_iconst (pc := 2) C dX5_sumPaid_2 ?_
  refine tv_istore_n (pc := 3) [(3, tm_i 0), (2, tm_i 0), (0, .ref (E.2.1 35)), (1, .ref (E.2.1 23))] C dX5_sumPaid_3 rfl (by decide) rfl ?_
  refine tv_sub (lv1 := [(3, tm_i 0), (2, tm_i 0), (0, .ref (E.2.1 35)), (1, .ref (E.2.1 23))]) [0, 1, 2, 3] rfl ?_
  exact l_sumPaid_a C μ d e hd hn ho he hr h8 _ ⟨_, rfl, rfl, rfl⟩ (dd_n d + 1) 0 0 0 rfl (by omega) (by omega) rfl
theorem c5_allSacks_a (E : tm_Ev) (l : Launch) (μ : tm_M)  : tm_Met E l yX5_allSacks cX5_allSacks 1 (some .int) 0 [.ref (E.2.1 35)] μ (tm_pi (fun z μ' => z = μ 38 39 ∧ μ' = μ)) := by
  refine tm_intro [(0, .ref (E.2.1 35))] rfl (by decide +kernel) (Nat.le_of_ble_eq_true rfl) ?_
  intro X hX C
  subst hX
  refine tv_aload_n (pc := 0) 0 C dX5_allSacks_0 rfl rfl ?_
  refine tv_getr (pc := 1) (q := 38) C rfl rfl fl_X5_22 dX5_allSacks_1 ?_
  refine tv_bipush (pc := 4) C dX5_allSacks_4 (by decide) ?_
  refine tv_iald (pc := 6) (j := 39) (z := μ 38 39) C rfl dX5_allSacks_6 (by omega) rfl rfl ?_
  refine tv_iret (pc := 7) C dX5_allSacks_7 ?_
  exact ⟨_, rfl, rfl, rfl⟩
theorem c5_pays_b (E : tm_Ev) (l : Launch) (μ : tm_M) (d : tm_M) (e : Nat → Int) (hd : dd_ok d) (hn : μ 23 4 = (dd_n d : Int)) (ho : ∀ k, k < dd_n d → μ 26 k = od_d (d 2) k ∧ μ 27 k = od_p (d 2) k) (he : ∀ k, k < 8 → μ 56 k = e k) (hr : ∀ k, -1 ≤ e k ∧ e k ≤ 39) (k : Nat) (x : Int) (hx : x = k) (hk : k < dd_n d) : tm_Met E l yX5_pays cX5_pays 3 (some .boolean) 0 [.ref (E.2.1 49), .ref (E.2.1 23), tm_i x] μ (tm_pi (fun z μ' => z = (if py_b d e k = true then 1 else 0) ∧ μ' = μ)) := by
  refine tm_intro [(0, .ref (E.2.1 49)), (1, .ref (E.2.1 23)), (2, tm_i x)] rfl (by decide +kernel) (Nat.le_of_ble_eq_true rfl) ?_
  intro X hX C
  subst hX
  have h8 : dd_n d ≤ 8 := sp_no_bd _ (by have q := hd.2.1; omega)
  have hb := (od_bd (f := d 2) (n := (d 0 1).toNat) (k := k) hk).2.2.1
  have hrk := hr k
  refine tv_aload_n (pc := 0) 0 C dX5_pays_0 rfl rfl ?_
  refine tv_getr (pc := 1) (q := 56) C rfl rfl fl_X5_34 dX5_pays_1 ?_
  refine tv_iload_n (pc := 4) 2 C dX5_pays_4 rfl rfl ?_
  refine tv_iald (pc := 5) (j := k) (z := e k) C rfl dX5_pays_5 (by omega) (by omega) (he k (by omega)) ?_
  refine tv_iconst (pc := 6) C dX5_pays_6 ?_
  refine tv_icmp_eq (pc := 7) 29 C dX5_pays_7 (by decide) (by omega) (by omega) (fun h7 => ?_) (fun h7 => ?_)
  · skip
    refine tv_iconst (pc := 29) C dX5_pays_29 ?_
    refine tv_zret (pc := 30) C dX5_pays_30 (by omega) ?_
    exact ⟨_, rfl, by unfold py_b; rw [if_neg (by simp only [decide_eq_true_eq]; omega)], rfl⟩
  · skip
    refine tv_aload_n (pc := 10) 0 C dX5_pays_10 rfl rfl ?_
    refine tv_getr (pc := 11) (q := 56) C rfl rfl fl_X5_34 dX5_pays_11 ?_
    refine tv_iload_n (pc := 14) 2 C dX5_pays_14 rfl rfl ?_
    refine tv_iald (pc := 15) (j := k) (z := e k) C rfl dX5_pays_15 (by omega) (by omega) (he k (by omega)) ?_
    refine tv_aload_n (pc := 16) 1 C dX5_pays_16 rfl rfl ?_
    refine tv_getr (pc := 17) (q := 26) C rfl rfl fl_X5_82 dX5_pays_17 ?_
    refine tv_iload_n (pc := 20) 2 C dX5_pays_20 rfl rfl ?_
    refine tv_iald (pc := 21) (j := k) (z := od_d (d 2) k) C rfl dX5_pays_21 (by omega) (by omega) ((ho k hk).1) ?_
    refine tv_icmp_gt (pc := 22) 29 C dX5_pays_22 (by decide) (by omega) (by omega) (fun h22 => ?_) (fun h22 => ?_)
    · skip
      refine tv_iconst (pc := 29) C dX5_pays_29 ?_
      refine tv_zret (pc := 30) C dX5_pays_30 (by omega) ?_
      exact ⟨_, rfl, by unfold py_b; rw [if_neg (by simp only [decide_eq_true_eq]; omega)], rfl⟩
    · skip
      refine tv_iconst (pc := 25) C dX5_pays_25 ?_
      refine tv_goto (pc := 26) 30 C dX5_pays_26 (by decide) ?_
      refine tv_zret (pc := 30) C dX5_pays_30 (by omega) ?_
      exact ⟨_, rfl, by unfold py_b; rw [if_pos (decide_eq_true (by omega))], rfl⟩
theorem l_sumPaid_b {E : tm_Ev} {X : tm_X} (C : tm_C E X yX5_sumPaid.cls cX5_sumPaid 4 (some .int) 1) (μ : tm_M) (d : tm_M) (e : Nat → Int) (hd : dd_ok d) (hn : μ 23 4 = (dd_n d : Int)) (ho : ∀ k, k < dd_n d → μ 26 k = od_d (d 2) k ∧ μ 27 k = od_p (d 2) k) (he : ∀ k, k < 8 → μ 56 k = e k) (hr : ∀ k, -1 ≤ e k ∧ e k ≤ 39) (h8 : dd_n d ≤ 8) (post : Option Value → tm_M → Prop) (hpost : post (some (tm_i (py_s d e))) μ) : ∀ (f k : Nat) (x y : Int), x = k → k ≤ dd_n d → dd_n d - k < f → y = su_n (fun k => if py_b d e k = true then od_p (d 2) k else 0) k → tm_V E X (tm_Q E X post) 4 4 [(3, tm_i x), (2, tm_i y), (0, .ref (E.2.1 49)), (1, .ref (E.2.1 23))] [] μ := by
  intro f
  induction f with
  | zero => intro k x y hx hj hf hy; omega
  | succ f ih =>
    intro k x y hx hj hf hy
    refine tv_iload_n (pc := 4) 0 C dX5_sumPaid_4 rfl rfl ?_
    refine tv_aload_n (pc := 5) 3 C dX5_sumPaid_5 rfl rfl ?_
    refine tv_geti (pc := 6) (z := (dd_n d : Int)) C rfl rfl fl_X5_85 dX5_sumPaid_6 hn ?_
    refine tv_icmp_ge (pc := 9) 40 C dX5_sumPaid_9 (by decide) (by omega) (by omega) (fun h9 => ?_) (fun h9 => ?_)
    · skip
      refine tv_iload_n (pc := 40) 1 C dX5_sumPaid_40 rfl rfl ?_
      refine tv_iret (pc := 41) C dX5_sumPaid_41 ?_
      have hin : k = dd_n d := by omega
      subst hin
      rw [hy]
      exact hpost
    · skip
      refine tv_iload_n (pc := 12) 1 C dX5_sumPaid_12 rfl rfl ?_
      refine tv_aload_n (pc := 13) 2 C dX5_sumPaid_13 rfl rfl ?_
      refine tv_aload_n (pc := 14) 3 C dX5_sumPaid_14 rfl rfl ?_
      refine tv_iload_n (pc := 15) 0 C dX5_sumPaid_15 rfl rfl ?_
      refine tv_callV (pc := 16) [.ref (E.2.1 23), tm_i x] [tm_i y] C (c5_pays_b E _ μ d e hd hn ho he hr k _ hx (by omega)) cv_X5_88 rfl rfl (by decide) rfl (Nat.le_of_ble_eq_true rfl) rfl dX5_sumPaid_16 (tm_kp ?_)
      refine tv_ifeqB (pc := 19) 31 C dX5_sumPaid_19 (by decide) (fun h19 => ?_) (fun h19 => ?_)
      · skip
        refine tv_iconst (pc := 31) C dX5_sumPaid_31 ?_
        refine tv_iadd (pc := 32) C dX5_sumPaid_32 ?_
        refine tv_istore_n (pc := 33) [(2, tm_i (y + 0)), (3, tm_i x), (0, .ref (E.2.1 49)), (1, .ref (E.2.1 23))] C dX5_sumPaid_33 rfl (by decide) rfl ?_
        refine tv_iinc (pc := 34) 1 [(3, tm_i (x + 1)), (2, tm_i (y + 0)), (0, .ref (E.2.1 49)), (1, .ref (E.2.1 23))] C dX5_sumPaid_34 rfl (by decide) rfl ?_
        refine tv_goto (pc := 37) 4 C dX5_sumPaid_37 (by decide) ?_
        refine tv_sub (lv1 := [(3, tm_i (x + 1)), (2, tm_i (y + 0)), (0, .ref (E.2.1 49)), (1, .ref (E.2.1 23))]) [0, 1, 2, 3] rfl ?_
        exact ih (k + 1) (x + 1) _ (by omega) (by omega) (by omega) (by rw [su_s, if_neg h19]; omega)
      · skip
        refine tv_aload_n (pc := 22) 3 C dX5_sumPaid_22 rfl rfl ?_
        refine tv_getr (pc := 23) (q := 27) C rfl rfl fl_X5_92 dX5_sumPaid_23 ?_
        refine tv_iload_n (pc := 26) 0 C dX5_sumPaid_26 rfl rfl ?_
        refine tv_iald (pc := 27) (j := k) (z := od_p (d 2) k) C rfl dX5_sumPaid_27 (by omega) (by omega) ((ho k (by omega)).2) ?_
        refine tv_goto (pc := 28) 32 C dX5_sumPaid_28 (by decide) ?_
        refine tv_iadd (pc := 32) C dX5_sumPaid_32 ?_
        refine tv_istore_n (pc := 33) [(2, tm_i (y + (od_p (d 2) k))), (3, tm_i x), (0, .ref (E.2.1 49)), (1, .ref (E.2.1 23))] C dX5_sumPaid_33 rfl (by decide) rfl ?_
        refine tv_iinc (pc := 34) 1 [(3, tm_i (x + 1)), (2, tm_i (y + (od_p (d 2) k))), (0, .ref (E.2.1 49)), (1, .ref (E.2.1 23))] C dX5_sumPaid_34 rfl (by decide) rfl ?_
        refine tv_goto (pc := 37) 4 C dX5_sumPaid_37 (by decide) ?_
        refine tv_sub (lv1 := [(3, tm_i (x + 1)), (2, tm_i (y + (od_p (d 2) k))), (0, .ref (E.2.1 49)), (1, .ref (E.2.1 23))]) [0, 1, 2, 3] rfl ?_
        exact ih (k + 1) (x + 1) _ (by omega) (by omega) (by omega) (by rw [su_s, if_pos h19]; omega)
theorem c5_sumPaid_b (E : tm_Ev) (l : Launch) (μ : tm_M) (d : tm_M) (e : Nat → Int) (hd : dd_ok d) (hn : μ 23 4 = (dd_n d : Int)) (ho : ∀ k, k < dd_n d → μ 26 k = od_d (d 2) k ∧ μ 27 k = od_p (d 2) k) (he : ∀ k, k < 8 → μ 56 k = e k) (hr : ∀ k, -1 ≤ e k ∧ e k ≤ 39) : tm_Met E l yX5_sumPaid cX5_sumPaid 4 (some .int) 1 [.ref (E.2.1 49), .ref (E.2.1 23)] μ (tm_pi (fun z μ' => z = py_s d e ∧ μ' = μ)) := by
  refine tm_intro [(0, .ref (E.2.1 49)), (1, .ref (E.2.1 23))] rfl (by decide +kernel) (Nat.le_of_ble_eq_true rfl) ?_
  intro X hX C
  subst hX
  have h8 : dd_n d ≤ 8 := sp_no_bd _ (by have q := hd.2.1; omega)
  refine tv_iconst (pc := 0) C dX5_sumPaid_0 ?_
  refine tv_istore_n (pc := 1) [(2, tm_i 0), (0, .ref (E.2.1 49)), (1, .ref (E.2.1 23))] C dX5_sumPaid_1 rfl (by decide) rfl ?_
  refine tv_iconst (pc := 2) C dX5_sumPaid_2 ?_
  refine tv_istore_n (pc := 3) [(3, tm_i 0), (2, tm_i 0), (0, .ref (E.2.1 49)), (1, .ref (E.2.1 23))] C dX5_sumPaid_3 rfl (by decide) rfl ?_
  refine tv_sub (lv1 := [(3, tm_i 0), (2, tm_i 0), (0, .ref (E.2.1 49)), (1, .ref (E.2.1 23))]) [0, 1, 2, 3] rfl ?_
  exact l_sumPaid_b C μ d e hd hn ho he hr h8 _ ⟨_, rfl, rfl, rfl⟩ (dd_n d + 1) 0 0 0 rfl (by omega) (by omega) rfl
theorem c5_allSacks_b (E : tm_Ev) (l : Launch) (μ : tm_M)  : tm_Met E l yX5_allSacks cX5_allSacks 1 (some .int) 0 [.ref (E.2.1 49)] μ (tm_pi (fun z μ' => z = μ 52 39 ∧ μ' = μ)) := by
  refine tm_intro [(0, .ref (E.2.1 49))] rfl (by decide +kernel) (Nat.le_of_ble_eq_true rfl) ?_
  intro X hX C
  subst hX
  refine tv_aload_n (pc := 0) 0 C dX5_allSacks_0 rfl rfl ?_
  refine tv_getr (pc := 1) (q := 52) C rfl rfl fl_X5_22 dX5_allSacks_1 ?_
  refine tv_bipush (pc := 4) C dX5_allSacks_4 (by decide) ?_
  refine tv_iald (pc := 6) (j := 39) (z := μ 52 39) C rfl dX5_allSacks_6 (by omega) rfl rfl ?_
  refine tv_iret (pc := 7) C dX5_allSacks_7 ?_
  exact ⟨_, rfl, rfl, rfl⟩
theorem c8_isPaid (E : tm_Ev) (l : Launch) (μ : tm_M) (d : tm_M) (e : Nat → Int) (hd : dd_ok d) (hn : μ 74 4 = (dd_n d : Int)) (ho : ∀ k, k < dd_n d → μ 80 k = od_d (d 2) k ∧ μ 81 k = od_p (d 2) k) (he : ∀ k, k < 8 → μ 92 k = e k) (hr : ∀ k, -1 ≤ e k ∧ e k ≤ 39) (k : Nat) (x : Int) (hx : x = k) (hk : k < dd_n d) : tm_Met E l yX8_isPaid cX8_isPaid 2 (some .boolean) 0 [.ref (E.2.1 74), tm_i x] μ (tm_pi (fun z μ' => z = (if py_b d e k = true then 1 else 0) ∧ μ' = μ)) := by
  refine tm_intro [(0, .ref (E.2.1 74)), (1, tm_i x)] rfl (by decide +kernel) (Nat.le_of_ble_eq_true rfl) ?_
  intro X hX C
  subst hX
  have h8 : dd_n d ≤ 8 := sp_no_bd _ (by have q := hd.2.1; omega)
  have hb := (od_bd (f := d 2) (n := (d 0 1).toNat) (k := k) hk).2.2.1
  have hrk := hr k
  refine tv_aload_n (pc := 0) 0 C dX8_isPaid_0 rfl rfl ?_
  refine tv_getr (pc := 1) (q := 92) C rfl rfl fl_X8_61 dX8_isPaid_1 ?_
  refine tv_iload_n (pc := 4) 1 C dX8_isPaid_4 rfl rfl ?_
  refine tv_iald (pc := 5) (j := k) (z := e k) C rfl dX8_isPaid_5 (by omega) (by omega) (he k (by omega)) ?_
  refine tv_iconst (pc := 6) C dX8_isPaid_6 ?_
  refine tv_icmp_eq (pc := 7) 29 C dX8_isPaid_7 (by decide) (by omega) (by omega) (fun h7 => ?_) (fun h7 => ?_)
  · skip
    refine tv_iconst (pc := 29) C dX8_isPaid_29 ?_
    refine tv_zret (pc := 30) C dX8_isPaid_30 (by omega) ?_
    exact ⟨_, rfl, by unfold py_b; rw [if_neg (by simp only [decide_eq_true_eq]; omega)], rfl⟩
  · skip
    refine tv_aload_n (pc := 10) 0 C dX8_isPaid_10 rfl rfl ?_
    refine tv_getr (pc := 11) (q := 92) C rfl rfl fl_X8_61 dX8_isPaid_11 ?_
    refine tv_iload_n (pc := 14) 1 C dX8_isPaid_14 rfl rfl ?_
    refine tv_iald (pc := 15) (j := k) (z := e k) C rfl dX8_isPaid_15 (by omega) (by omega) (he k (by omega)) ?_
    refine tv_aload_n (pc := 16) 0 C dX8_isPaid_16 rfl rfl ?_
    refine tv_getr (pc := 17) (q := 80) C rfl rfl fl_X8_25 dX8_isPaid_17 ?_
    refine tv_iload_n (pc := 20) 1 C dX8_isPaid_20 rfl rfl ?_
    refine tv_iald (pc := 21) (j := k) (z := od_d (d 2) k) C rfl dX8_isPaid_21 (by omega) (by omega) ((ho k hk).1) ?_
    refine tv_icmp_gt (pc := 22) 29 C dX8_isPaid_22 (by decide) (by omega) (by omega) (fun h22 => ?_) (fun h22 => ?_)
    · skip
      refine tv_iconst (pc := 29) C dX8_isPaid_29 ?_
      refine tv_zret (pc := 30) C dX8_isPaid_30 (by omega) ?_
      exact ⟨_, rfl, by unfold py_b; rw [if_neg (by simp only [decide_eq_true_eq]; omega)], rfl⟩
    · skip
      refine tv_iconst (pc := 25) C dX8_isPaid_25 ?_
      refine tv_goto (pc := 26) 30 C dX8_isPaid_26 (by decide) ?_
      refine tv_zret (pc := 30) C dX8_isPaid_30 (by omega) ?_
      exact ⟨_, rfl, by unfold py_b; rw [if_pos (decide_eq_true (by omega))], rfl⟩
theorem l_paidNow {E : tm_Ev} {X : tm_X} (C : tm_C E X yX8_paidNow.cls cX8_paidNow 3 (some .int) 1) (μ : tm_M) (d : tm_M) (e : Nat → Int) (hd : dd_ok d) (hn : μ 74 4 = (dd_n d : Int)) (ho : ∀ k, k < dd_n d → μ 80 k = od_d (d 2) k ∧ μ 81 k = od_p (d 2) k) (he : ∀ k, k < 8 → μ 92 k = e k) (hr : ∀ k, -1 ≤ e k ∧ e k ≤ 39) (h8 : dd_n d ≤ 8) (post : Option Value → tm_M → Prop) (hpost : post (some (tm_i (py_s d e))) μ) : ∀ (f k : Nat) (x y : Int), x = k → k ≤ dd_n d → dd_n d - k < f → y = su_n (fun k => if py_b d e k = true then od_p (d 2) k else 0) k → tm_V E X (tm_Q E X post) 3 4 [(2, tm_i x), (1, tm_i y), (0, .ref (E.2.1 74))] [] μ := by
  intro f
  induction f with
  | zero => intro k x y hx hj hf hy; omega
  | succ f ih =>
    intro k x y hx hj hf hy
    refine tv_iload_n (pc := 4) 0 C dX8_paidNow_4 rfl rfl ?_
    refine tv_aload_n (pc := 5) 2 C dX8_paidNow_5 rfl rfl ?_
    refine tv_geti (pc := 6) (z := (dd_n d : Int)) C rfl rfl fl_X8_114 dX8_paidNow_6 hn ?_
    refine tv_icmp_ge (pc := 9) 39 C dX8_paidNow_9 (by decide) (by omega) (by omega) (fun h9 => ?_) (fun h9 => ?_)
    · skip
      refine tv_iload_n (pc := 39) 1 C dX8_paidNow_39 rfl rfl ?_
      refine tv_iret (pc := 40) C dX8_paidNow_40 ?_
      have hin : k = dd_n d := by omega
      subst hin
      rw [hy]
      exact hpost
    · skip
      refine tv_iload_n (pc := 12) 1 C dX8_paidNow_12 rfl rfl ?_
      refine tv_aload_n (pc := 13) 2 C dX8_paidNow_13 rfl rfl ?_
      refine tv_iload_n (pc := 14) 0 C dX8_paidNow_14 rfl rfl ?_
      refine tv_callV (pc := 15) [tm_i x] [tm_i y] C (c8_isPaid E _ μ d e hd hn ho he hr k _ hx (by omega)) cv_X8_228 rfl rfl (by decide) rfl (Nat.le_of_ble_eq_true rfl) rfl dX8_paidNow_15 (tm_kp ?_)
      refine tv_ifeqB (pc := 18) 30 C dX8_paidNow_18 (by decide) (fun h18 => ?_) (fun h18 => ?_)
      · skip
        refine tv_iconst (pc := 30) C dX8_paidNow_30 ?_
        refine tv_iadd (pc := 31) C dX8_paidNow_31 ?_
        refine tv_istore_n (pc := 32) [(1, tm_i (y + 0)), (2, tm_i x), (0, .ref (E.2.1 74))] C dX8_paidNow_32 rfl (by decide) rfl ?_
        refine tv_iinc (pc := 33) 1 [(2, tm_i (x + 1)), (1, tm_i (y + 0)), (0, .ref (E.2.1 74))] C dX8_paidNow_33 rfl (by decide) rfl ?_
        refine tv_goto (pc := 36) 4 C dX8_paidNow_36 (by decide) ?_
        refine tv_sub (lv1 := [(2, tm_i (x + 1)), (1, tm_i (y + 0)), (0, .ref (E.2.1 74))]) [0, 1, 2] rfl ?_
        exact ih (k + 1) (x + 1) _ (by omega) (by omega) (by omega) (by rw [su_s, if_neg h18]; omega)
      · skip
        refine tv_aload_n (pc := 21) 2 C dX8_paidNow_21 rfl rfl ?_
        refine tv_getr (pc := 22) (q := 81) C rfl rfl fl_X8_28 dX8_paidNow_22 ?_
        refine tv_iload_n (pc := 25) 0 C dX8_paidNow_25 rfl rfl ?_
        refine tv_iald (pc := 26) (j := k) (z := od_p (d 2) k) C rfl dX8_paidNow_26 (by omega) (by omega) ((ho k (by omega)).2) ?_
        refine tv_goto (pc := 27) 31 C dX8_paidNow_27 (by decide) ?_
        refine tv_iadd (pc := 31) C dX8_paidNow_31 ?_
        refine tv_istore_n (pc := 32) [(1, tm_i (y + (od_p (d 2) k))), (2, tm_i x), (0, .ref (E.2.1 74))] C dX8_paidNow_32 rfl (by decide) rfl ?_
        refine tv_iinc (pc := 33) 1 [(2, tm_i (x + 1)), (1, tm_i (y + (od_p (d 2) k))), (0, .ref (E.2.1 74))] C dX8_paidNow_33 rfl (by decide) rfl ?_
        refine tv_goto (pc := 36) 4 C dX8_paidNow_36 (by decide) ?_
        refine tv_sub (lv1 := [(2, tm_i (x + 1)), (1, tm_i (y + (od_p (d 2) k))), (0, .ref (E.2.1 74))]) [0, 1, 2] rfl ?_
        exact ih (k + 1) (x + 1) _ (by omega) (by omega) (by omega) (by rw [su_s, if_pos h18]; omega)
theorem c8_paidNow (E : tm_Ev) (l : Launch) (μ : tm_M) (d : tm_M) (e : Nat → Int) (hd : dd_ok d) (hn : μ 74 4 = (dd_n d : Int)) (ho : ∀ k, k < dd_n d → μ 80 k = od_d (d 2) k ∧ μ 81 k = od_p (d 2) k) (he : ∀ k, k < 8 → μ 92 k = e k) (hr : ∀ k, -1 ≤ e k ∧ e k ≤ 39) : tm_Met E l yX8_paidNow cX8_paidNow 3 (some .int) 1 [.ref (E.2.1 74)] μ (tm_pi (fun z μ' => z = py_s d e ∧ μ' = μ)) := by
  refine tm_intro [(0, .ref (E.2.1 74))] rfl (by decide +kernel) (Nat.le_of_ble_eq_true rfl) ?_
  intro X hX C
  subst hX
  have h8 : dd_n d ≤ 8 := sp_no_bd _ (by have q := hd.2.1; omega)
  refine tv_iconst (pc := 0) C dX8_paidNow_0 ?_
  refine tv_istore_n (pc := 1) [(1, tm_i 0), (0, .ref (E.2.1 74))] C dX8_paidNow_1 rfl (by decide) rfl ?_
  refine tv_iconst (pc := 2) C dX8_paidNow_2 ?_
  refine tv_istore_n (pc := 3) [(2, tm_i 0), (1, tm_i 0), (0, .ref (E.2.1 74))] C dX8_paidNow_3 rfl (by decide) rfl ?_
  refine tv_sub (lv1 := [(2, tm_i 0), (1, tm_i 0), (0, .ref (E.2.1 74))]) [0, 1, 2] rfl ?_
  exact l_paidNow C μ d e hd hn ho he hr h8 _ ⟨_, rfl, rfl, rfl⟩ (dd_n d + 1) 0 0 0 rfl (by omega) (by omega) rfl
