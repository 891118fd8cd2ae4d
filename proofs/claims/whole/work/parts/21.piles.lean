theorem l_fill {E : tm_Ev} {X : tm_X} (C : tm_C E X yJ7_fill_53178.cls cJ7_fill_53178 4 none 0) (μ0 : tm_M) (k n : Nat) (v : Int) (hk : tm_tm[k]? = some (1, n, [])) (hn : n ≤ 2000) (post : Option Value → tm_M → Prop) (hpost : post none (tm_fill μ0 k n v)) : ∀ (f i : Nat) (x : Int), x = i → i ≤ n → n - i < f → tm_V E X (tm_Q E X post) 4 5 [(2, tm_i x), (3, tm_i ((n : Nat) : Int)), (0, .ref (E.2.1 k)), (1, tm_i v)] [] (tm_fill μ0 k i v) := by
  intro f
  induction f with
  | zero => intro i x hx hi hf; omega
  | succ f ih =>
    intro i x hx hi hf
    refine tv_iload_n (pc := 5) 0 C dJ7_fill_53178_5 rfl rfl ?_
    refine tv_iload_n (pc := 6) 1 C dJ7_fill_53178_6 rfl rfl ?_
    refine tv_icmp_ge (pc := 7) 20 C dJ7_fill_53178_7 (by decide) (by omega) (by omega) (fun h7 => ?_) (fun h7 => ?_)
    · skip
      refine tv_vret (pc := 20) C dJ7_fill_53178_20 ?_
      have hin : i = n := by omega
      subst hin
      exact hpost
    · skip
      refine tv_aload_n (pc := 10) 2 C dJ7_fill_53178_10 rfl rfl ?_
      refine tv_iload_n (pc := 11) 0 C dJ7_fill_53178_11 rfl rfl ?_
      refine tv_iload_n (pc := 12) 3 C dJ7_fill_53178_12 rfl rfl ?_
      refine tv_iast (pc := 13) (j := i) C hk dJ7_fill_53178_13 (by omega) (by omega) ?_
      refine tv_iinc (pc := 14) 0 [(2, tm_i (x + 1)), (3, tm_i (n : Nat)), (0, .ref (E.2.1 k)), (1, tm_i v)] C dJ7_fill_53178_14 rfl (by decide) rfl ?_
      refine tv_goto (pc := 17) 5 C dJ7_fill_53178_17 (by decide) ?_
      refine tv_sub (lv1 := [(2, tm_i (x + 1)), (3, tm_i (n : Nat)), (0, .ref (E.2.1 k)), (1, tm_i v)]) [0, 1, 2, 3] rfl ?_
      rw [tm_fill_s]
      exact ih (i + 1) (x + 1) (by omega) (by omega) (by omega)
/-- Arrays.fill of ints -/
theorem cJ_fill (E : tm_Ev) (l : Launch) (μ : tm_M) (k n : Nat) (v : Int) (hk : tm_tm[k]? = some (1, n, [])) : tm_Met E l yJ7_fill_53178 cJ7_fill_53178 4 none 0 [.ref (E.2.1 k), tm_i v] μ (tm_pv (fun μ' => μ' = tm_fill μ k n v)) := by
  refine tm_intro [(0, .ref (E.2.1 k)), (1, tm_i v)] rfl (by decide +kernel) (Nat.le_of_ble_eq_true rfl) ?_
  intro X hX C
  subst hX
  refine tv_iconst (pc := 0) C dJ7_fill_53178_0 ?_
  refine tv_istore_n (pc := 1) [(2, tm_i 0), (0, .ref (E.2.1 k)), (1, tm_i v)] C dJ7_fill_53178_1 rfl (by decide) rfl ?_
  refine tv_aload_n (pc := 2) 1 C dJ7_fill_53178_2 rfl rfl ?_
  refine tv_alen (pc := 3) 0 C hk rfl rfl rfl dJ7_fill_53178_3 ?_
  refine tv_istore_n (pc := 4) [(3, tm_i (n : Nat)), (2, tm_i 0), (0, .ref (E.2.1 k)), (1, tm_i v)] C dJ7_fill_53178_4 rfl (by decide) rfl ?_
  refine tv_sub (lv1 := [(2, tm_i 0), (3, tm_i (n : Nat)), (0, .ref (E.2.1 k)), (1, tm_i v)]) [1, 0, 2, 3] rfl ?_
  refine tv_mem (tm_fill μ k 0 v) (tm_fill_0 μ k v).symm ?_
  exact l_fill C μ k n v hk (tm_n hk) _ ⟨rfl, rfl⟩ (n + 1) 0 0 rfl (by omega) (by omega)
theorem c2_isFull (E : tm_Ev) (l : Launch) (μ : tm_M) (k k1 n : Nat) (hk : tm_tm[k]? = some (0, 2, [some k1, none])) (hk1 : tm_tm[k1]? = some (1, n, [])) (hz : 0 ≤ μ k 1 ∧ μ k 1 ≤ n) : tm_Met E l yX2_isFull cX2_isFull 1 (some .boolean) 0 [.ref (E.2.1 k)] μ (tm_pi (fun z μ' => z = (if (n : Int) ≤ μ k 1 then 1 else 0) ∧ μ' = μ)) := by
  refine tm_intro [(0, .ref (E.2.1 k))] rfl (by decide +kernel) (Nat.le_of_ble_eq_true rfl) ?_
  intro X hX C
  subst hX
  have hn := tm_n hk1
  refine tv_aload_n (pc := 0) 0 C dX2_isFull_0 rfl rfl ?_
  refine tv_geti (pc := 1) (z := μ k 1) C hk rfl fl_X2_19 dX2_isFull_1 rfl ?_
  refine tv_aload_n (pc := 4) 0 C dX2_isFull_4 rfl rfl ?_
  refine tv_getr (pc := 5) (q := k1) C hk rfl fl_X2_13 dX2_isFull_5 ?_
  refine tv_alen (pc := 8) 0 C hk1 rfl rfl rfl dX2_isFull_8 ?_
  refine tv_icmp_lt (pc := 9) 16 C dX2_isFull_9 (by decide) (by omega) (by omega) (fun h9 => ?_) (fun h9 => ?_)
  · skip
    refine tv_iconst (pc := 16) C dX2_isFull_16 ?_
    refine tv_zret (pc := 17) C dX2_isFull_17 (by omega) ?_
    exact ⟨_, rfl, by split <;> omega, rfl⟩
  · skip
    refine tv_iconst (pc := 12) C dX2_isFull_12 ?_
    refine tv_goto (pc := 13) 17 C dX2_isFull_13 (by decide) ?_
    refine tv_zret (pc := 17) C dX2_isFull_17 (by omega) ?_
    exact ⟨_, rfl, by split <;> omega, rfl⟩
theorem c2_add (E : tm_Ev) (l : Launch) (μ : tm_M) (k k1 n : Nat) (hk : tm_tm[k]? = some (0, 2, [some k1, none])) (hk1 : tm_tm[k1]? = some (1, n, [])) (hz : 0 ≤ μ k 1 ∧ μ k 1 ≤ n) (v : Int) (hne : k ≠ k1) : tm_Met E l yX2_add cX2_add 2 none 1 [.ref (E.2.1 k), tm_i v] μ (tm_pv (fun μ' => (μ k 1 < n → μ' = tm_up (tm_up μ k1 (μ k 1).toNat v) k 1 (μ k 1 + 1)) ∧ ((n : Int) ≤ μ k 1 → μ' = μ))) := by
  refine tm_intro [(0, .ref (E.2.1 k)), (1, tm_i v)] rfl (by decide +kernel) (Nat.le_of_ble_eq_true rfl) ?_
  intro X hX C
  subst hX
  have hn := tm_n hk1
  refine tv_aload_n (pc := 0) 0 C dX2_add_0 rfl rfl ?_
  refine tv_callV (pc := 1) [] [] C (c2_isFull E _ μ k k1 n hk hk1 (by omega)) cv_X2_23 hk rfl (by decide) rfl (Nat.le_of_ble_eq_true rfl) rfl dX2_add_1 (tm_kp ?_)
  refine tv_ifneB (pc := 4) 27 C dX2_add_4 (by decide) (fun h4 => ?_) (fun h4 => ?_)
  · skip
    refine tv_vret (pc := 27) C dX2_add_27 ?_
    exact ⟨rfl, by refine ⟨?_, ?_⟩ <;> intro h <;> first | (exfalso; omega) | rfl⟩
  · skip
    refine tv_aload_n (pc := 7) 0 C dX2_add_7 rfl rfl ?_
    refine tv_getr (pc := 8) (q := k1) C hk rfl fl_X2_13 dX2_add_8 ?_
    refine tv_aload_n (pc := 11) 0 C dX2_add_11 rfl rfl ?_
    refine tv_geti (pc := 12) (z := μ k 1) C hk rfl fl_X2_19 dX2_add_12 rfl ?_
    refine tv_iload_n (pc := 15) 1 C dX2_add_15 rfl rfl ?_
    refine tv_iast (pc := 16) (j := (μ k 1).toNat) C hk1 dX2_add_16 (by omega) rfl ?_
    refine tv_aload_n (pc := 17) 0 C dX2_add_17 rfl rfl ?_
    refine tv_dup (pc := 18) C dX2_add_18 rfl ?_
    refine tv_geti (pc := 19) (z := μ k 1) C hk rfl fl_X2_19 dX2_add_19 ((tm_uk hne).trans (rfl)) ?_
    refine tv_iconst (pc := 22) C dX2_add_22 ?_
    refine tv_iadd (pc := 23) C dX2_add_23 ?_
    refine tv_puti (pc := 24) C hk rfl fp_X2_19 dX2_add_24 ?_
    refine tv_vret (pc := 27) C dX2_add_27 ?_
    exact ⟨rfl, by refine ⟨?_, ?_⟩ <;> intro h <;> first | (exfalso; omega) | rfl⟩
