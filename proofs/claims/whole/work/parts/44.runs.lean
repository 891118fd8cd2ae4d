theorem tm_rr_0 {μ : tm_M} {l0 : Int} (hl : l0 = sm_l (rm_p μ) 0) : tm_fill (tm_up (tm_up (tm_up (tm_up (tm_up (tm_up (tm_up μ 74 21 (μ 74 19)) 74 22 0) 74 23 0) 74 24 0) 74 25 0) 74 26 0) 74 27 l0) 92 8 (-1) = tm_rr μ (rm_p μ) 0 := by
  refine tm_rr_eq ?_ ?_ ?_ ?_ ?_ ?_ ?_ ?_
  · refine tm_f74 ?_ ?_ ?_ ?_ ?_ ?_ ?_ ?_
    · rw [tm_fill_k (by decide), tm_uj (by decide), tm_uj (by decide), tm_uj (by decide), tm_uj (by decide), tm_uj (by decide), tm_uj (by decide), tm_us]; rfl
    · rw [tm_fill_k (by decide), tm_uj (by decide), tm_uj (by decide), tm_uj (by decide), tm_uj (by decide), tm_uj (by decide), tm_us]; rfl
    · rw [tm_fill_k (by decide), tm_uj (by decide), tm_uj (by decide), tm_uj (by decide), tm_uj (by decide), tm_us]; rfl
    · rw [tm_fill_k (by decide), tm_uj (by decide), tm_uj (by decide), tm_uj (by decide), tm_us]; rfl
    · rw [tm_fill_k (by decide), tm_uj (by decide), tm_uj (by decide), tm_us]; rfl
    · rw [tm_fill_k (by decide), tm_uj (by decide), tm_us]; rfl
    · rw [tm_fill_k (by decide), tm_us, hl]
    · intro x hx
      rw [tm_fill_k (by decide), tm_uj (by omega), tm_uj (by omega), tm_uj (by omega), tm_uj (by omega), tm_uj (by omega), tm_uj (by omega), tm_uj (by omega)]
  · intro b; rw [if_neg (by omega), tm_fill_k (by decide)]; simp only [tm_uk (show (87 : Nat) ≠ 74 by decide)]
  · intro b; rw [if_neg (by omega), tm_fill_k (by decide)]; simp only [tm_uk (show (88 : Nat) ≠ 74 by decide)]
  · intro b; rw [if_neg (by omega), tm_fill_k (by decide)]; simp only [tm_uk (show (89 : Nat) ≠ 74 by decide)]
  · intro b; rw [if_neg (by omega), tm_fill_k (by decide)]; simp only [tm_uk (show (90 : Nat) ≠ 74 by decide)]
  · intro b; rw [if_neg (by omega), tm_fill_k (by decide)]; simp only [tm_uk (show (91 : Nat) ≠ 74 by decide)]
  · intro b
    by_cases hb : b < 8
    · rw [if_pos hb, tm_fill_in hb]; rfl
    · rw [if_neg hb, tm_fill_out (by omega)]; simp only [tm_uk (show (92 : Nat) ≠ 74 by decide)]
  · intro a ha
    rw [tm_fill_f (by omega), tm_uf (by omega), tm_uf (by omega), tm_uf (by omega), tm_uf (by omega), tm_uf (by omega), tm_uf (by omega), tm_uf (by omega)]
theorem l_runs1 {E : tm_Ev} {X : tm_X} {Q : State → Prop} {d : Nat} (C : tm_C E X yX8_runs.cls cX8_runs 2 none d) (M : tm_M) (hk : ∀ x : Int, tm_V E X Q 2 80 [(1, tm_i x), (0, .ref (E.2.1 74))] [] (tm_fill M 92 8 (-1))) : ∀ (f j : Nat) (x : Int), x = j → j ≤ 8 → 8 - j < f → tm_V E X Q 2 61 [(1, tm_i x), (0, .ref (E.2.1 74))] [] (tm_fill M 92 j (-1)) := by
  intro f
  induction f with
  | zero => intro j x hx hj hf; omega
  | succ f ih =>
    intro j x hx hj hf
    refine tv_iload_n (pc := 61) 0 C dX8_runs_61 rfl rfl ?_
    refine tv_bipush (pc := 62) C dX8_runs_62 (by decide) ?_
    refine tv_icmp_ge (pc := 64) 80 C dX8_runs_64 (by decide) (by omega) (by omega) (fun h64 => ?_) (fun h64 => ?_)
    · skip
      refine tv_sub (lv1 := [(1, tm_i x), (0, .ref (E.2.1 74))]) [0, 1] rfl ?_
      have hin : j = 8 := by omega
      subst hin
      exact hk x
    · skip
      refine tv_aload_n (pc := 67) 1 C dX8_runs_67 rfl rfl ?_
      refine tv_getr (pc := 68) (q := 92) C rfl rfl fl_X8_61 dX8_runs_68 ?_
      refine tv_iload_n (pc := 71) 0 C dX8_runs_71 rfl rfl ?_
      refine tv_iconst (pc := 72) C dX8_runs_72 ?_
      refine tv_iast (pc := 73) (j := j) C rfl dX8_runs_73 (by omega) (by omega) ?_
      refine tv_iinc (pc := 74) 0 [(1, tm_i (x + 1)), (0, .ref (E.2.1 74))] C dX8_runs_74 rfl (by decide) rfl ?_
      refine tv_goto (pc := 77) 61 C dX8_runs_77 (by decide) ?_
      refine tv_sub (lv1 := [(1, tm_i (x + 1)), (0, .ref (E.2.1 74))]) [0, 1] rfl ?_
      rw [tm_fill_s]
      exact ih (j + 1) (x + 1) (by omega) (by omega) (by omega)
theorem l_runs2 {E : tm_Ev} {X : tm_X} (C : tm_C E X yX8_runs.cls cX8_runs 2 none 3) (μ : tm_M) (hp : rm_ok μ) (post : Option Value → tm_M → Prop) (hpost : post none (tm_rr μ (rm_p μ) 40)) : ∀ (f h : Nat) (x : Int), x = h → h ≤ 40 → 40 - h < f → tm_V E X (tm_Q E X post) 2 82 [(1, tm_i x), (0, .ref (E.2.1 74))] [] (tm_rr μ (rm_p μ) h) := by
  intro f
  induction f with
  | zero => intro h x hx hj hf; omega
  | succ f ih =>
    intro h x hx hj hf
    refine tv_iload_n (pc := 82) 0 C dX8_runs_82 rfl rfl ?_
    refine tv_bipush (pc := 83) C dX8_runs_83 (by decide) ?_
    refine tv_icmp_ge (pc := 85) 99 C dX8_runs_85 (by decide) (by omega) (by omega) (fun h85 => ?_) (fun h85 => ?_)
    · skip
      have hin : h = 40 := by omega
      subst hin
      refine tv_vret (pc := 99) C dX8_runs_99 ?_
      exact hpost
    · skip
      refine tv_aload_n (pc := 88) 1 C dX8_runs_88 rfl rfl ?_
      refine tv_iload_n (pc := 89) 0 C dX8_runs_89 rfl rfl ?_
      refine tv_callV (pc := 90) [tm_i x] [] C (by rw [hx]; exact c8_goesBy E _ μ _ h rfl hp (by omega)) cv_X8_210 rfl rfl (by decide) rfl (Nat.le_of_ble_eq_true rfl) rfl dX8_runs_90 (tm_kv ?_)
      rintro _ rfl
      refine tv_iinc (pc := 93) 0 [(1, tm_i (x + 1)), (0, .ref (E.2.1 74))] C dX8_runs_93 rfl (by decide) rfl ?_
      refine tv_goto (pc := 96) 82 C dX8_runs_96 (by decide) ?_
      refine tv_sub (lv1 := [(1, tm_i (x + 1)), (0, .ref (E.2.1 74))]) [0, 1] rfl ?_
      exact ih (h + 1) (x + 1) (by omega) (by omega) (by omega)
/-- the reference's 40 hours -/
theorem c8_runs (E : tm_Ev) (l : Launch) (μ : tm_M) (hp : rm_ok μ) : tm_Met E l yX8_runs cX8_runs 2 none 3 [.ref (E.2.1 74)] μ (tm_pv (fun μ' => μ' = tm_rr μ (rm_p μ) 40)) := by
  refine tm_intro [(0, .ref (E.2.1 74))] rfl (by decide +kernel) (Nat.le_of_ble_eq_true rfl) ?_
  intro X hX C
  subst hX
  have h58 : 0 ≤ μ 74 17 ∧ μ 74 17 ≤ 8 := hp.1.2.2.2.2.2.2.2.2.1
  refine tv_aload_n (pc := 0) 0 C dX8_runs_0 rfl rfl ?_
  refine tv_aload_n (pc := 1) 0 C dX8_runs_1 rfl rfl ?_
  refine tv_geti (pc := 2) (z := μ 74 19) C rfl rfl fl_X8_170 dX8_runs_2 rfl ?_
  refine tv_puti (pc := 5) C rfl rfl fp_X8_176 dX8_runs_5 ?_
  refine tv_aload_n (pc := 8) 0 C dX8_runs_8 rfl rfl ?_
  refine tv_iconst (pc := 9) C dX8_runs_9 ?_
  refine tv_puti (pc := 10) C rfl rfl fp_X8_188 dX8_runs_10 ?_
  refine tv_aload_n (pc := 13) 0 C dX8_runs_13 rfl rfl ?_
  refine tv_iconst (pc := 14) C dX8_runs_14 ?_
  refine tv_puti (pc := 15) C rfl rfl fp_X8_194 dX8_runs_15 ?_
  refine tv_aload_n (pc := 18) 0 C dX8_runs_18 rfl rfl ?_
  refine tv_iconst (pc := 19) C dX8_runs_19 ?_
  refine tv_puti (pc := 20) C rfl rfl fp_X8_182 dX8_runs_20 ?_
  refine tv_aload_n (pc := 23) 0 C dX8_runs_23 rfl rfl ?_
  refine tv_iconst (pc := 24) C dX8_runs_24 ?_
  refine tv_puti (pc := 25) C rfl rfl fp_X8_191 dX8_runs_25 ?_
  refine tv_aload_n (pc := 28) 0 C dX8_runs_28 rfl rfl ?_
  refine tv_iconst (pc := 29) C dX8_runs_29 ?_
  refine tv_puti (pc := 30) C rfl rfl fp_X8_185 dX8_runs_30 ?_
  refine tv_aload_n (pc := 33) 0 C dX8_runs_33 rfl rfl ?_
  refine tv_aload_n (pc := 34) 0 C dX8_runs_34 rfl rfl ?_
  refine tv_geti (pc := 35) (z := μ 74 17) C rfl rfl fl_X8_167 dX8_runs_35 ((tm_uj (by decide)).trans ((tm_uj (by decide)).trans ((tm_uj (by decide)).trans ((tm_uj (by decide)).trans ((tm_uj (by decide)).trans ((tm_uj (by decide)).trans (rfl))))))) ?_
  refine tv_if_le (pc := 38) 55 C dX8_runs_38 (by decide) (by omega) (fun h38 => ?_) (fun h38 => ?_)
  · skip
    refine tv_iconst (pc := 55) C dX8_runs_55 ?_
    refine tv_puti (pc := 56) C rfl rfl fp_X8_197 dX8_runs_56 ?_
    refine tv_iconst (pc := 59) C dX8_runs_59 ?_
    refine tv_istore_n (pc := 60) [(1, tm_i 0), (0, .ref (E.2.1 74))] C dX8_runs_60 rfl (by decide) rfl ?_
    refine tv_sub (lv1 := [(1, tm_i 0), (0, .ref (E.2.1 74))]) [0, 1] rfl ?_
    have hl : 0 = sm_l (rm_p μ) 0 := by
      unfold sm_l
      rw [if_neg (show ¬ ((sm_q (rm_p μ) 0 : Nat) : Int) < rm_p μ 5 0 from by show ¬ (0 : Int) < μ 74 17; omega)]
    refine tv_mem _ (tm_fill_0 _ 92 (-1)).symm ?_
    refine l_runs1 C _ (fun x => ?_) 9 0 0 rfl (by omega) (by omega)
    refine tv_mem _ (tm_rr_0 hl) ?_
    refine tv_iconst (pc := 80) C dX8_runs_80 ?_
    refine tv_istore_n (pc := 81) [(1, tm_i 0), (0, .ref (E.2.1 74))] C dX8_runs_81 rfl (by decide) rfl ?_
    refine tv_sub (lv1 := [(1, tm_i 0), (0, .ref (E.2.1 74))]) [0, 1] rfl ?_
    exact l_runs2 C μ hp _ ⟨rfl, rfl⟩ 41 0 0 rfl (by omega) (by omega)
  · skip
    have hrow := hp.1.2.2.2.2.2.2.2.2.2 0 h38
    have hr0 : 0 ≤ μ 86 0 ∧ μ 86 0 ≤ 7 := hrow.1
    refine tv_aload_n (pc := 41) 0 C dX8_runs_41 rfl rfl ?_
    refine tv_getr (pc := 42) (q := 79) C rfl rfl fl_X8_22 dX8_runs_42 ?_
    refine tv_aload_n (pc := 45) 0 C dX8_runs_45 rfl rfl ?_
    refine tv_getr (pc := 46) (q := 86) C rfl rfl fl_X8_43 dX8_runs_46 ?_
    refine tv_iconst (pc := 49) C dX8_runs_49 ?_
    refine tv_iald (pc := 50) (j := 0) (z := μ 86 0) C rfl dX8_runs_50 (by omega) rfl ((tm_uk (by decide)).trans ((tm_uk (by decide)).trans ((tm_uk (by decide)).trans ((tm_uk (by decide)).trans ((tm_uk (by decide)).trans ((tm_uk (by decide)).trans (rfl))))))) ?_
    refine tv_iald (pc := 51) (j := (μ 86 0).toNat) (z := μ 79 ((μ 86 0).toNat)) C rfl dX8_runs_51 (by omega) rfl ((tm_uk (by decide)).trans ((tm_uk (by decide)).trans ((tm_uk (by decide)).trans ((tm_uk (by decide)).trans ((tm_uk (by decide)).trans ((tm_uk (by decide)).trans (rfl))))))) ?_
    refine tv_goto (pc := 52) 56 C dX8_runs_52 (by decide) ?_
    refine tv_puti (pc := 56) C rfl rfl fp_X8_197 dX8_runs_56 ?_
    refine tv_iconst (pc := 59) C dX8_runs_59 ?_
    refine tv_istore_n (pc := 60) [(1, tm_i 0), (0, .ref (E.2.1 74))] C dX8_runs_60 rfl (by decide) rfl ?_
    refine tv_sub (lv1 := [(1, tm_i 0), (0, .ref (E.2.1 74))]) [0, 1] rfl ?_
    have hl : (μ 79 ((μ 86 0).toNat)) = sm_l (rm_p μ) 0 := by
      unfold sm_l
      rw [if_pos (show ((sm_q (rm_p μ) 0 : Nat) : Int) < rm_p μ 5 0 from by show (0 : Int) < μ 74 17; omega)]
      show _ = μ 79 (μ 86 0).toNat - 0
      omega
    refine tv_mem _ (tm_fill_0 _ 92 (-1)).symm ?_
    refine l_runs1 C _ (fun x => ?_) 9 0 0 rfl (by omega) (by omega)
    refine tv_mem _ (tm_rr_0 hl) ?_
    refine tv_iconst (pc := 80) C dX8_runs_80 ?_
    refine tv_istore_n (pc := 81) [(1, tm_i 0), (0, .ref (E.2.1 74))] C dX8_runs_81 rfl (by decide) rfl ?_
    refine tv_sub (lv1 := [(1, tm_i 0), (0, .ref (E.2.1 74))]) [0, 1] rfl ?_
    exact l_runs2 C μ hp _ ⟨rfl, rfl⟩ 41 0 0 rfl (by omega) (by omega)
