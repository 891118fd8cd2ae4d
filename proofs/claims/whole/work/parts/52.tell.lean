theorem tm_cnt_s {μ : tm_M} {k k1 j n : Nat} (hj : μ k1 j = (n : Int)) (hn : n < 40) : tm_up (tm_rowf μ k 40 (fun h => ct_n (fun b => decide (μ k1 b = (h : Int))) j)) k n (ct_n (fun b => decide (μ k1 b = (n : Int))) j + 1) = tm_rowf μ k 40 (fun h => ct_n (fun b => decide (μ k1 b = (h : Int))) (j + 1)) := by
  funext a b
  by_cases ha : a = k
  · subst ha
    rw [tm_ua]
    by_cases hb : b < 40
    · rw [tm_rowf_in hb, tm_rowf_in hb]
      show _ = ct_n (fun c => decide (μ k1 c = (b : Int))) j + (if decide (μ k1 j = (b : Int)) = true then 1 else 0)
      by_cases hbn : b = n
      · subst hbn
        rw [if_pos rfl, if_pos (decide_eq_true hj)]
      · rw [if_neg hbn, if_neg (by simp only [decide_eq_true_eq]; omega)]
        omega
    · rw [if_neg (by omega), tm_rowf_out (by omega), tm_rowf_out (by omega)]
  · rw [tm_uk ha, tm_rowf_k ha, tm_rowf_k ha]
theorem l_tell1 {E : tm_Ev} {X : tm_X} (C : tm_C E X yX0_tell.cls cX0_tell 5 none 2) (μ : tm_M) (hs : 0 ≤ μ 2 1 ∧ μ 2 1 ≤ 40) (hby : ∀ j : Nat, (j : Int) < μ 2 1 → 0 ≤ μ 3 j ∧ μ 3 j ≤ 255) (tl : Int) (ht : (sp_tf (μ 3) (μ 2 1).toNat = -1 ∧ tl = μ 2 1) ∨ (¬ sp_tf (μ 3) (μ 2 1).toNat = -1 ∧ tl = 0)) (Q : State → Prop) (hk : ∀ x : Int, tm_V E X Q 5 62 [(4, tm_i x), (3, tm_i tl), (0, .ref (E.2.1 29)), (1, .ref (E.2.1 2)), (2, .ref (E.2.1 28))] [] (tm_rowf μ 31 40 (sp_sea (μ 3) (μ 2 1).toNat))) : ∀ (f h : Nat) (x : Int), x = h → h ≤ 40 → 40 - h < f → tm_V E X Q 5 20 [(4, tm_i x), (3, tm_i tl), (0, .ref (E.2.1 29)), (1, .ref (E.2.1 2)), (2, .ref (E.2.1 28))] [] (tm_rowf μ 31 h (sp_sea (μ 3) (μ 2 1).toNat)) := by
  intro f
  induction f with
  | zero => intro h x hx hj hf; omega
  | succ f ih =>
    intro h x hx hj hf
    refine tv_iload (pc := 20) 0 C dX0_tell_20 rfl ?_
    refine tv_bipush (pc := 22) C dX0_tell_22 (by decide) ?_
    refine tv_icmp_ge (pc := 24) 62 C dX0_tell_24 (by decide) (by omega) (by omega) (fun h24 => ?_) (fun h24 => ?_)
    · skip
      refine tv_sub (lv1 := [(4, tm_i x), (3, tm_i tl), (0, .ref (E.2.1 29)), (1, .ref (E.2.1 2)), (2, .ref (E.2.1 28))]) [0, 1, 2, 3, 4] rfl ?_
      have hin : h = 40 := by omega
      subst hin
      exact hk x
    · skip
      refine tv_aload_n (pc := 27) 2 C dX0_tell_27 rfl rfl ?_
      refine tv_getr (pc := 28) (q := 31) C rfl rfl fl_X0_15 dX0_tell_28 ?_
      refine tv_iload (pc := 31) 0 C dX0_tell_31 rfl ?_
      refine tv_iload (pc := 33) 0 C dX0_tell_33 rfl ?_
      refine tv_iload_n (pc := 35) 1 C dX0_tell_35 rfl rfl ?_
      refine tv_icmp_ge (pc := 36) 54 C dX0_tell_36 (by decide) (by omega) (by omega) (fun h36 => ?_) (fun h36 => ?_)
      · skip
        refine tv_iconst (pc := 54) C dX0_tell_54 ?_
        refine tv_top (sp_sea (μ 3) (μ 2 1).toNat h) (by unfold sp_sea; rw [if_neg (by omega)]) ?_
        refine tv_iast (pc := 55) (j := h) C rfl dX0_tell_55 (by omega) (by omega) ?_
        refine tv_iinc (pc := 56) 0 [(4, tm_i (x + 1)), (3, tm_i tl), (0, .ref (E.2.1 29)), (1, .ref (E.2.1 2)), (2, .ref (E.2.1 28))] C dX0_tell_56 rfl (by decide) rfl ?_
        refine tv_goto (pc := 59) 20 C dX0_tell_59 (by decide) ?_
        refine tv_sub (lv1 := [(4, tm_i (x + 1)), (3, tm_i tl), (0, .ref (E.2.1 29)), (1, .ref (E.2.1 2)), (2, .ref (E.2.1 28))]) [0, 1, 2, 3, 4] rfl ?_
        rw [tm_rowf_s rfl]
        exact ih (h + 1) (x + 1) (by omega) (by omega) (by omega)
      · skip
        refine tv_iconst (pc := 39) C dX0_tell_39 ?_
        refine tv_aload_n (pc := 40) 3 C dX0_tell_40 rfl rfl ?_
        refine tv_getr (pc := 41) (q := 3) C rfl rfl fl_X0_41 dX0_tell_41 ?_
        refine tv_iload (pc := 44) 0 C dX0_tell_44 rfl ?_
        refine tv_iald (pc := 46) (j := h) (z := μ 3 h) C rfl dX0_tell_46 (by omega) (by omega) (tm_rowf_k (by decide)) ?_
        refine tv_bipush (pc := 47) C dX0_tell_47 (by decide) ?_
        refine tv_isub (pc := 49) C dX0_tell_49 ?_
        refine tv_imul (pc := 50) C dX0_tell_50 ?_
        refine tv_goto (pc := 51) 55 C dX0_tell_51 (by decide) ?_
        refine tv_top (sp_sea (μ 3) (μ 2 1).toNat h) (by unfold sp_sea; rw [if_pos (by omega)]) ?_
        refine tv_iast (pc := 55) (j := h) C rfl dX0_tell_55 (by omega) (by omega) ?_
        refine tv_iinc (pc := 56) 0 [(4, tm_i (x + 1)), (3, tm_i tl), (0, .ref (E.2.1 29)), (1, .ref (E.2.1 2)), (2, .ref (E.2.1 28))] C dX0_tell_56 rfl (by decide) rfl ?_
        refine tv_goto (pc := 59) 20 C dX0_tell_59 (by decide) ?_
        refine tv_sub (lv1 := [(4, tm_i (x + 1)), (3, tm_i tl), (0, .ref (E.2.1 29)), (1, .ref (E.2.1 2)), (2, .ref (E.2.1 28))]) [0, 1, 2, 3, 4] rfl ?_
        rw [tm_rowf_s rfl]
        exact ih (h + 1) (x + 1) (by omega) (by omega) (by omega)
theorem l_tell2 {E : tm_Ev} {X : tm_X} (C : tm_C E X yX0_tell.cls cX0_tell 5 none 2) (M : tm_M) (n : Nat) (hn : M 29 6 = (n : Int)) (h8 : n ≤ 8) (post : Option Value → tm_M → Prop) (hpost : post none (tm_rowf M 34 n (fun b => (b : Int)))) : ∀ (f q : Nat) (x : Int), x = q → q ≤ n → n - q < f → tm_V E X (tm_Q E X post) 5 87 [(4, tm_i x), (0, .ref (E.2.1 29))] [] (tm_rowf M 34 q (fun b => (b : Int))) := by
  intro f
  induction f with
  | zero => intro q x hx hj hf; omega
  | succ f ih =>
    intro q x hx hj hf
    refine tv_iload (pc := 87) 0 C dX0_tell_87 rfl ?_
    refine tv_aload_n (pc := 89) 1 C dX0_tell_89 rfl rfl ?_
    refine tv_geti (pc := 90) (z := (n : Int)) C rfl rfl fl_X0_53 dX0_tell_90 ((tm_rowf_k (by decide)).trans hn) ?_
    refine tv_icmp_ge (pc := 93) 111 C dX0_tell_93 (by decide) (by omega) (by omega) (fun h93 => ?_) (fun h93 => ?_)
    · skip
      refine tv_vret (pc := 111) C dX0_tell_111 ?_
      have hin : q = n := by omega
      subst hin
      exact hpost
    · skip
      refine tv_aload_n (pc := 96) 1 C dX0_tell_96 rfl rfl ?_
      refine tv_getr (pc := 97) (q := 34) C rfl rfl fl_X0_24 dX0_tell_97 ?_
      refine tv_iload (pc := 100) 0 C dX0_tell_100 rfl ?_
      refine tv_iload (pc := 102) 0 C dX0_tell_102 rfl ?_
      refine tv_iast (pc := 104) (j := q) C rfl dX0_tell_104 (by omega) (by omega) ?_
      refine tv_iinc (pc := 105) 0 [(4, tm_i (x + 1)), (0, .ref (E.2.1 29))] C dX0_tell_105 rfl (by decide) rfl ?_
      refine tv_goto (pc := 108) 87 C dX0_tell_108 (by decide) ?_
      refine tv_sub (lv1 := [(4, tm_i (x + 1)), (0, .ref (E.2.1 29))]) [0, 1] rfl ?_
      rw [tm_rowf_s (by omega)]
      exact ih (q + 1) (x + 1) (by omega) (by omega) (by omega)
theorem c0_tell (E : tm_Ev) (l : Launch) (μ : tm_M) (hs : 0 ≤ μ 2 1 ∧ μ 2 1 ≤ 40) (hby : ∀ j : Nat, (j : Int) < μ 2 1 → 0 ≤ μ 3 j ∧ μ 3 j ≤ 255) (n : Nat) (hn : μ 23 4 = (n : Int)) (hn8 : n ≤ 8) : tm_Met E l yX0_tell cX0_tell 5 none 2 [.ref (E.2.1 29), .ref (E.2.1 2), .ref (E.2.1 28)] μ (tm_pv (fun μ' => μ' = tm_rowf (tm_up (tm_cp (tm_rowf μ 31 40 (sp_sea (μ 3) (μ 2 1).toNat)) 28 30 0 0 5) 29 6 (n : Int)) 34 n (fun b => (b : Int)))) := by
  refine tm_intro [(0, .ref (E.2.1 29)), (1, .ref (E.2.1 2)), (2, .ref (E.2.1 28))] rfl (by decide +kernel) (Nat.le_of_ble_eq_true rfl) ?_
  intro X hX C
  subst hX
  refine tv_aload_n (pc := 0) 1 C dX0_tell_0 rfl rfl ?_
  refine tv_callN (pc := 1) [.ref (E.2.1 2)] [] C (c7_tideFault E _ μ hs hby) cn_X0_31 (by decide) rfl (Nat.le_of_ble_eq_true rfl) rfl dX0_tell_1 (tm_ki ?_)
  rintro zf μ9 ⟨hzf, h9⟩
  have h9 := h9.symm
  subst h9
  have hzr : -1 ≤ zf ∧ zf ≤ 40 := by
    rw [hzf]
    rcases fi_bd (ok := ok_t (μ 3)) (μ 2 1).toNat 0 with q | q
    · unfold sp_tf; omega
    · unfold sp_tf; omega
  refine tv_iconst (pc := 4) C dX0_tell_4 ?_
  refine tv_icmp_ne (pc := 5) 15 C dX0_tell_5 (by decide) (by omega) (by omega) (fun h5 => ?_) (fun h5 => ?_)
  · skip
    refine tv_iconst (pc := 15) C dX0_tell_15 ?_
    refine tv_istore_n (pc := 16) [(3, tm_i 0), (0, .ref (E.2.1 29)), (1, .ref (E.2.1 2)), (2, .ref (E.2.1 28))] C dX0_tell_16 rfl (by decide) rfl ?_
    refine tv_iconst (pc := 17) C dX0_tell_17 ?_
    refine tv_istore (pc := 18) [(4, tm_i 0), (3, tm_i 0), (0, .ref (E.2.1 29)), (1, .ref (E.2.1 2)), (2, .ref (E.2.1 28))] C dX0_tell_18 (by decide) rfl ?_
    refine tv_sub (lv1 := [(4, tm_i 0), (3, tm_i 0), (0, .ref (E.2.1 29)), (1, .ref (E.2.1 2)), (2, .ref (E.2.1 28))]) [0, 1, 2, 3, 4] rfl ?_
    refine tv_mem _ (tm_rowf_0 μ 31 (sp_sea (μ 3) (μ 2 1).toNat)).symm ?_
    refine l_tell1 C μ hs hby _ (by omega) _ (fun x => ?_) 41 0 0 rfl (by omega) (by omega)
    refine tv_aload_n (pc := 62) 4 C dX0_tell_62 rfl rfl ?_
    refine tv_iconst (pc := 63) C dX0_tell_63 ?_
    refine tv_aload_n (pc := 64) 2 C dX0_tell_64 rfl rfl ?_
    refine tv_getr (pc := 65) (q := 30) C rfl rfl fl_X0_9 dX0_tell_65 ?_
    refine tv_iconst (pc := 68) C dX0_tell_68 ?_
    refine tv_iconst (pc := 69) C dX0_tell_69 ?_
    refine tv_acopy (pc := 70) (sp' := 0) (dp' := 0) (n' := 5) C ac_X0_44 rfl rfl (by omega) rfl rfl rfl (Nat.le_of_ble_eq_true rfl) dX0_tell_70 ?_
    refine tv_aload_n (pc := 73) 2 C dX0_tell_73 rfl rfl ?_
    refine tv_aload_n (pc := 74) 2 C dX0_tell_74 rfl rfl ?_
    refine tv_getr (pc := 75) (q := 23) C rfl rfl fl_X0_27 dX0_tell_75 ?_
    refine tv_geti (pc := 78) (z := (n : Int)) C rfl rfl fl_X0_50 dX0_tell_78 ((tm_cp_k (by decide)).trans ((tm_rowf_k (by decide)).trans hn)) ?_
    refine tv_puti (pc := 81) C rfl rfl fp_X0_53 dX0_tell_81 ?_
    refine tv_iconst (pc := 84) C dX0_tell_84 ?_
    refine tv_istore (pc := 85) [(4, tm_i 0), (3, tm_i 0), (0, .ref (E.2.1 29)), (1, .ref (E.2.1 2)), (2, .ref (E.2.1 28))] C dX0_tell_85 (by decide) rfl ?_
    refine tv_sub (lv1 := [(4, tm_i 0), (0, .ref (E.2.1 29))]) [0, 2] rfl ?_
    refine tv_mem _ (tm_rowf_0 _ 34 (fun b => (b : Int))).symm ?_
    exact l_tell2 C _ n tm_us hn8 _ ⟨rfl, rfl⟩ (n + 1) 0 0 rfl (by omega) (by omega)
  · skip
    refine tv_aload_n (pc := 8) 1 C dX0_tell_8 rfl rfl ?_
    refine tv_geti (pc := 9) (z := μ 2 1) C rfl rfl fl_X0_35 dX0_tell_9 rfl ?_
    refine tv_goto (pc := 12) 16 C dX0_tell_12 (by decide) ?_
    refine tv_istore_n (pc := 16) [(3, tm_i (μ 2 1)), (0, .ref (E.2.1 29)), (1, .ref (E.2.1 2)), (2, .ref (E.2.1 28))] C dX0_tell_16 rfl (by decide) rfl ?_
    refine tv_iconst (pc := 17) C dX0_tell_17 ?_
    refine tv_istore (pc := 18) [(4, tm_i 0), (3, tm_i (μ 2 1)), (0, .ref (E.2.1 29)), (1, .ref (E.2.1 2)), (2, .ref (E.2.1 28))] C dX0_tell_18 (by decide) rfl ?_
    refine tv_sub (lv1 := [(4, tm_i 0), (3, tm_i (μ 2 1)), (0, .ref (E.2.1 29)), (1, .ref (E.2.1 2)), (2, .ref (E.2.1 28))]) [0, 1, 2, 3, 4] rfl ?_
    refine tv_mem _ (tm_rowf_0 μ 31 (sp_sea (μ 3) (μ 2 1).toNat)).symm ?_
    refine l_tell1 C μ hs hby _ (by omega) _ (fun x => ?_) 41 0 0 rfl (by omega) (by omega)
    refine tv_aload_n (pc := 62) 4 C dX0_tell_62 rfl rfl ?_
    refine tv_iconst (pc := 63) C dX0_tell_63 ?_
    refine tv_aload_n (pc := 64) 2 C dX0_tell_64 rfl rfl ?_
    refine tv_getr (pc := 65) (q := 30) C rfl rfl fl_X0_9 dX0_tell_65 ?_
    refine tv_iconst (pc := 68) C dX0_tell_68 ?_
    refine tv_iconst (pc := 69) C dX0_tell_69 ?_
    refine tv_acopy (pc := 70) (sp' := 0) (dp' := 0) (n' := 5) C ac_X0_44 rfl rfl (by omega) rfl rfl rfl (Nat.le_of_ble_eq_true rfl) dX0_tell_70 ?_
    refine tv_aload_n (pc := 73) 2 C dX0_tell_73 rfl rfl ?_
    refine tv_aload_n (pc := 74) 2 C dX0_tell_74 rfl rfl ?_
    refine tv_getr (pc := 75) (q := 23) C rfl rfl fl_X0_27 dX0_tell_75 ?_
    refine tv_geti (pc := 78) (z := (n : Int)) C rfl rfl fl_X0_50 dX0_tell_78 ((tm_cp_k (by decide)).trans ((tm_rowf_k (by decide)).trans hn)) ?_
    refine tv_puti (pc := 81) C rfl rfl fp_X0_53 dX0_tell_81 ?_
    refine tv_iconst (pc := 84) C dX0_tell_84 ?_
    refine tv_istore (pc := 85) [(4, tm_i 0), (3, tm_i (μ 2 1)), (0, .ref (E.2.1 29)), (1, .ref (E.2.1 2)), (2, .ref (E.2.1 28))] C dX0_tell_85 (by decide) rfl ?_
    refine tv_sub (lv1 := [(4, tm_i 0), (0, .ref (E.2.1 29))]) [0, 2] rfl ?_
    refine tv_mem _ (tm_rowf_0 _ 34 (fun b => (b : Int))).symm ?_
    exact l_tell2 C _ n tm_us hn8 _ ⟨rfl, rfl⟩ (n + 1) 0 0 rfl (by omega) (by omega)
theorem l_count_32 {E : tm_Ev} {X : tm_X} (C : tm_C E X yX7_countHours.cls cX7_countHours 3 none 1) (μ : tm_M) (hs : 0 ≤ μ 6 1 ∧ μ 6 1 ≤ 6) (hh : ∀ j : Nat, (j : Int) < μ 6 1 → 0 ≤ μ 7 j ∧ μ 7 j ≤ 39) (post : Option Value → tm_M → Prop) (hpost : post none (tm_rowf μ 32 40 (fun h => ct_n (fun k => decide (μ 7 k = (h : Int))) (μ 6 1).toNat))) : ∀ (f j : Nat) (x : Int), x = j → (j : Int) ≤ μ 6 1 → 6 - j < f → tm_V E X (tm_Q E X post) 3 7 [(2, tm_i x), (0, .ref (E.2.1 6)), (1, .ref (E.2.1 32))] [] (tm_rowf μ 32 40 (fun h => ct_n (fun k => decide (μ 7 k = (h : Int))) j)) := by
  intro f
  induction f with
  | zero => intro j x hx hj hf; omega
  | succ f ih =>
    intro j x hx hj hf
    refine tv_iload_n (pc := 7) 0 C dX7_countHours_7 rfl rfl ?_
    refine tv_aload_n (pc := 8) 1 C dX7_countHours_8 rfl rfl ?_
    refine tv_geti (pc := 9) (z := μ 6 1) C rfl rfl fl_X7_105 dX7_countHours_9 (tm_rowf_k (by decide)) ?_
    refine tv_icmp_ge (pc := 12) 33 C dX7_countHours_12 (by decide) (by omega) (by omega) (fun h12 => ?_) (fun h12 => ?_)
    · skip
      refine tv_vret (pc := 33) C dX7_countHours_33 ?_
      refine cast (congrArg (fun y => post none (tm_rowf μ 32 40 (fun h => ct_n (fun k => decide (μ 7 k = (h : Int))) y))) ?_) hpost
      omega
    · skip
      have hb := hh j (by omega)
      refine tv_aload_n (pc := 15) 2 C dX7_countHours_15 rfl rfl ?_
      refine tv_aload_n (pc := 16) 1 C dX7_countHours_16 rfl rfl ?_
      refine tv_getr (pc := 17) (q := 7) C rfl rfl fl_X7_246 dX7_countHours_17 ?_
      refine tv_iload_n (pc := 20) 0 C dX7_countHours_20 rfl rfl ?_
      refine tv_iald (pc := 21) (j := j) (z := μ 7 j) C rfl dX7_countHours_21 (by omega) (by omega) (tm_rowf_k (by decide)) ?_
      refine tv_dup2 (pc := 22) C dX7_countHours_22 rfl rfl ?_
      refine tv_iald (pc := 23) (j := (μ 7 j).toNat) (z := ct_n (fun k => decide (μ 7 k = (((μ 7 j).toNat : Nat) : Int))) j) C rfl dX7_countHours_23 (by omega) rfl (tm_rowf_in (by omega)) ?_
      refine tv_iconst (pc := 24) C dX7_countHours_24 ?_
      refine tv_iadd (pc := 25) C dX7_countHours_25 ?_
      refine tv_iast (pc := 26) (j := (μ 7 j).toNat) C rfl dX7_countHours_26 (by omega) rfl ?_
      refine tv_iinc (pc := 27) 0 [(2, tm_i (x + 1)), (0, .ref (E.2.1 6)), (1, .ref (E.2.1 32))] C dX7_countHours_27 rfl (by decide) rfl ?_
      refine tv_goto (pc := 30) 7 C dX7_countHours_30 (by decide) ?_
      refine tv_sub (lv1 := [(2, tm_i (x + 1)), (0, .ref (E.2.1 6)), (1, .ref (E.2.1 32))]) [0, 1, 2] rfl ?_
      refine tv_mem (tm_rowf μ 32 40 (fun h => ct_n (fun k => decide (μ 7 k = (h : Int))) (j + 1))) (tm_cnt_s (by omega) (by omega)) ?_
      exact ih (j + 1) (x + 1) (by omega) (by omega) (by omega)
theorem c7_count_32 (E : tm_Ev) (l : Launch) (μ : tm_M) (hs : 0 ≤ μ 6 1 ∧ μ 6 1 ≤ 6) (hh : ∀ j : Nat, (j : Int) < μ 6 1 → 0 ≤ μ 7 j ∧ μ 7 j ≤ 39) : tm_Met E l yX7_countHours cX7_countHours 3 none 1 [.ref (E.2.1 6), .ref (E.2.1 32)] μ (tm_pv (fun μ' => μ' = tm_rowf μ 32 40 (fun h => ct_n (fun k => decide (μ 7 k = (h : Int))) (μ 6 1).toNat))) := by
  refine tm_intro [(0, .ref (E.2.1 6)), (1, .ref (E.2.1 32))] rfl (by decide +kernel) (Nat.le_of_ble_eq_true rfl) ?_
  intro X hX C
  subst hX
  refine tv_aload_n (pc := 0) 1 C dX7_countHours_0 rfl rfl ?_
  refine tv_iconst (pc := 1) C dX7_countHours_1 ?_
  refine tv_callS (pc := 2) [.ref (E.2.1 32), tm_i 0] [] C (cJ_fill E _ μ 32 40 0 rfl) cs_X7_376 (by decide) rfl (Nat.le_of_ble_eq_true rfl) rfl dX7_countHours_2 (tm_kv ?_)
  rintro _ rfl
  refine tv_iconst (pc := 5) C dX7_countHours_5 ?_
  refine tv_istore_n (pc := 6) [(2, tm_i 0), (0, .ref (E.2.1 6)), (1, .ref (E.2.1 32))] C dX7_countHours_6 rfl (by decide) rfl ?_
  refine tv_sub (lv1 := [(2, tm_i 0), (0, .ref (E.2.1 6)), (1, .ref (E.2.1 32))]) [0, 1, 2] rfl ?_
  refine tv_mem (tm_rowf μ 32 40 (fun h => ct_n (fun k => decide (μ 7 k = (h : Int))) 0)) rfl ?_
  exact l_count_32 C μ hs hh _ ⟨rfl, rfl⟩ 7 0 0 rfl (by omega) (by omega)
theorem l_count_33 {E : tm_Ev} {X : tm_X} (C : tm_C E X yX7_countHours.cls cX7_countHours 3 none 1) (μ : tm_M) (hs : 0 ≤ μ 8 1 ∧ μ 8 1 ≤ 6) (hh : ∀ j : Nat, (j : Int) < μ 8 1 → 0 ≤ μ 9 j ∧ μ 9 j ≤ 39) (post : Option Value → tm_M → Prop) (hpost : post none (tm_rowf μ 33 40 (fun h => ct_n (fun k => decide (μ 9 k = (h : Int))) (μ 8 1).toNat))) : ∀ (f j : Nat) (x : Int), x = j → (j : Int) ≤ μ 8 1 → 6 - j < f → tm_V E X (tm_Q E X post) 3 7 [(2, tm_i x), (0, .ref (E.2.1 8)), (1, .ref (E.2.1 33))] [] (tm_rowf μ 33 40 (fun h => ct_n (fun k => decide (μ 9 k = (h : Int))) j)) := by
  intro f
  induction f with
  | zero => intro j x hx hj hf; omega
  | succ f ih =>
    intro j x hx hj hf
    refine tv_iload_n (pc := 7) 0 C dX7_countHours_7 rfl rfl ?_
    refine tv_aload_n (pc := 8) 1 C dX7_countHours_8 rfl rfl ?_
    refine tv_geti (pc := 9) (z := μ 8 1) C rfl rfl fl_X7_105 dX7_countHours_9 (tm_rowf_k (by decide)) ?_
    refine tv_icmp_ge (pc := 12) 33 C dX7_countHours_12 (by decide) (by omega) (by omega) (fun h12 => ?_) (fun h12 => ?_)
    · skip
      refine tv_vret (pc := 33) C dX7_countHours_33 ?_
      refine cast (congrArg (fun y => post none (tm_rowf μ 33 40 (fun h => ct_n (fun k => decide (μ 9 k = (h : Int))) y))) ?_) hpost
      omega
    · skip
      have hb := hh j (by omega)
      refine tv_aload_n (pc := 15) 2 C dX7_countHours_15 rfl rfl ?_
      refine tv_aload_n (pc := 16) 1 C dX7_countHours_16 rfl rfl ?_
      refine tv_getr (pc := 17) (q := 9) C rfl rfl fl_X7_246 dX7_countHours_17 ?_
      refine tv_iload_n (pc := 20) 0 C dX7_countHours_20 rfl rfl ?_
      refine tv_iald (pc := 21) (j := j) (z := μ 9 j) C rfl dX7_countHours_21 (by omega) (by omega) (tm_rowf_k (by decide)) ?_
      refine tv_dup2 (pc := 22) C dX7_countHours_22 rfl rfl ?_
      refine tv_iald (pc := 23) (j := (μ 9 j).toNat) (z := ct_n (fun k => decide (μ 9 k = (((μ 9 j).toNat : Nat) : Int))) j) C rfl dX7_countHours_23 (by omega) rfl (tm_rowf_in (by omega)) ?_
      refine tv_iconst (pc := 24) C dX7_countHours_24 ?_
      refine tv_iadd (pc := 25) C dX7_countHours_25 ?_
      refine tv_iast (pc := 26) (j := (μ 9 j).toNat) C rfl dX7_countHours_26 (by omega) rfl ?_
      refine tv_iinc (pc := 27) 0 [(2, tm_i (x + 1)), (0, .ref (E.2.1 8)), (1, .ref (E.2.1 33))] C dX7_countHours_27 rfl (by decide) rfl ?_
      refine tv_goto (pc := 30) 7 C dX7_countHours_30 (by decide) ?_
      refine tv_sub (lv1 := [(2, tm_i (x + 1)), (0, .ref (E.2.1 8)), (1, .ref (E.2.1 33))]) [0, 1, 2] rfl ?_
      refine tv_mem (tm_rowf μ 33 40 (fun h => ct_n (fun k => decide (μ 9 k = (h : Int))) (j + 1))) (tm_cnt_s (by omega) (by omega)) ?_
      exact ih (j + 1) (x + 1) (by omega) (by omega) (by omega)
theorem c7_count_33 (E : tm_Ev) (l : Launch) (μ : tm_M) (hs : 0 ≤ μ 8 1 ∧ μ 8 1 ≤ 6) (hh : ∀ j : Nat, (j : Int) < μ 8 1 → 0 ≤ μ 9 j ∧ μ 9 j ≤ 39) : tm_Met E l yX7_countHours cX7_countHours 3 none 1 [.ref (E.2.1 8), .ref (E.2.1 33)] μ (tm_pv (fun μ' => μ' = tm_rowf μ 33 40 (fun h => ct_n (fun k => decide (μ 9 k = (h : Int))) (μ 8 1).toNat))) := by
  refine tm_intro [(0, .ref (E.2.1 8)), (1, .ref (E.2.1 33))] rfl (by decide +kernel) (Nat.le_of_ble_eq_true rfl) ?_
  intro X hX C
  subst hX
  refine tv_aload_n (pc := 0) 1 C dX7_countHours_0 rfl rfl ?_
  refine tv_iconst (pc := 1) C dX7_countHours_1 ?_
  refine tv_callS (pc := 2) [.ref (E.2.1 33), tm_i 0] [] C (cJ_fill E _ μ 33 40 0 rfl) cs_X7_376 (by decide) rfl (Nat.le_of_ble_eq_true rfl) rfl dX7_countHours_2 (tm_kv ?_)
  rintro _ rfl
  refine tv_iconst (pc := 5) C dX7_countHours_5 ?_
  refine tv_istore_n (pc := 6) [(2, tm_i 0), (0, .ref (E.2.1 8)), (1, .ref (E.2.1 33))] C dX7_countHours_6 rfl (by decide) rfl ?_
  refine tv_sub (lv1 := [(2, tm_i 0), (0, .ref (E.2.1 8)), (1, .ref (E.2.1 33))]) [0, 1, 2] rfl ?_
  refine tv_mem (tm_rowf μ 33 40 (fun h => ct_n (fun k => decide (μ 9 k = (h : Int))) 0)) rfl ?_
  exact l_count_33 C μ hs hh _ ⟨rfl, rfl⟩ 7 0 0 rfl (by omega) (by omega)
