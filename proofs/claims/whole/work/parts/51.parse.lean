theorem sp_of_bd {f : Nat → Int} {n : Nat} (h : n ≤ 47) : -1 ≤ sp_of f n ∧ sp_of f n ≤ 47 := by
  unfold sp_of
  rcases fi_spec (ok := ok_o f) n 0 with ⟨h1, h2⟩ | ⟨j, h1, h2, h3, _⟩
  · rw [if_pos h1]
    split <;> omega
  · rw [if_neg (by omega), h3]; omega
theorem c7_isFigure (E : tm_Ev) (l : Launch) (μ : tm_M) (v lo hi : Int) (hv : -2147483648 ≤ v ∧ v ≤ 2147483647) (hlo : -2147483648 ≤ lo ∧ lo ≤ 2147483647) (hhi : -2147483648 ≤ hi ∧ hi ≤ 2147483647) : tm_Met E l yX7_isFigure cX7_isFigure 3 (some .boolean) 0 [tm_i v, tm_i lo, tm_i hi] μ (tm_pi (fun z μ' => z = (if lo ≤ v ∧ v ≤ hi then 1 else 0) ∧ μ' = μ)) := by
  refine tm_intro [(0, tm_i v), (1, tm_i lo), (2, tm_i hi)] rfl (by decide +kernel) (Nat.le_of_ble_eq_true rfl) ?_
  intro X hX C
  subst hX
  refine tv_iload_n (pc := 0) 0 C dX7_isFigure_0 rfl rfl ?_
  refine tv_iload_n (pc := 1) 1 C dX7_isFigure_1 rfl rfl ?_
  refine tv_icmp_lt (pc := 2) 14 C dX7_isFigure_2 (by decide) (by omega) (by omega) (fun h2 => ?_) (fun h2 => ?_)
  · skip
    refine tv_iconst (pc := 14) C dX7_isFigure_14 ?_
    refine tv_zret (pc := 15) C dX7_isFigure_15 (by omega) ?_
    exact ⟨_, rfl, by split <;> omega, rfl⟩
  · skip
    refine tv_iload_n (pc := 5) 0 C dX7_isFigure_5 rfl rfl ?_
    refine tv_iload_n (pc := 6) 2 C dX7_isFigure_6 rfl rfl ?_
    refine tv_icmp_gt (pc := 7) 14 C dX7_isFigure_7 (by decide) (by omega) (by omega) (fun h7 => ?_) (fun h7 => ?_)
    · skip
      refine tv_iconst (pc := 14) C dX7_isFigure_14 ?_
      refine tv_zret (pc := 15) C dX7_isFigure_15 (by omega) ?_
      exact ⟨_, rfl, by split <;> omega, rfl⟩
    · skip
      refine tv_iconst (pc := 10) C dX7_isFigure_10 ?_
      refine tv_goto (pc := 11) 15 C dX7_isFigure_11 (by decide) ?_
      refine tv_zret (pc := 15) C dX7_isFigure_15 (by omega) ?_
      exact ⟨_, rfl, by split <;> omega, rfl⟩
theorem l_tideFault {E : tm_Ev} {X : tm_X} (C : tm_C E X yX7_tideFault.cls cX7_tideFault 2 (some .int) 1) (μ : tm_M) (hs : 0 ≤ μ 2 1 ∧ μ 2 1 ≤ 40) (hby : ∀ j : Nat, (j : Int) < μ 2 1 → 0 ≤ μ 3 j ∧ μ 3 j ≤ 255) (post : Option Value → tm_M → Prop) : ∀ (f j : Nat) (x : Int), x = j → (j : Int) ≤ μ 2 1 → 40 - j < f → post (some (tm_i (fi_n (ok_t (μ 3)) ((μ 2 1).toNat - j) j))) μ → tm_V E X (tm_Q E X post) 2 2 [(1, tm_i x), (0, .ref (E.2.1 2))] [] μ := by
  intro f
  induction f with
  | zero => intro j x hx hj hf; omega
  | succ f ih =>
    intro j x hx hj hf hpost
    refine tv_iload_n (pc := 2) 0 C dX7_tideFault_2 rfl rfl ?_
    refine tv_aload_n (pc := 3) 1 C dX7_tideFault_3 rfl rfl ?_
    refine tv_geti (pc := 4) (z := μ 2 1) C rfl rfl fl_X7_105 dX7_tideFault_4 rfl ?_
    refine tv_icmp_ge (pc := 7) 34 C dX7_tideFault_7 (by decide) (by omega) (by omega) (fun h7 => ?_) (fun h7 => ?_)
    · skip
      refine tv_iconst (pc := 34) C dX7_tideFault_34 ?_
      refine tv_iret (pc := 35) C dX7_tideFault_35 ?_
      refine cast (congrArg (fun y => post (some (tm_i y)) μ) ?_) hpost
      exact fi_e (by omega)
    · skip
      have hb := hby j (by omega)
      refine tv_aload_n (pc := 10) 1 C dX7_tideFault_10 rfl rfl ?_
      refine tv_getr (pc := 11) (q := 3) C rfl rfl fl_X7_246 dX7_tideFault_11 ?_
      refine tv_iload_n (pc := 14) 0 C dX7_tideFault_14 rfl rfl ?_
      refine tv_iald (pc := 15) (j := j) (z := μ 3 j) C rfl dX7_tideFault_15 (by omega) (by omega) rfl ?_
      refine tv_bipush (pc := 16) C dX7_tideFault_16 (by decide) ?_
      refine tv_bipush (pc := 18) C dX7_tideFault_18 (by decide) ?_
      refine tv_callS (pc := 20) [tm_i (μ 3 j), tm_i 48, tm_i 57] [] C (c7_isFigure E _ μ (μ 3 j) 48 57 (by omega) (by omega) (by omega)) cs_X7_393 (by decide) rfl (Nat.le_of_ble_eq_true rfl) rfl dX7_tideFault_20 (tm_kp ?_)
      refine tv_ifneB (pc := 23) 28 C dX7_tideFault_23 (by decide) (fun h23 => ?_) (fun h23 => ?_)
      · skip
        refine tv_iinc (pc := 28) 0 [(1, tm_i (x + 1)), (0, .ref (E.2.1 2))] C dX7_tideFault_28 rfl (by decide) rfl ?_
        refine tv_goto (pc := 31) 2 C dX7_tideFault_31 (by decide) ?_
        refine tv_sub (lv1 := [(1, tm_i (x + 1)), (0, .ref (E.2.1 2))]) [0, 1] rfl ?_
        exact ih (j + 1) (x + 1) (by omega) (by omega) (by omega) (by rw [← fi_y (by omega) (show ok_t (μ 3) j = true from decide_eq_true (by simpa using h23))]; exact hpost)
      · skip
        refine tv_iload_n (pc := 26) 0 C dX7_tideFault_26 rfl rfl ?_
        refine tv_iret (pc := 27) C dX7_tideFault_27 ?_
        refine cast (congrArg (fun y => post (some (tm_i y)) μ) ?_) hpost
        rw [fi_x (by omega) (show ¬ ok_t (μ 3) j = true from fun q => h23 (by simpa [ok_t] using q))]; omega
theorem c7_tideFault (E : tm_Ev) (l : Launch) (μ : tm_M) (hs : 0 ≤ μ 2 1 ∧ μ 2 1 ≤ 40) (hby : ∀ j : Nat, (j : Int) < μ 2 1 → 0 ≤ μ 3 j ∧ μ 3 j ≤ 255) : tm_Met E l yX7_tideFault cX7_tideFault 2 (some .int) 1 [.ref (E.2.1 2)] μ (tm_pi (fun z μ' => z = sp_tf (μ 3) (μ 2 1).toNat ∧ μ' = μ)) := by
  refine tm_intro [(0, .ref (E.2.1 2))] rfl (by decide +kernel) (Nat.le_of_ble_eq_true rfl) ?_
  intro X hX C
  subst hX
  refine tv_iconst (pc := 0) C dX7_tideFault_0 ?_
  refine tv_istore_n (pc := 1) [(1, tm_i 0), (0, .ref (E.2.1 2))] C dX7_tideFault_1 rfl (by decide) rfl ?_
  refine tv_sub (lv1 := [(1, tm_i 0), (0, .ref (E.2.1 2))]) [0, 1] rfl ?_
  exact l_tideFault C μ hs hby _ 41 0 0 rfl (by omega) (by omega) ⟨_, rfl, rfl, rfl⟩
theorem c7_fitsOrder (E : tm_Ev) (l : Launch) (μ : tm_M) (b : Int) (pl : Nat) (hb : 0 ≤ b ∧ b ≤ 255) (hp : pl < 6) : tm_Met E l yX7_fitsOrder cX7_fitsOrder 2 (some .boolean) 1 [tm_i b, tm_i (pl : Int)] μ (tm_pi (fun z μ' => z = (if sp_fit b pl = true then 1 else 0) ∧ μ' = μ)) := by
  refine tm_intro [(0, tm_i b), (1, tm_i (pl : Int))] rfl (by decide +kernel) (Nat.le_of_ble_eq_true rfl) ?_
  intro X hX C
  subst hX
  refine tv_iload_n (pc := 0) 1 C dX7_fitsOrder_0 rfl rfl ?_
  rcases (show pl = 0 ∨ pl = 1 ∨ pl = 2 ∨ pl = 3 ∨ pl = 4 ∨ pl = 5 by omega) with rfl | rfl | rfl | rfl | rfl | rfl
  · skip
    refine tv_tabI (pc := 1) (off := 39) 40 C dX7_fitsOrder_1 (by omega) (by omega) (by decide) (by decide) ?_
    refine tv_iload_n (pc := 40) 0 C dX7_fitsOrder_40 rfl rfl ?_
    refine tv_bipush (pc := 41) C dX7_fitsOrder_41 (by decide) ?_
    refine tv_icmp_eq (pc := 43) 58 C dX7_fitsOrder_43 (by decide) (by omega) (by omega) (fun h43 => ?_) (fun h43 => ?_)
    · skip
      refine tv_iconst (pc := 58) C dX7_fitsOrder_58 ?_
      refine tv_goto (pc := 59) 63 C dX7_fitsOrder_59 (by decide) ?_
      refine tv_zret (pc := 63) C dX7_fitsOrder_63 (by omega) ?_
      exact ⟨_, rfl, by rw [if_pos (by simp [sp_fit]; omega)], rfl⟩
    · skip
      refine tv_iload_n (pc := 46) 0 C dX7_fitsOrder_46 rfl rfl ?_
      refine tv_bipush (pc := 47) C dX7_fitsOrder_47 (by decide) ?_
      refine tv_icmp_eq (pc := 49) 58 C dX7_fitsOrder_49 (by decide) (by omega) (by omega) (fun h49 => ?_) (fun h49 => ?_)
      · skip
        refine tv_iconst (pc := 58) C dX7_fitsOrder_58 ?_
        refine tv_goto (pc := 59) 63 C dX7_fitsOrder_59 (by decide) ?_
        refine tv_zret (pc := 63) C dX7_fitsOrder_63 (by omega) ?_
        exact ⟨_, rfl, by rw [if_pos (by simp [sp_fit]; omega)], rfl⟩
      · skip
        refine tv_iload_n (pc := 52) 0 C dX7_fitsOrder_52 rfl rfl ?_
        refine tv_bipush (pc := 53) C dX7_fitsOrder_53 (by decide) ?_
        refine tv_icmp_ne (pc := 55) 62 C dX7_fitsOrder_55 (by decide) (by omega) (by omega) (fun h55 => ?_) (fun h55 => ?_)
        · skip
          refine tv_iconst (pc := 62) C dX7_fitsOrder_62 ?_
          refine tv_zret (pc := 63) C dX7_fitsOrder_63 (by omega) ?_
          exact ⟨_, rfl, by rw [if_neg (by simp [sp_fit]; omega)], rfl⟩
        · skip
          refine tv_iconst (pc := 58) C dX7_fitsOrder_58 ?_
          refine tv_goto (pc := 59) 63 C dX7_fitsOrder_59 (by decide) ?_
          refine tv_zret (pc := 63) C dX7_fitsOrder_63 (by omega) ?_
          exact ⟨_, rfl, by rw [if_pos (by simp [sp_fit]; omega)], rfl⟩
  · skip
    refine tv_tabI (pc := 1) (off := 63) 64 C dX7_fitsOrder_1 (by omega) (by omega) (by decide) (by decide) ?_
    refine tv_iload_n (pc := 64) 0 C dX7_fitsOrder_64 rfl rfl ?_
    refine tv_bipush (pc := 65) C dX7_fitsOrder_65 (by decide) ?_
    refine tv_bipush (pc := 67) C dX7_fitsOrder_67 (by decide) ?_
    refine tv_callS (pc := 69) [tm_i b, tm_i 49, tm_i 57] [] C (c7_isFigure E _ μ b 49 57 (by omega) (by omega) (by omega)) cs_X7_393 (by decide) rfl (Nat.le_of_ble_eq_true rfl) rfl dX7_fitsOrder_69 (tm_kp ?_)
    refine tv_zret (pc := 72) C dX7_fitsOrder_72 (by omega) ?_
    exact ⟨_, rfl, by simp [sp_fit], rfl⟩
  · skip
    refine tv_tabI (pc := 1) (off := 72) 73 C dX7_fitsOrder_1 (by omega) (by omega) (by decide) (by decide) ?_
    refine tv_iload_n (pc := 73) 0 C dX7_fitsOrder_73 rfl rfl ?_
    refine tv_bipush (pc := 74) C dX7_fitsOrder_74 (by decide) ?_
    refine tv_bipush (pc := 76) C dX7_fitsOrder_76 (by decide) ?_
    refine tv_callS (pc := 78) [tm_i b, tm_i 48, tm_i 51] [] C (c7_isFigure E _ μ b 48 51 (by omega) (by omega) (by omega)) cs_X7_393 (by decide) rfl (Nat.le_of_ble_eq_true rfl) rfl dX7_fitsOrder_78 (tm_kp ?_)
    refine tv_zret (pc := 81) C dX7_fitsOrder_81 (by omega) ?_
    exact ⟨_, rfl, by simp [sp_fit], rfl⟩
  · skip
    refine tv_tabI (pc := 1) (off := 93) 94 C dX7_fitsOrder_1 (by omega) (by omega) (by decide) (by decide) ?_
    refine tv_iload_n (pc := 94) 0 C dX7_fitsOrder_94 rfl rfl ?_
    refine tv_bipush (pc := 95) C dX7_fitsOrder_95 (by decide) ?_
    refine tv_bipush (pc := 97) C dX7_fitsOrder_97 (by decide) ?_
    refine tv_callS (pc := 99) [tm_i b, tm_i 48, tm_i 57] [] C (c7_isFigure E _ μ b 48 57 (by omega) (by omega) (by omega)) cs_X7_393 (by decide) rfl (Nat.le_of_ble_eq_true rfl) rfl dX7_fitsOrder_99 (tm_kp ?_)
    refine tv_zret (pc := 102) C dX7_fitsOrder_102 (by omega) ?_
    exact ⟨_, rfl, by simp [sp_fit], rfl⟩
  · skip
    refine tv_tabI (pc := 1) (off := 93) 94 C dX7_fitsOrder_1 (by omega) (by omega) (by decide) (by decide) ?_
    refine tv_iload_n (pc := 94) 0 C dX7_fitsOrder_94 rfl rfl ?_
    refine tv_bipush (pc := 95) C dX7_fitsOrder_95 (by decide) ?_
    refine tv_bipush (pc := 97) C dX7_fitsOrder_97 (by decide) ?_
    refine tv_callS (pc := 99) [tm_i b, tm_i 48, tm_i 57] [] C (c7_isFigure E _ μ b 48 57 (by omega) (by omega) (by omega)) cs_X7_393 (by decide) rfl (Nat.le_of_ble_eq_true rfl) rfl dX7_fitsOrder_99 (tm_kp ?_)
    refine tv_zret (pc := 102) C dX7_fitsOrder_102 (by omega) ?_
    exact ⟨_, rfl, by simp [sp_fit], rfl⟩
  · skip
    refine tv_tabI (pc := 1) (off := 81) 82 C dX7_fitsOrder_1 (by omega) (by omega) (by decide) (by decide) ?_
    refine tv_iload_n (pc := 82) 0 C dX7_fitsOrder_82 rfl rfl ?_
    refine tv_bipush (pc := 83) C dX7_fitsOrder_83 (by decide) ?_
    refine tv_icmp_ne (pc := 85) 92 C dX7_fitsOrder_85 (by decide) (by omega) (by omega) (fun h85 => ?_) (fun h85 => ?_)
    · skip
      refine tv_iconst (pc := 92) C dX7_fitsOrder_92 ?_
      refine tv_zret (pc := 93) C dX7_fitsOrder_93 (by omega) ?_
      exact ⟨_, rfl, by rw [if_neg (by simp [sp_fit]; omega)], rfl⟩
    · skip
      refine tv_iconst (pc := 88) C dX7_fitsOrder_88 ?_
      refine tv_goto (pc := 89) 93 C dX7_fitsOrder_89 (by decide) ?_
      refine tv_zret (pc := 93) C dX7_fitsOrder_93 (by omega) ?_
      exact ⟨_, rfl, by rw [if_pos (by simp [sp_fit]; omega)], rfl⟩
theorem l_orderFault {E : tm_Ev} {X : tm_X} (C : tm_C E X yX7_orderFault.cls cX7_orderFault 2 (some .int) 2) (μ : tm_M) (hs : 0 ≤ μ 4 1 ∧ μ 4 1 ≤ 47) (hby : ∀ j : Nat, (j : Int) < μ 4 1 → 0 ≤ μ 5 j ∧ μ 5 j ≤ 255) (post : Option Value → tm_M → Prop) (hpost : post (some (tm_i (sp_of (μ 5) (μ 4 1).toNat))) μ) : ∀ (f j : Nat) (x : Int), x = j → (j : Int) ≤ μ 4 1 → 47 - j < f → fi_n (ok_o (μ 5)) (μ 4 1).toNat 0 = fi_n (ok_o (μ 5)) ((μ 4 1).toNat - j) j → tm_V E X (tm_Q E X post) 2 2 [(1, tm_i x), (0, .ref (E.2.1 4))] [] μ := by
  intro f
  induction f with
  | zero => intro j x hx hj hf; omega
  | succ f ih =>
    intro j x hx hj hf hfi
    refine tv_iload_n (pc := 2) 0 C dX7_orderFault_2 rfl rfl ?_
    refine tv_aload_n (pc := 3) 1 C dX7_orderFault_3 rfl rfl ?_
    refine tv_geti (pc := 4) (z := μ 4 1) C rfl rfl fl_X7_105 dX7_orderFault_4 rfl ?_
    refine tv_icmp_ge (pc := 7) 34 C dX7_orderFault_7 (by decide) (by omega) (by omega) (fun h7 => ?_) (fun h7 => ?_)
    · skip
      refine tv_aload_n (pc := 34) 1 C dX7_orderFault_34 rfl rfl ?_
      refine tv_geti (pc := 35) (z := μ 4 1) C rfl rfl fl_X7_105 dX7_orderFault_35 rfl ?_
      refine tv_if_eq (pc := 38) 52 C dX7_orderFault_38 (by decide) (by omega) (fun h38 => ?_) (fun h38 => ?_)
      · skip
        refine tv_iconst (pc := 52) C dX7_orderFault_52 ?_
        refine tv_goto (pc := 53) 57 C dX7_orderFault_53 (by decide) ?_
        refine tv_istore_n (pc := 57) [(1, tm_i 1), (0, .ref (E.2.1 4))] C dX7_orderFault_57 rfl (by decide) rfl ?_
        refine tv_iload_n (pc := 58) 0 C dX7_orderFault_58 rfl rfl ?_
        refine tv_if_eq (pc := 59) 66 C dX7_orderFault_59 (by decide) (by omega) (fun q => absurd q (by decide)) (fun _ => ?_)
        refine tv_iconst (pc := 62) C dX7_orderFault_62 ?_
        refine tv_goto (pc := 63) 70 C dX7_orderFault_63 (by decide) ?_
        refine tv_iret (pc := 70) C dX7_orderFault_70 ?_
        refine cast (congrArg (fun y => post (some (tm_i y)) μ) ?_) hpost
        have e := fi_e (ok := ok_o (μ 5)) (n := (μ 4 1).toNat) (i := j) (by omega)
        unfold sp_of
        rw [hfi, e, if_pos rfl]
        rw [if_pos (by omega)]
      · skip
        refine tv_aload_n (pc := 41) 1 C dX7_orderFault_41 rfl rfl ?_
        refine tv_geti (pc := 42) (z := μ 4 1) C rfl rfl fl_X7_105 dX7_orderFault_42 rfl ?_
        refine tv_bipush (pc := 45) C dX7_orderFault_45 (by decide) ?_
        refine tv_irem (pc := 47) C dX7_orderFault_47 (by omega) (by omega) ?_
        refine tv_iconst (pc := 48) C dX7_orderFault_48 ?_
        refine tv_icmp_ne (pc := 49) 56 C dX7_orderFault_49 (by decide) (by omega) (by omega) (fun h49 => ?_) (fun h49 => ?_)
        · skip
          refine tv_iconst (pc := 56) C dX7_orderFault_56 ?_
          refine tv_istore_n (pc := 57) [(1, tm_i 0), (0, .ref (E.2.1 4))] C dX7_orderFault_57 rfl (by decide) rfl ?_
          refine tv_iload_n (pc := 58) 0 C dX7_orderFault_58 rfl rfl ?_
          refine tv_if_eq (pc := 59) 66 C dX7_orderFault_59 (by decide) (by omega) (fun _ => ?_) (fun q => absurd q (by decide))
          refine tv_aload_n (pc := 66) 1 C dX7_orderFault_66 rfl rfl ?_
          refine tv_geti (pc := 67) (z := μ 4 1) C rfl rfl fl_X7_105 dX7_orderFault_67 rfl ?_
          refine tv_iret (pc := 70) C dX7_orderFault_70 ?_
          refine cast (congrArg (fun y => post (some (tm_i y)) μ) ?_) hpost
          have e := fi_e (ok := ok_o (μ 5)) (n := (μ 4 1).toNat) (i := j) (by omega)
          unfold sp_of
          rw [hfi, e, if_pos rfl]
          rw [if_neg (by omega)]; omega
        · skip
          refine tv_iconst (pc := 52) C dX7_orderFault_52 ?_
          refine tv_goto (pc := 53) 57 C dX7_orderFault_53 (by decide) ?_
          refine tv_istore_n (pc := 57) [(1, tm_i 1), (0, .ref (E.2.1 4))] C dX7_orderFault_57 rfl (by decide) rfl ?_
          refine tv_iload_n (pc := 58) 0 C dX7_orderFault_58 rfl rfl ?_
          refine tv_if_eq (pc := 59) 66 C dX7_orderFault_59 (by decide) (by omega) (fun q => absurd q (by decide)) (fun _ => ?_)
          refine tv_iconst (pc := 62) C dX7_orderFault_62 ?_
          refine tv_goto (pc := 63) 70 C dX7_orderFault_63 (by decide) ?_
          refine tv_iret (pc := 70) C dX7_orderFault_70 ?_
          refine cast (congrArg (fun y => post (some (tm_i y)) μ) ?_) hpost
          have e := fi_e (ok := ok_o (μ 5)) (n := (μ 4 1).toNat) (i := j) (by omega)
          unfold sp_of
          rw [hfi, e, if_pos rfl]
          rw [if_pos (by omega)]
    · skip
      have hb := hby j (by omega)
      refine tv_aload_n (pc := 10) 1 C dX7_orderFault_10 rfl rfl ?_
      refine tv_getr (pc := 11) (q := 5) C rfl rfl fl_X7_246 dX7_orderFault_11 ?_
      refine tv_iload_n (pc := 14) 0 C dX7_orderFault_14 rfl rfl ?_
      refine tv_iald (pc := 15) (j := j) (z := μ 5 j) C rfl dX7_orderFault_15 (by omega) (by omega) rfl ?_
      refine tv_iload_n (pc := 16) 0 C dX7_orderFault_16 rfl rfl ?_
      refine tv_bipush (pc := 17) C dX7_orderFault_17 (by decide) ?_
      refine tv_irem (pc := 19) C dX7_orderFault_19 (by omega) (by omega) ?_
      refine tv_top (((j % 6 : Nat) : Int)) (by omega) ?_
      refine tv_callS (pc := 20) [tm_i (μ 5 j), tm_i ((j % 6 : Nat) : Int)] [] C (c7_fitsOrder E _ μ (μ 5 j) (j % 6) (by omega) (by omega)) cs_X7_397 (by decide) rfl (Nat.le_of_ble_eq_true rfl) rfl dX7_orderFault_20 (tm_kp ?_)
      refine tv_ifneB (pc := 23) 28 C dX7_orderFault_23 (by decide) (fun h23 => ?_) (fun h23 => ?_)
      · skip
        refine tv_iinc (pc := 28) 0 [(1, tm_i (x + 1)), (0, .ref (E.2.1 4))] C dX7_orderFault_28 rfl (by decide) rfl ?_
        refine tv_goto (pc := 31) 2 C dX7_orderFault_31 (by decide) ?_
        refine tv_sub (lv1 := [(1, tm_i (x + 1)), (0, .ref (E.2.1 4))]) [0, 1] rfl ?_
        exact ih (j + 1) (x + 1) (by omega) (by omega) (by omega) (by rw [hfi]; exact fi_y (by omega) h23)
      · skip
        refine tv_iload_n (pc := 26) 0 C dX7_orderFault_26 rfl rfl ?_
        refine tv_iret (pc := 27) C dX7_orderFault_27 ?_
        refine cast (congrArg (fun y => post (some (tm_i y)) μ) ?_) hpost
        have e := fi_x (n := (μ 4 1).toNat) (by omega) (show ¬ ok_o (μ 5) j = true from fun q => h23 q)
        unfold sp_of
        rw [hfi, e, if_neg (by omega)]; omega
theorem c7_orderFault (E : tm_Ev) (l : Launch) (μ : tm_M) (hs : 0 ≤ μ 4 1 ∧ μ 4 1 ≤ 47) (hby : ∀ j : Nat, (j : Int) < μ 4 1 → 0 ≤ μ 5 j ∧ μ 5 j ≤ 255) : tm_Met E l yX7_orderFault cX7_orderFault 2 (some .int) 2 [.ref (E.2.1 4)] μ (tm_pi (fun z μ' => z = sp_of (μ 5) (μ 4 1).toNat ∧ μ' = μ)) := by
  refine tm_intro [(0, .ref (E.2.1 4))] rfl (by decide +kernel) (Nat.le_of_ble_eq_true rfl) ?_
  intro X hX C
  subst hX
  refine tv_iconst (pc := 0) C dX7_orderFault_0 ?_
  refine tv_istore_n (pc := 1) [(1, tm_i 0), (0, .ref (E.2.1 4))] C dX7_orderFault_1 rfl (by decide) rfl ?_
  refine tv_sub (lv1 := [(1, tm_i 0), (0, .ref (E.2.1 4))]) [0, 1] rfl ?_
  exact l_orderFault C μ hs hby _ ⟨_, rfl, rfl, rfl⟩ 48 0 0 rfl (by omega) (by omega) rfl
def tm_or (μ : tm_M) (f : Nat → Int) (m : Nat) : tm_M := fun a b => if a = 23 then (if b = 4 then (m : Int) else μ a b) else if a = 24 then (if b < m then od_g f b else μ a b) else if a = 25 then (if b < m then od_s f b else μ a b) else if a = 26 then (if b < m then od_d f b else μ a b) else if a = 27 then (if b < m then od_p f b else μ a b) else μ a b
theorem tm_or_0 (μ : tm_M) (f : Nat → Int) : tm_up μ 23 4 0 = tm_or μ f 0 := by
  funext a b
  unfold tm_or tm_up
  by_cases h3 : a = 23
  · simp [h3]
  · simp [h3]
theorem tm_or_o {μ : tm_M} {f : Nat → Int} {m a : Nat} (h : a < 23 ∨ 27 < a) : tm_or μ f m a = μ a := by
  funext b
  unfold tm_or
  rw [if_neg (by omega), if_neg (by omega), if_neg (by omega), if_neg (by omega), if_neg (by omega)]
theorem tm_or_z {μ : tm_M} {f : Nat → Int} {m : Nat} : tm_or μ f m 23 4 = (m : Int) := by simp [tm_or]
theorem tm_or_23 {μ : tm_M} {f : Nat → Int} {m : Nat} (b : Nat) : tm_or μ f m 23 b = if b = 4 then (m : Int) else μ 23 b := by simp [tm_or]
theorem tm_or_24 {μ : tm_M} {f : Nat → Int} {m : Nat} (b : Nat) : tm_or μ f m 24 b = if b < m then od_g f b else μ 24 b := by simp [tm_or]
theorem tm_or_25 {μ : tm_M} {f : Nat → Int} {m : Nat} (b : Nat) : tm_or μ f m 25 b = if b < m then od_s f b else μ 25 b := by simp [tm_or]
theorem tm_or_26 {μ : tm_M} {f : Nat → Int} {m : Nat} (b : Nat) : tm_or μ f m 26 b = if b < m then od_d f b else μ 26 b := by simp [tm_or]
theorem tm_or_27 {μ : tm_M} {f : Nat → Int} {m : Nat} (b : Nat) : tm_or μ f m 27 b = if b < m then od_p f b else μ 27 b := by simp [tm_or]
theorem tm_or_s (μ : tm_M) (f : Nat → Int) (m : Nat) {a b c d e : Int} (ha : a = od_g f m) (hb : b = od_s f m) (hc : c = od_d f m) (hd : d = od_p f m) (he : e = ((m + 1 : Nat) : Int)) : tm_up (tm_up (tm_up (tm_up (tm_up (tm_or μ f m) 24 m a) 25 m b) 26 m c) 27 m d) 23 4 e = tm_or μ f (m + 1) := by
  funext x y
  by_cases ho : x < 23 ∨ 27 < x
  · rw [tm_uk (by omega), tm_uk (by omega), tm_uk (by omega), tm_uk (by omega), tm_uk (by omega), tm_or_o ho, tm_or_o ho]
  · rcases (show x = 23 ∨ x = 24 ∨ x = 25 ∨ x = 26 ∨ x = 27 by omega) with rfl | rfl | rfl | rfl | rfl
    · rw [tm_ua, tm_uk (by decide), tm_uk (by decide), tm_uk (by decide), tm_uk (by decide), tm_or_23, tm_or_23, he]
      by_cases hy : y = 4
      · rw [if_pos hy, if_pos hy]
      · rw [if_neg hy, if_neg hy, if_neg hy]
    · rw [tm_uk (by decide), tm_uk (by decide), tm_uk (by decide), tm_uk (by decide), tm_ua, tm_or_24 (m := m + 1)]
      exact tm_row_s tm_or_24 ha y
    · rw [tm_uk (by decide), tm_uk (by decide), tm_uk (by decide), tm_ua, tm_uk (by decide), tm_or_25 (m := m + 1)]
      exact tm_row_s tm_or_25 hb y
    · rw [tm_uk (by decide), tm_uk (by decide), tm_ua, tm_uk (by decide), tm_uk (by decide), tm_or_26 (m := m + 1)]
      exact tm_row_s tm_or_26 hc y
    · rw [tm_uk (by decide), tm_ua, tm_uk (by decide), tm_uk (by decide), tm_uk (by decide), tm_or_27 (m := m + 1)]
      exact tm_row_s tm_or_27 hd y
set_option maxHeartbeats 4000000 in
theorem l_readFrom {E : tm_Ev} {X : tm_X} (C : tm_C E X yX1_readFrom.cls cX1_readFrom 4 none 3) (μ : tm_M) (hs : 0 ≤ μ 4 1 ∧ μ 4 1 ≤ 47) (hby : ∀ j : Nat, (j : Int) < μ 4 1 → 0 ≤ μ 5 j ∧ μ 5 j ≤ 255) (hof : sp_of (μ 5) (μ 4 1).toNat = -1) (post : Option Value → tm_M → Prop) (hpost : post none (tm_or μ (μ 5) (sp_no (μ 5) (μ 4 1).toNat))) : ∀ (f k : Nat) (x : Int), x = ((6 * k : Nat) : Int) → (6 * k : Int) ≤ μ 4 1 + 1 → 9 - k < f → tm_V E X (tm_Q E X post) 4 16 [(2, tm_i x), (0, .ref (E.2.1 23)), (1, .ref (E.2.1 4))] [] (tm_or μ (μ 5) k) := by
  intro f
  induction f with
  | zero => intro k x hx hj hf; omega
  | succ f ih =>
    intro k x hx hj hf
    have hn5 := (sp_of_none hof).2
    refine tv_iload_n (pc := 16) 0 C dX1_readFrom_16 rfl rfl ?_
    refine tv_bipush (pc := 17) C dX1_readFrom_17 (by decide) ?_
    refine tv_iadd (pc := 19) C dX1_readFrom_19 ?_
    refine tv_iconst (pc := 20) C dX1_readFrom_20 ?_
    refine tv_isub (pc := 21) C dX1_readFrom_21 ?_
    refine tv_aload_n (pc := 22) 2 C dX1_readFrom_22 rfl rfl ?_
    refine tv_geti (pc := 23) (z := μ 4 1) C rfl rfl fl_X1_32 dX1_readFrom_23 (congrFun (tm_or_o (by omega)) _) ?_
    refine tv_icmp_gt (pc := 26) 166 C dX1_readFrom_26 (by decide) (by omega) (by omega) (fun h26 => ?_) (fun h26 => ?_)
    · skip
      refine tv_vret (pc := 166) C dX1_readFrom_166 ?_
      refine cast (congrArg (fun y => post none (tm_or μ (μ 5) y)) ?_) hpost
      unfold sp_no
      rw [if_pos hof]
      omega
    · skip
      have hb0 := hby (6 * k) (by omega)
      refine tv_aload_n (pc := 29) 1 C dX1_readFrom_29 rfl rfl ?_
      refine tv_geti (pc := 30) (z := (k : Int)) C rfl rfl fl_X1_24 dX1_readFrom_30 tm_or_z ?_
      refine tv_bipush (pc := 33) C dX1_readFrom_33 (by decide) ?_
      refine tv_icmp_ge (pc := 35) 166 C dX1_readFrom_35 (by decide) (by omega) (by omega) (fun h35 => ?_) (fun h35 => ?_)
      · skip
        refine tv_vret (pc := 166) C dX1_readFrom_166 ?_
        refine cast (congrArg (fun y => post none (tm_or μ (μ 5) y)) ?_) hpost
        unfold sp_no
        rw [if_pos hof]
        omega
      · skip
        refine tv_aload_n (pc := 38) 2 C dX1_readFrom_38 rfl rfl ?_
        refine tv_getr (pc := 39) (q := 5) C rfl rfl fl_X1_35 dX1_readFrom_39 ?_
        refine tv_iload_n (pc := 42) 0 C dX1_readFrom_42 rfl rfl ?_
        refine tv_iald (pc := 43) (j := (6 * k)) (z := μ 5 (6 * k)) C rfl dX1_readFrom_43 (by omega) (by omega) (congrFun (tm_or_o (by omega)) _) ?_
        refine tv_istore_n (pc := 44) [(3, tm_i (μ 5 (6 * k))), (2, tm_i x), (0, .ref (E.2.1 23)), (1, .ref (E.2.1 4))] C dX1_readFrom_44 rfl (by decide) rfl ?_
        refine tv_aload_n (pc := 45) 2 C dX1_readFrom_45 rfl rfl ?_
        refine tv_getr (pc := 46) (q := 24) C rfl rfl fl_X1_9 dX1_readFrom_46 ?_
        refine tv_aload_n (pc := 49) 2 C dX1_readFrom_49 rfl rfl ?_
        refine tv_geti (pc := 50) (z := (k : Int)) C rfl rfl fl_X1_24 dX1_readFrom_50 tm_or_z ?_
        refine tv_iload_n (pc := 53) 0 C dX1_readFrom_53 rfl rfl ?_
        refine tv_bipush (pc := 54) C dX1_readFrom_54 (by decide) ?_
        refine tv_icmp_ne (pc := 56) 63 C dX1_readFrom_56 (by decide) (by omega) (by omega) (fun h56 => ?_) (fun h56 => ?_)
        · skip
          refine tv_iload_n (pc := 63) 0 C dX1_readFrom_63 rfl rfl ?_
          refine tv_bipush (pc := 64) C dX1_readFrom_64 (by decide) ?_
          refine tv_icmp_ne (pc := 66) 73 C dX1_readFrom_66 (by decide) (by omega) (by omega) (fun h66 => ?_) (fun h66 => ?_)
          · skip
            refine tv_iconst (pc := 73) C dX1_readFrom_73 ?_
            refine tv_top (od_g (μ 5) k) (by unfold od_g; rw [if_neg h56, if_neg h66]) ?_
            refine tv_iast (pc := 74) (j := k) C rfl dX1_readFrom_74 (by omega) (by omega) ?_
            refine tv_aload_n (pc := 75) 2 C dX1_readFrom_75 rfl rfl ?_
            refine tv_getr (pc := 76) (q := 25) C rfl rfl fl_X1_15 dX1_readFrom_76 ?_
            refine tv_aload_n (pc := 79) 2 C dX1_readFrom_79 rfl rfl ?_
            refine tv_geti (pc := 80) (z := (k : Int)) C rfl rfl fl_X1_24 dX1_readFrom_80 ((tm_uk (by decide)).trans (tm_or_z)) ?_
            refine tv_aload_n (pc := 83) 3 C dX1_readFrom_83 rfl rfl ?_
            refine tv_getr (pc := 84) (q := 5) C rfl rfl fl_X1_35 dX1_readFrom_84 ?_
            refine tv_iload_n (pc := 87) 1 C dX1_readFrom_87 rfl rfl ?_
            refine tv_iconst (pc := 88) C dX1_readFrom_88 ?_
            refine tv_iadd (pc := 89) C dX1_readFrom_89 ?_
            refine tv_iald (pc := 90) (j := (6 * k + 1)) (z := μ 5 (6 * k + 1)) C rfl dX1_readFrom_90 (by omega) (by omega) ((tm_uk (by decide)).trans ((congrFun (tm_or_o (by omega)) _))) ?_
            refine tv_bipush (pc := 91) C dX1_readFrom_91 (by decide) ?_
            refine tv_isub (pc := 93) C dX1_readFrom_93 ?_
            refine tv_iast (pc := 94) (j := k) C rfl dX1_readFrom_94 (by omega) (by omega) ?_
            refine tv_aload_n (pc := 95) 2 C dX1_readFrom_95 rfl rfl ?_
            refine tv_getr (pc := 96) (q := 26) C rfl rfl fl_X1_18 dX1_readFrom_96 ?_
            refine tv_aload_n (pc := 99) 2 C dX1_readFrom_99 rfl rfl ?_
            refine tv_geti (pc := 100) (z := (k : Int)) C rfl rfl fl_X1_24 dX1_readFrom_100 ((tm_uk (by decide)).trans ((tm_uk (by decide)).trans (tm_or_z))) ?_
            refine tv_aload_n (pc := 103) 3 C dX1_readFrom_103 rfl rfl ?_
            refine tv_getr (pc := 104) (q := 5) C rfl rfl fl_X1_35 dX1_readFrom_104 ?_
            refine tv_iload_n (pc := 107) 1 C dX1_readFrom_107 rfl rfl ?_
            refine tv_iconst (pc := 108) C dX1_readFrom_108 ?_
            refine tv_iadd (pc := 109) C dX1_readFrom_109 ?_
            refine tv_iald (pc := 110) (j := (6 * k + 2)) (z := μ 5 (6 * k + 2)) C rfl dX1_readFrom_110 (by omega) (by omega) ((tm_uk (by decide)).trans ((tm_uk (by decide)).trans ((congrFun (tm_or_o (by omega)) _)))) ?_
            refine tv_bipush (pc := 111) C dX1_readFrom_111 (by decide) ?_
            refine tv_isub (pc := 113) C dX1_readFrom_113 ?_
            refine tv_bipush (pc := 114) C dX1_readFrom_114 (by decide) ?_
            refine tv_imul (pc := 116) C dX1_readFrom_116 ?_
            refine tv_aload_n (pc := 117) 3 C dX1_readFrom_117 rfl rfl ?_
            refine tv_getr (pc := 118) (q := 5) C rfl rfl fl_X1_35 dX1_readFrom_118 ?_
            refine tv_iload_n (pc := 121) 1 C dX1_readFrom_121 rfl rfl ?_
            refine tv_iconst (pc := 122) C dX1_readFrom_122 ?_
            refine tv_iadd (pc := 123) C dX1_readFrom_123 ?_
            refine tv_iald (pc := 124) (j := (6 * k + 3)) (z := μ 5 (6 * k + 3)) C rfl dX1_readFrom_124 (by omega) (by omega) ((tm_uk (by decide)).trans ((tm_uk (by decide)).trans ((congrFun (tm_or_o (by omega)) _)))) ?_
            refine tv_iadd (pc := 125) C dX1_readFrom_125 ?_
            refine tv_bipush (pc := 126) C dX1_readFrom_126 (by decide) ?_
            refine tv_isub (pc := 128) C dX1_readFrom_128 ?_
            refine tv_iast (pc := 129) (j := k) C rfl dX1_readFrom_129 (by omega) (by omega) ?_
            refine tv_aload_n (pc := 130) 2 C dX1_readFrom_130 rfl rfl ?_
            refine tv_getr (pc := 131) (q := 27) C rfl rfl fl_X1_21 dX1_readFrom_131 ?_
            refine tv_aload_n (pc := 134) 2 C dX1_readFrom_134 rfl rfl ?_
            refine tv_geti (pc := 135) (z := (k : Int)) C rfl rfl fl_X1_24 dX1_readFrom_135 ((tm_uk (by decide)).trans ((tm_uk (by decide)).trans ((tm_uk (by decide)).trans (tm_or_z)))) ?_
            refine tv_aload_n (pc := 138) 3 C dX1_readFrom_138 rfl rfl ?_
            refine tv_getr (pc := 139) (q := 5) C rfl rfl fl_X1_35 dX1_readFrom_139 ?_
            refine tv_iload_n (pc := 142) 1 C dX1_readFrom_142 rfl rfl ?_
            refine tv_iconst (pc := 143) C dX1_readFrom_143 ?_
            refine tv_iadd (pc := 144) C dX1_readFrom_144 ?_
            refine tv_iald (pc := 145) (j := (6 * k + 4)) (z := μ 5 (6 * k + 4)) C rfl dX1_readFrom_145 (by omega) (by omega) ((tm_uk (by decide)).trans ((tm_uk (by decide)).trans ((tm_uk (by decide)).trans ((congrFun (tm_or_o (by omega)) _))))) ?_
            refine tv_bipush (pc := 146) C dX1_readFrom_146 (by decide) ?_
            refine tv_isub (pc := 148) C dX1_readFrom_148 ?_
            refine tv_iast (pc := 149) (j := k) C rfl dX1_readFrom_149 (by omega) (by omega) ?_
            refine tv_aload_n (pc := 150) 2 C dX1_readFrom_150 rfl rfl ?_
            refine tv_dup (pc := 151) C dX1_readFrom_151 rfl ?_
            refine tv_geti (pc := 152) (z := (k : Int)) C rfl rfl fl_X1_24 dX1_readFrom_152 ((tm_uk (by decide)).trans ((tm_uk (by decide)).trans ((tm_uk (by decide)).trans ((tm_uk (by decide)).trans (tm_or_z))))) ?_
            refine tv_iconst (pc := 155) C dX1_readFrom_155 ?_
            refine tv_iadd (pc := 156) C dX1_readFrom_156 ?_
            refine tv_puti (pc := 157) C rfl rfl fp_X1_24 dX1_readFrom_157 ?_
            refine tv_iinc (pc := 160) 1 [(2, tm_i (x + 6)), (3, tm_i (μ 5 (6 * k))), (0, .ref (E.2.1 23)), (1, .ref (E.2.1 4))] C dX1_readFrom_160 rfl (by decide) rfl ?_
            refine tv_goto (pc := 163) 16 C dX1_readFrom_163 (by decide) ?_
            refine tv_sub (lv1 := [(2, tm_i (x + 6)), (0, .ref (E.2.1 23)), (1, .ref (E.2.1 4))]) [0, 2, 3] rfl ?_
            refine tv_mem (tm_or μ (μ 5) (k + 1)) (tm_or_s μ (μ 5) k rfl rfl rfl rfl (by omega)) ?_
            exact ih (k + 1) (x + 6) (by omega) (by omega) (by omega)
          · skip
            refine tv_iconst (pc := 69) C dX1_readFrom_69 ?_
            refine tv_goto (pc := 70) 74 C dX1_readFrom_70 (by decide) ?_
            refine tv_top (od_g (μ 5) k) (by unfold od_g; rw [if_neg h56, if_pos h66]) ?_
            refine tv_iast (pc := 74) (j := k) C rfl dX1_readFrom_74 (by omega) (by omega) ?_
            refine tv_aload_n (pc := 75) 2 C dX1_readFrom_75 rfl rfl ?_
            refine tv_getr (pc := 76) (q := 25) C rfl rfl fl_X1_15 dX1_readFrom_76 ?_
            refine tv_aload_n (pc := 79) 2 C dX1_readFrom_79 rfl rfl ?_
            refine tv_geti (pc := 80) (z := (k : Int)) C rfl rfl fl_X1_24 dX1_readFrom_80 ((tm_uk (by decide)).trans (tm_or_z)) ?_
            refine tv_aload_n (pc := 83) 3 C dX1_readFrom_83 rfl rfl ?_
            refine tv_getr (pc := 84) (q := 5) C rfl rfl fl_X1_35 dX1_readFrom_84 ?_
            refine tv_iload_n (pc := 87) 1 C dX1_readFrom_87 rfl rfl ?_
            refine tv_iconst (pc := 88) C dX1_readFrom_88 ?_
            refine tv_iadd (pc := 89) C dX1_readFrom_89 ?_
            refine tv_iald (pc := 90) (j := (6 * k + 1)) (z := μ 5 (6 * k + 1)) C rfl dX1_readFrom_90 (by omega) (by omega) ((tm_uk (by decide)).trans ((congrFun (tm_or_o (by omega)) _))) ?_
            refine tv_bipush (pc := 91) C dX1_readFrom_91 (by decide) ?_
            refine tv_isub (pc := 93) C dX1_readFrom_93 ?_
            refine tv_iast (pc := 94) (j := k) C rfl dX1_readFrom_94 (by omega) (by omega) ?_
            refine tv_aload_n (pc := 95) 2 C dX1_readFrom_95 rfl rfl ?_
            refine tv_getr (pc := 96) (q := 26) C rfl rfl fl_X1_18 dX1_readFrom_96 ?_
            refine tv_aload_n (pc := 99) 2 C dX1_readFrom_99 rfl rfl ?_
            refine tv_geti (pc := 100) (z := (k : Int)) C rfl rfl fl_X1_24 dX1_readFrom_100 ((tm_uk (by decide)).trans ((tm_uk (by decide)).trans (tm_or_z))) ?_
            refine tv_aload_n (pc := 103) 3 C dX1_readFrom_103 rfl rfl ?_
            refine tv_getr (pc := 104) (q := 5) C rfl rfl fl_X1_35 dX1_readFrom_104 ?_
            refine tv_iload_n (pc := 107) 1 C dX1_readFrom_107 rfl rfl ?_
            refine tv_iconst (pc := 108) C dX1_readFrom_108 ?_
            refine tv_iadd (pc := 109) C dX1_readFrom_109 ?_
            refine tv_iald (pc := 110) (j := (6 * k + 2)) (z := μ 5 (6 * k + 2)) C rfl dX1_readFrom_110 (by omega) (by omega) ((tm_uk (by decide)).trans ((tm_uk (by decide)).trans ((congrFun (tm_or_o (by omega)) _)))) ?_
            refine tv_bipush (pc := 111) C dX1_readFrom_111 (by decide) ?_
            refine tv_isub (pc := 113) C dX1_readFrom_113 ?_
            refine tv_bipush (pc := 114) C dX1_readFrom_114 (by decide) ?_
            refine tv_imul (pc := 116) C dX1_readFrom_116 ?_
            refine tv_aload_n (pc := 117) 3 C dX1_readFrom_117 rfl rfl ?_
            refine tv_getr (pc := 118) (q := 5) C rfl rfl fl_X1_35 dX1_readFrom_118 ?_
            refine tv_iload_n (pc := 121) 1 C dX1_readFrom_121 rfl rfl ?_
            refine tv_iconst (pc := 122) C dX1_readFrom_122 ?_
            refine tv_iadd (pc := 123) C dX1_readFrom_123 ?_
            refine tv_iald (pc := 124) (j := (6 * k + 3)) (z := μ 5 (6 * k + 3)) C rfl dX1_readFrom_124 (by omega) (by omega) ((tm_uk (by decide)).trans ((tm_uk (by decide)).trans ((congrFun (tm_or_o (by omega)) _)))) ?_
            refine tv_iadd (pc := 125) C dX1_readFrom_125 ?_
            refine tv_bipush (pc := 126) C dX1_readFrom_126 (by decide) ?_
            refine tv_isub (pc := 128) C dX1_readFrom_128 ?_
            refine tv_iast (pc := 129) (j := k) C rfl dX1_readFrom_129 (by omega) (by omega) ?_
            refine tv_aload_n (pc := 130) 2 C dX1_readFrom_130 rfl rfl ?_
            refine tv_getr (pc := 131) (q := 27) C rfl rfl fl_X1_21 dX1_readFrom_131 ?_
            refine tv_aload_n (pc := 134) 2 C dX1_readFrom_134 rfl rfl ?_
            refine tv_geti (pc := 135) (z := (k : Int)) C rfl rfl fl_X1_24 dX1_readFrom_135 ((tm_uk (by decide)).trans ((tm_uk (by decide)).trans ((tm_uk (by decide)).trans (tm_or_z)))) ?_
            refine tv_aload_n (pc := 138) 3 C dX1_readFrom_138 rfl rfl ?_
            refine tv_getr (pc := 139) (q := 5) C rfl rfl fl_X1_35 dX1_readFrom_139 ?_
            refine tv_iload_n (pc := 142) 1 C dX1_readFrom_142 rfl rfl ?_
            refine tv_iconst (pc := 143) C dX1_readFrom_143 ?_
            refine tv_iadd (pc := 144) C dX1_readFrom_144 ?_
            refine tv_iald (pc := 145) (j := (6 * k + 4)) (z := μ 5 (6 * k + 4)) C rfl dX1_readFrom_145 (by omega) (by omega) ((tm_uk (by decide)).trans ((tm_uk (by decide)).trans ((tm_uk (by decide)).trans ((congrFun (tm_or_o (by omega)) _))))) ?_
            refine tv_bipush (pc := 146) C dX1_readFrom_146 (by decide) ?_
            refine tv_isub (pc := 148) C dX1_readFrom_148 ?_
            refine tv_iast (pc := 149) (j := k) C rfl dX1_readFrom_149 (by omega) (by omega) ?_
            refine tv_aload_n (pc := 150) 2 C dX1_readFrom_150 rfl rfl ?_
            refine tv_dup (pc := 151) C dX1_readFrom_151 rfl ?_
            refine tv_geti (pc := 152) (z := (k : Int)) C rfl rfl fl_X1_24 dX1_readFrom_152 ((tm_uk (by decide)).trans ((tm_uk (by decide)).trans ((tm_uk (by decide)).trans ((tm_uk (by decide)).trans (tm_or_z))))) ?_
            refine tv_iconst (pc := 155) C dX1_readFrom_155 ?_
            refine tv_iadd (pc := 156) C dX1_readFrom_156 ?_
            refine tv_puti (pc := 157) C rfl rfl fp_X1_24 dX1_readFrom_157 ?_
            refine tv_iinc (pc := 160) 1 [(2, tm_i (x + 6)), (3, tm_i (μ 5 (6 * k))), (0, .ref (E.2.1 23)), (1, .ref (E.2.1 4))] C dX1_readFrom_160 rfl (by decide) rfl ?_
            refine tv_goto (pc := 163) 16 C dX1_readFrom_163 (by decide) ?_
            refine tv_sub (lv1 := [(2, tm_i (x + 6)), (0, .ref (E.2.1 23)), (1, .ref (E.2.1 4))]) [0, 2, 3] rfl ?_
            refine tv_mem (tm_or μ (μ 5) (k + 1)) (tm_or_s μ (μ 5) k rfl rfl rfl rfl (by omega)) ?_
            exact ih (k + 1) (x + 6) (by omega) (by omega) (by omega)
        · skip
          refine tv_iconst (pc := 59) C dX1_readFrom_59 ?_
          refine tv_goto (pc := 60) 74 C dX1_readFrom_60 (by decide) ?_
          refine tv_top (od_g (μ 5) k) (by unfold od_g; rw [if_pos h56]) ?_
          refine tv_iast (pc := 74) (j := k) C rfl dX1_readFrom_74 (by omega) (by omega) ?_
          refine tv_aload_n (pc := 75) 2 C dX1_readFrom_75 rfl rfl ?_
          refine tv_getr (pc := 76) (q := 25) C rfl rfl fl_X1_15 dX1_readFrom_76 ?_
          refine tv_aload_n (pc := 79) 2 C dX1_readFrom_79 rfl rfl ?_
          refine tv_geti (pc := 80) (z := (k : Int)) C rfl rfl fl_X1_24 dX1_readFrom_80 ((tm_uk (by decide)).trans (tm_or_z)) ?_
          refine tv_aload_n (pc := 83) 3 C dX1_readFrom_83 rfl rfl ?_
          refine tv_getr (pc := 84) (q := 5) C rfl rfl fl_X1_35 dX1_readFrom_84 ?_
          refine tv_iload_n (pc := 87) 1 C dX1_readFrom_87 rfl rfl ?_
          refine tv_iconst (pc := 88) C dX1_readFrom_88 ?_
          refine tv_iadd (pc := 89) C dX1_readFrom_89 ?_
          refine tv_iald (pc := 90) (j := (6 * k + 1)) (z := μ 5 (6 * k + 1)) C rfl dX1_readFrom_90 (by omega) (by omega) ((tm_uk (by decide)).trans ((congrFun (tm_or_o (by omega)) _))) ?_
          refine tv_bipush (pc := 91) C dX1_readFrom_91 (by decide) ?_
          refine tv_isub (pc := 93) C dX1_readFrom_93 ?_
          refine tv_iast (pc := 94) (j := k) C rfl dX1_readFrom_94 (by omega) (by omega) ?_
          refine tv_aload_n (pc := 95) 2 C dX1_readFrom_95 rfl rfl ?_
          refine tv_getr (pc := 96) (q := 26) C rfl rfl fl_X1_18 dX1_readFrom_96 ?_
          refine tv_aload_n (pc := 99) 2 C dX1_readFrom_99 rfl rfl ?_
          refine tv_geti (pc := 100) (z := (k : Int)) C rfl rfl fl_X1_24 dX1_readFrom_100 ((tm_uk (by decide)).trans ((tm_uk (by decide)).trans (tm_or_z))) ?_
          refine tv_aload_n (pc := 103) 3 C dX1_readFrom_103 rfl rfl ?_
          refine tv_getr (pc := 104) (q := 5) C rfl rfl fl_X1_35 dX1_readFrom_104 ?_
          refine tv_iload_n (pc := 107) 1 C dX1_readFrom_107 rfl rfl ?_
          refine tv_iconst (pc := 108) C dX1_readFrom_108 ?_
          refine tv_iadd (pc := 109) C dX1_readFrom_109 ?_
          refine tv_iald (pc := 110) (j := (6 * k + 2)) (z := μ 5 (6 * k + 2)) C rfl dX1_readFrom_110 (by omega) (by omega) ((tm_uk (by decide)).trans ((tm_uk (by decide)).trans ((congrFun (tm_or_o (by omega)) _)))) ?_
          refine tv_bipush (pc := 111) C dX1_readFrom_111 (by decide) ?_
          refine tv_isub (pc := 113) C dX1_readFrom_113 ?_
          refine tv_bipush (pc := 114) C dX1_readFrom_114 (by decide) ?_
          refine tv_imul (pc := 116) C dX1_readFrom_116 ?_
          refine tv_aload_n (pc := 117) 3 C dX1_readFrom_117 rfl rfl ?_
          refine tv_getr (pc := 118) (q := 5) C rfl rfl fl_X1_35 dX1_readFrom_118 ?_
          refine tv_iload_n (pc := 121) 1 C dX1_readFrom_121 rfl rfl ?_
          refine tv_iconst (pc := 122) C dX1_readFrom_122 ?_
          refine tv_iadd (pc := 123) C dX1_readFrom_123 ?_
          refine tv_iald (pc := 124) (j := (6 * k + 3)) (z := μ 5 (6 * k + 3)) C rfl dX1_readFrom_124 (by omega) (by omega) ((tm_uk (by decide)).trans ((tm_uk (by decide)).trans ((congrFun (tm_or_o (by omega)) _)))) ?_
          refine tv_iadd (pc := 125) C dX1_readFrom_125 ?_
          refine tv_bipush (pc := 126) C dX1_readFrom_126 (by decide) ?_
          refine tv_isub (pc := 128) C dX1_readFrom_128 ?_
          refine tv_iast (pc := 129) (j := k) C rfl dX1_readFrom_129 (by omega) (by omega) ?_
          refine tv_aload_n (pc := 130) 2 C dX1_readFrom_130 rfl rfl ?_
          refine tv_getr (pc := 131) (q := 27) C rfl rfl fl_X1_21 dX1_readFrom_131 ?_
          refine tv_aload_n (pc := 134) 2 C dX1_readFrom_134 rfl rfl ?_
          refine tv_geti (pc := 135) (z := (k : Int)) C rfl rfl fl_X1_24 dX1_readFrom_135 ((tm_uk (by decide)).trans ((tm_uk (by decide)).trans ((tm_uk (by decide)).trans (tm_or_z)))) ?_
          refine tv_aload_n (pc := 138) 3 C dX1_readFrom_138 rfl rfl ?_
          refine tv_getr (pc := 139) (q := 5) C rfl rfl fl_X1_35 dX1_readFrom_139 ?_
          refine tv_iload_n (pc := 142) 1 C dX1_readFrom_142 rfl rfl ?_
          refine tv_iconst (pc := 143) C dX1_readFrom_143 ?_
          refine tv_iadd (pc := 144) C dX1_readFrom_144 ?_
          refine tv_iald (pc := 145) (j := (6 * k + 4)) (z := μ 5 (6 * k + 4)) C rfl dX1_readFrom_145 (by omega) (by omega) ((tm_uk (by decide)).trans ((tm_uk (by decide)).trans ((tm_uk (by decide)).trans ((congrFun (tm_or_o (by omega)) _))))) ?_
          refine tv_bipush (pc := 146) C dX1_readFrom_146 (by decide) ?_
          refine tv_isub (pc := 148) C dX1_readFrom_148 ?_
          refine tv_iast (pc := 149) (j := k) C rfl dX1_readFrom_149 (by omega) (by omega) ?_
          refine tv_aload_n (pc := 150) 2 C dX1_readFrom_150 rfl rfl ?_
          refine tv_dup (pc := 151) C dX1_readFrom_151 rfl ?_
          refine tv_geti (pc := 152) (z := (k : Int)) C rfl rfl fl_X1_24 dX1_readFrom_152 ((tm_uk (by decide)).trans ((tm_uk (by decide)).trans ((tm_uk (by decide)).trans ((tm_uk (by decide)).trans (tm_or_z))))) ?_
          refine tv_iconst (pc := 155) C dX1_readFrom_155 ?_
          refine tv_iadd (pc := 156) C dX1_readFrom_156 ?_
          refine tv_puti (pc := 157) C rfl rfl fp_X1_24 dX1_readFrom_157 ?_
          refine tv_iinc (pc := 160) 1 [(2, tm_i (x + 6)), (3, tm_i (μ 5 (6 * k))), (0, .ref (E.2.1 23)), (1, .ref (E.2.1 4))] C dX1_readFrom_160 rfl (by decide) rfl ?_
          refine tv_goto (pc := 163) 16 C dX1_readFrom_163 (by decide) ?_
          refine tv_sub (lv1 := [(2, tm_i (x + 6)), (0, .ref (E.2.1 23)), (1, .ref (E.2.1 4))]) [0, 2, 3] rfl ?_
          refine tv_mem (tm_or μ (μ 5) (k + 1)) (tm_or_s μ (μ 5) k rfl rfl rfl rfl (by omega)) ?_
          exact ih (k + 1) (x + 6) (by omega) (by omega) (by omega)
theorem c1_readFrom (E : tm_Ev) (l : Launch) (μ : tm_M) (hs : 0 ≤ μ 4 1 ∧ μ 4 1 ≤ 47) (hby : ∀ j : Nat, (j : Int) < μ 4 1 → 0 ≤ μ 5 j ∧ μ 5 j ≤ 255) : tm_Met E l yX1_readFrom cX1_readFrom 4 none 3 [.ref (E.2.1 23), .ref (E.2.1 4)] μ (tm_pv (fun μ' => μ' = tm_or μ (μ 5) (sp_no (μ 5) (μ 4 1).toNat))) := by
  refine tm_intro [(0, .ref (E.2.1 23)), (1, .ref (E.2.1 4))] rfl (by decide +kernel) (Nat.le_of_ble_eq_true rfl) ?_
  intro X hX C
  subst hX
  refine tv_aload_n (pc := 0) 0 C dX1_readFrom_0 rfl rfl ?_
  refine tv_iconst (pc := 1) C dX1_readFrom_1 ?_
  refine tv_puti (pc := 2) C rfl rfl fp_X1_24 dX1_readFrom_2 ?_
  refine tv_aload_n (pc := 5) 1 C dX1_readFrom_5 rfl rfl ?_
  refine tv_callN (pc := 6) [.ref (E.2.1 4)] [] C (c7_orderFault E _ (tm_up μ 23 4 0) (by rw [show (tm_up μ 23 4 0) 4 1 = μ 4 1 from tm_uk (by decide)]; exact hs) (fun j hj => by rw [show (tm_up μ 23 4 0) 4 1 = μ 4 1 from tm_uk (by decide)] at hj; rw [show (tm_up μ 23 4 0) 5 j = μ 5 j from tm_uk (by decide)]; exact hby j hj)) cn_X1_28 (by decide) rfl (Nat.le_of_ble_eq_true rfl) rfl dX1_readFrom_6 (tm_ki ?_)
  rintro zf _ ⟨hzf, rfl⟩
  rw [show (tm_up μ 23 4 0) 5 = μ 5 from tm_uf (by decide), show (tm_up μ 23 4 0) 4 1 = μ 4 1 from tm_uk (by decide)] at hzf
  have hzr : -1 ≤ zf ∧ zf ≤ 47 := by rw [hzf]; exact sp_of_bd (by omega)
  refine tv_iconst (pc := 9) C dX1_readFrom_9 ?_
  refine tv_icmp_eq (pc := 10) 14 C dX1_readFrom_10 (by decide) (by omega) (by omega) (fun h10 => ?_) (fun h10 => ?_)
  · skip
    refine tv_iconst (pc := 14) C dX1_readFrom_14 ?_
    refine tv_istore_n (pc := 15) [(2, tm_i 0), (0, .ref (E.2.1 23)), (1, .ref (E.2.1 4))] C dX1_readFrom_15 rfl (by decide) rfl ?_
    refine tv_sub (lv1 := [(2, tm_i 0), (0, .ref (E.2.1 23)), (1, .ref (E.2.1 4))]) [0, 1, 2] rfl ?_
    refine tv_mem _ (tm_or_0 μ (μ 5)) ?_
    exact l_readFrom C μ hs hby (by omega) _ ⟨rfl, rfl⟩ 10 0 0 rfl (by omega) (by omega)
  · skip
    refine tv_vret (pc := 13) C dX1_readFrom_13 ?_
    refine ⟨rfl, ?_⟩
    rw [tm_or_0 μ (μ 5)]
    congr 1
    unfold sp_no
    rw [if_neg (by omega)]
