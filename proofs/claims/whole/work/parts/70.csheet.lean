theorem c6_begin (E : tm_Ev) (l : Launch) (μ : tm_M) (k k1 : Nat) (hk : tm_tm[k]? = some (0, 6, [some k1, none, none])) (hk1 : tm_tm[k1]? = some (1, 60, [])) (f n : Int) : tm_Met E l yX6_begin cX6_begin 3 none 1 [.ref (E.2.1 k), tm_i f, tm_i n] μ (tm_pv (fun μ' => μ' = tm_fill (tm_up (tm_up μ k 1 f) k 2 n) k1 60 0)) := by
  refine tm_intro [(0, .ref (E.2.1 k)), (1, tm_i f), (2, tm_i n)] rfl (by decide +kernel) (Nat.le_of_ble_eq_true rfl) ?_
  intro X hX C
  subst hX
  refine tv_aload_n (pc := 0) 0 C dX6_begin_0 rfl rfl ?_
  refine tv_iload_n (pc := 1) 1 C dX6_begin_1 rfl rfl ?_
  refine tv_puti (pc := 2) C hk rfl fp_X6_15 dX6_begin_2 ?_
  refine tv_aload_n (pc := 5) 0 C dX6_begin_5 rfl rfl ?_
  refine tv_iload_n (pc := 6) 2 C dX6_begin_6 rfl rfl ?_
  refine tv_puti (pc := 7) C hk rfl fp_X6_19 dX6_begin_7 ?_
  refine tv_aload_n (pc := 10) 0 C dX6_begin_10 rfl rfl ?_
  refine tv_getr (pc := 11) (q := k1) C hk rfl fl_X6_9 dX6_begin_11 ?_
  refine tv_iconst (pc := 14) C dX6_begin_14 ?_
  refine tv_callS (pc := 15) [.ref (E.2.1 k1), tm_i 0] [] C (cJ_fill E _ (tm_up (tm_up μ k 1 f) k 2 n) k1 60 0 hk1) cs_X6_22 (by decide) rfl (Nat.le_of_ble_eq_true rfl) rfl dX6_begin_15 (tm_kv ?_)
  rintro _ rfl
  refine tv_vret (pc := 18) C dX6_begin_18 ?_
  exact ⟨rfl, rfl⟩
theorem c6_isLost (E : tm_Ev) (l : Launch) (μ : tm_M) (k k1 : Nat) (hk : tm_tm[k]? = some (0, 6, [some k1, none, none])) (hk1 : tm_tm[k1]? = some (1, 60, [])) (hf : -1 ≤ μ k 1 ∧ μ k 1 ≤ 2) : tm_Met E l yX6_isLost cX6_isLost 1 (some .boolean) 0 [.ref (E.2.1 k)] μ (tm_pi (fun z μ' => z = (if μ k 1 = -1 then 1 else 0) ∧ μ' = μ)) := by
  refine tm_intro [(0, .ref (E.2.1 k))] rfl (by decide +kernel) (Nat.le_of_ble_eq_true rfl) ?_
  intro X hX C
  subst hX
  refine tv_aload_n (pc := 0) 0 C dX6_isLost_0 rfl rfl ?_
  refine tv_geti (pc := 1) (z := μ k 1) C hk rfl fl_X6_15 dX6_isLost_1 rfl ?_
  refine tv_iconst (pc := 4) C dX6_isLost_4 ?_
  refine tv_icmp_ne (pc := 5) 12 C dX6_isLost_5 (by decide) (by omega) (by omega) (fun h5 => ?_) (fun h5 => ?_)
  · skip
    refine tv_iconst (pc := 12) C dX6_isLost_12 ?_
    refine tv_zret (pc := 13) C dX6_isLost_13 (by omega) ?_
    exact ⟨_, rfl, by split <;> omega, rfl⟩
  · skip
    refine tv_iconst (pc := 8) C dX6_isLost_8 ?_
    refine tv_goto (pc := 9) 13 C dX6_isLost_9 (by decide) ?_
    refine tv_zret (pc := 13) C dX6_isLost_13 (by omega) ?_
    exact ⟨_, rfl, by split <;> omega, rfl⟩
theorem c6_holds (E : tm_Ev) (l : Launch) (μ : tm_M) (k k1 : Nat) (hk : tm_tm[k]? = some (0, 6, [some k1, none, none])) (hk1 : tm_tm[k1]? = some (1, 60, [])) (hf : 0 ≤ μ k 2 ∧ μ k 2 ≤ 60) (x n : Int) (hx : -2147483648 ≤ x ∧ x ≤ 2147483647) (hn : -2147483648 ≤ n ∧ n ≤ 2147483647) : tm_Met E l yX6_holds cX6_holds 3 (some .boolean) 0 [.ref (E.2.1 k), tm_i x, tm_i n] μ (tm_pi (fun z μ' => z = (if 0 ≤ x ∧ 0 ≤ n ∧ x + n ≤ μ k 2 then 1 else 0) ∧ μ' = μ)) := by
  refine tm_intro [(0, .ref (E.2.1 k)), (1, tm_i x), (2, tm_i n)] rfl (by decide +kernel) (Nat.le_of_ble_eq_true rfl) ?_
  intro X hX C
  subst hX
  refine tv_iload_n (pc := 0) 1 C dX6_holds_0 rfl rfl ?_
  refine tv_if_lt (pc := 1) 22 C dX6_holds_1 (by decide) (by omega) (fun h1 => ?_) (fun h1 => ?_)
  · skip
    refine tv_iconst (pc := 22) C dX6_holds_22 ?_
    refine tv_zret (pc := 23) C dX6_holds_23 (by omega) ?_
    exact ⟨_, rfl, by split <;> omega, rfl⟩
  · skip
    refine tv_iload_n (pc := 4) 2 C dX6_holds_4 rfl rfl ?_
    refine tv_if_lt (pc := 5) 22 C dX6_holds_5 (by decide) (by omega) (fun h5 => ?_) (fun h5 => ?_)
    · skip
      refine tv_iconst (pc := 22) C dX6_holds_22 ?_
      refine tv_zret (pc := 23) C dX6_holds_23 (by omega) ?_
      exact ⟨_, rfl, by split <;> omega, rfl⟩
    · skip
      refine tv_iload_n (pc := 8) 2 C dX6_holds_8 rfl rfl ?_
      refine tv_aload_n (pc := 9) 0 C dX6_holds_9 rfl rfl ?_
      refine tv_geti (pc := 10) (z := μ k 2) C hk rfl fl_X6_19 dX6_holds_10 rfl ?_
      refine tv_iload_n (pc := 13) 1 C dX6_holds_13 rfl rfl ?_
      refine tv_isub (pc := 14) C dX6_holds_14 ?_
      refine tv_icmp_gt (pc := 15) 22 C dX6_holds_15 (by decide) (by omega) (by omega) (fun h15 => ?_) (fun h15 => ?_)
      · skip
        refine tv_iconst (pc := 22) C dX6_holds_22 ?_
        refine tv_zret (pc := 23) C dX6_holds_23 (by omega) ?_
        exact ⟨_, rfl, by split <;> omega, rfl⟩
      · skip
        refine tv_iconst (pc := 18) C dX6_holds_18 ?_
        refine tv_goto (pc := 19) 23 C dX6_holds_19 (by decide) ?_
        refine tv_zret (pc := 23) C dX6_holds_23 (by omega) ?_
        exact ⟨_, rfl, by split <;> omega, rfl⟩
theorem c6_wrongWith (E : tm_Ev) (l : Launch) (μ : tm_M) (k k1 : Nat) (hk : tm_tm[k]? = some (0, 6, [some k1, none, none])) (hk1 : tm_tm[k1]? = some (1, 60, [])) (hf : -1 ≤ μ k 1 ∧ μ k 1 ≤ 2) (hz : ¬ μ k 1 = -1 → 0 ≤ μ k 2 ∧ μ k 2 ≤ 60) (f x : Int) (hf : -2147483648 ≤ f ∧ f ≤ 2147483647) (hx : -2147483648 ≤ x ∧ x ≤ 2147483647) : tm_Met E l yX6_wrongWith cX6_wrongWith 3 (some .int) 1 [.ref (E.2.1 k), tm_i f, tm_i x] μ (tm_pi (fun z μ' => z = (if μ k 1 = -1 then 1 else if μ k 1 = f then (if 0 ≤ x ∧ x < μ k 2 then 0 else 2) else 3) ∧ μ' = μ)) := by
  refine tm_intro [(0, .ref (E.2.1 k)), (1, tm_i f), (2, tm_i x)] rfl (by decide +kernel) (Nat.le_of_ble_eq_true rfl) ?_
  intro X hX C
  subst hX
  refine tv_aload_n (pc := 0) 0 C dX6_wrongWith_0 rfl rfl ?_
  refine tv_callV (pc := 1) [] [] C (c6_isLost E _ μ k k1 hk hk1 (by omega)) cv_X6_28 hk rfl (by decide) rfl (Nat.le_of_ble_eq_true rfl) rfl dX6_wrongWith_1 (tm_kp ?_)
  refine tv_ifeqB (pc := 4) 9 C dX6_wrongWith_4 (by decide) (fun h4 => ?_) (fun h4 => ?_)
  · skip
    refine tv_aload_n (pc := 9) 0 C dX6_wrongWith_9 rfl rfl ?_
    refine tv_geti (pc := 10) (z := μ k 1) C hk rfl fl_X6_15 dX6_wrongWith_10 rfl ?_
    refine tv_iload_n (pc := 13) 1 C dX6_wrongWith_13 rfl rfl ?_
    refine tv_icmp_eq (pc := 14) 19 C dX6_wrongWith_14 (by decide) (by omega) (by omega) (fun h14 => ?_) (fun h14 => ?_)
    · skip
      refine tv_aload_n (pc := 19) 0 C dX6_wrongWith_19 rfl rfl ?_
      refine tv_iload_n (pc := 20) 2 C dX6_wrongWith_20 rfl rfl ?_
      refine tv_iconst (pc := 21) C dX6_wrongWith_21 ?_
      refine tv_callV (pc := 22) [tm_i x, tm_i 1] [] C (c6_holds E _ μ k k1 hk hk1 (by omega) x 1 (by omega) (by omega)) cv_X6_32 hk rfl (by decide) rfl (Nat.le_of_ble_eq_true rfl) rfl dX6_wrongWith_22 (tm_kp ?_)
      refine tv_ifeqB (pc := 25) 32 C dX6_wrongWith_25 (by decide) (fun h25 => ?_) (fun h25 => ?_)
      · skip
        refine tv_iconst (pc := 32) C dX6_wrongWith_32 ?_
        refine tv_iret (pc := 33) C dX6_wrongWith_33 ?_
        exact ⟨_, rfl, by rw [if_neg (by omega), if_pos (by omega), if_neg (by omega)], rfl⟩
      · skip
        refine tv_iconst (pc := 28) C dX6_wrongWith_28 ?_
        refine tv_goto (pc := 29) 33 C dX6_wrongWith_29 (by decide) ?_
        refine tv_iret (pc := 33) C dX6_wrongWith_33 ?_
        exact ⟨_, rfl, by rw [if_neg (by omega), if_pos (by omega), if_pos (by omega)], rfl⟩
    · skip
      refine tv_iconst (pc := 17) C dX6_wrongWith_17 ?_
      refine tv_iret (pc := 18) C dX6_wrongWith_18 ?_
      exact ⟨_, rfl, by rw [if_neg (by omega), if_neg (by omega)], rfl⟩
  · skip
    refine tv_iconst (pc := 7) C dX6_wrongWith_7 ?_
    refine tv_iret (pc := 8) C dX6_wrongWith_8 ?_
    exact ⟨_, rfl, by rw [if_pos (by omega)], rfl⟩
theorem c6_store (E : tm_Ev) (l : Launch) (μ : tm_M) (k k1 : Nat) (hk : tm_tm[k]? = some (0, 6, [some k1, none, none])) (hk1 : tm_tm[k1]? = some (1, 60, [])) (f : Int) (hf : μ k 1 = f) (hfr : -1 ≤ f ∧ f ≤ 2) (x v : Int) (hx : 0 ≤ x ∧ x ≤ 59) : tm_Met E l yX6_store cX6_store 3 none 0 [.ref (E.2.1 k), tm_i x, tm_i v] μ (tm_pv (fun μ' => μ' = tm_up μ k1 x.toNat (st_v f v))) := by
  refine tm_intro [(0, .ref (E.2.1 k)), (1, tm_i x), (2, tm_i v)] rfl (by decide +kernel) (Nat.le_of_ble_eq_true rfl) ?_
  intro X hX C
  subst hX
  refine tv_aload_n (pc := 0) 0 C dX6_store_0 rfl rfl ?_
  refine tv_getr (pc := 1) (q := k1) C hk rfl fl_X6_9 dX6_store_1 ?_
  refine tv_iload_n (pc := 4) 1 C dX6_store_4 rfl rfl ?_
  refine tv_aload_n (pc := 5) 0 C dX6_store_5 rfl rfl ?_
  refine tv_geti (pc := 6) (z := f) C hk rfl fl_X6_15 dX6_store_6 hf ?_
  refine tv_if_ne (pc := 9) 17 C dX6_store_9 (by decide) (by omega) (fun h9 => ?_) (fun h9 => ?_)
  · skip
    refine tv_aload_n (pc := 17) 0 C dX6_store_17 rfl rfl ?_
    refine tv_geti (pc := 18) (z := f) C hk rfl fl_X6_15 dX6_store_18 hf ?_
    refine tv_iconst (pc := 21) C dX6_store_21 ?_
    refine tv_icmp_ne (pc := 22) 30 C dX6_store_22 (by decide) (by omega) (by omega) (fun h22 => ?_) (fun h22 => ?_)
    · skip
      refine tv_iload_n (pc := 30) 2 C dX6_store_30 rfl rfl ?_
      refine tv_iast (pc := 31) (j := x.toNat) C hk1 dX6_store_31 (by omega) rfl ?_
      refine tv_vret (pc := 32) C dX6_store_32 ?_
      exact ⟨rfl, by unfold st_v; rw [if_neg (by omega), if_neg (by omega)]⟩
    · skip
      refine tv_iload_n (pc := 25) 2 C dX6_store_25 rfl rfl ?_
      refine tv_i2s (pc := 26) (z := (Int32.ofInt v).toInt16.toInt32.toInt) C dX6_store_26 (Int32.ofInt_toInt _).symm ?_
      refine tv_goto (pc := 27) 31 C dX6_store_27 (by decide) ?_
      refine tv_iast (pc := 31) (j := x.toNat) C hk1 dX6_store_31 (by omega) rfl ?_
      refine tv_vret (pc := 32) C dX6_store_32 ?_
      exact ⟨rfl, by unfold st_v; rw [if_neg (by omega), if_pos (by omega)]⟩
  · skip
    refine tv_iload_n (pc := 12) 2 C dX6_store_12 rfl rfl ?_
    refine tv_i2b (pc := 13) (z := (Int32.ofInt v).toInt8.toInt32.toInt) C dX6_store_13 (Int32.ofInt_toInt _).symm ?_
    refine tv_goto (pc := 14) 31 C dX6_store_14 (by decide) ?_
    refine tv_iast (pc := 31) (j := x.toNat) C hk1 dX6_store_31 (by omega) rfl ?_
    refine tv_vret (pc := 32) C dX6_store_32 ?_
    exact ⟨rfl, by unfold st_v; rw [if_pos (by omega)]⟩
theorem k7_seen (E : tm_Ev) (l : Launch) (μ : tm_M) (d s : tm_M) (hd : dd_ok d) (hs : ss_ok s) (hI : cl_I μ d s) (h v : Int) (hh : -2147483648 ≤ h ∧ h ≤ 2147483647) (hv : -2147483648 ≤ v ∧ v ≤ 2147483647) : tm_Met E l yX7_seen cX7_seen 3 (some .int) 2 [.ref (E.2.1 0), tm_i h, tm_i v] μ (tm_pi (fun z μ' => z = sn_z s h v ∧ cl_I μ' d (sn_s s h v) ∧ ∀ a, 74 ≤ a → μ' a = μ a)) := by
  refine tm_intro [(0, .ref (E.2.1 0)), (1, tm_i h), (2, tm_i v)] rfl (by decide +kernel) (Nat.le_of_ble_eq_true rfl) ?_
  intro X hX C
  subst hX
  have z10 := hI.2.1.1
  have z12 := hI.2.1.2.1
  have z0 := hs.1
  refine tv_iload_n (pc := 0) 1 C dX7_seen_0 rfl rfl ?_
  refine tv_callS (pc := 1) [tm_i h] [] C (c7_isHour E _ μ h (by omega)) cs_X7_121 (by decide) rfl (Nat.le_of_ble_eq_true rfl) rfl dX7_seen_1 (tm_kp ?_)
  refine tv_ifeqB (pc := 4) 17 C dX7_seen_4 (by decide) (fun h4 => ?_) (fun h4 => ?_)
  · skip
    refine tv_bipush (pc := 17) C dX7_seen_17 (by decide) ?_
    refine tv_iret (pc := 19) C dX7_seen_19 ?_
    exact ⟨_, rfl, by unfold sn_z; rw [if_neg (by omega)], by unfold sn_s; rw [if_neg (by omega)]; exact hI, fun a _ => rfl⟩
  · skip
    refine tv_iload_n (pc := 7) 2 C dX7_seen_7 rfl rfl ?_
    refine tv_iconst (pc := 8) C dX7_seen_8 ?_
    refine tv_bipush (pc := 9) C dX7_seen_9 (by decide) ?_
    refine tv_callS (pc := 11) [tm_i v, tm_i 0, tm_i 20] [] C (c7_within E _ μ v 0 20 (by omega) (by omega) (by omega)) cs_X7_97 (by decide) rfl (Nat.le_of_ble_eq_true rfl) rfl dX7_seen_11 (tm_kp ?_)
    refine tv_ifneB (pc := 14) 20 C dX7_seen_14 (by decide) (fun h14 => ?_) (fun h14 => ?_)
    · skip
      refine tv_aload_n (pc := 20) 0 C dX7_seen_20 rfl rfl ?_
      refine tv_getr (pc := 21) (q := 10) C rfl rfl fl_X7_25 dX7_seen_21 ?_
      refine tv_callV (pc := 24) [] [] C (c2_isFull E _ μ 10 11 8 rfl rfl (by omega)) cv_X7_167 rfl rfl (by decide) rfl (Nat.le_of_ble_eq_true rfl) rfl dX7_seen_24 (tm_kp ?_)
      refine tv_ifeqB (pc := 27) 33 C dX7_seen_27 (by decide) (fun h27 => ?_) (fun h27 => ?_)
      · skip
        refine tv_aload_n (pc := 33) 0 C dX7_seen_33 rfl rfl ?_
        refine tv_getr (pc := 34) (q := 10) C rfl rfl fl_X7_25 dX7_seen_34 ?_
        refine tv_iload_n (pc := 37) 1 C dX7_seen_37 rfl rfl ?_
        refine tv_callV (pc := 38) [tm_i h] [] C (c2_add E _ μ 10 11 8 rfl rfl (by rw [show μ 10 1 = s 0 0 from z10]; omega) h (by decide)) cv_X7_170 rfl rfl (by decide) rfl (Nat.le_of_ble_eq_true rfl) rfl dX7_seen_38 (tm_kv ?_)
        rintro μ9 ⟨ha, -⟩
        rw [show μ 10 1 = s 0 0 from z10] at ha
        obtain rfl := ha (by omega)
        refine tv_aload_n (pc := 41) 0 C dX7_seen_41 rfl rfl ?_
        refine tv_getr (pc := 42) (q := 12) C rfl rfl fl_X7_28 dX7_seen_42 ?_
        refine tv_iload_n (pc := 45) 2 C dX7_seen_45 rfl rfl ?_
        refine tv_callV (pc := 46) [tm_i v] [] C (c2_add E _ (tm_up (tm_up μ 11 ((s 0 0).toNat) h) 10 1 (s 0 0 + 1)) 12 13 8 rfl rfl (by rw [show (tm_up (tm_up μ 11 ((s 0 0).toNat) h) 10 1 (s 0 0 + 1)) 12 1 = s 0 0 from (tm_uk (by decide)).trans ((tm_uk (by decide)).trans (z12))]; omega) v (by decide)) cv_X7_170 rfl rfl (by decide) rfl (Nat.le_of_ble_eq_true rfl) rfl dX7_seen_46 (tm_kv ?_)
        rintro μ9 ⟨ha, -⟩
        rw [show (tm_up (tm_up μ 11 ((s 0 0).toNat) h) 10 1 (s 0 0 + 1)) 12 1 = s 0 0 from (tm_uk (by decide)).trans ((tm_uk (by decide)).trans (z12))] at ha
        obtain rfl := ha (by omega)
        refine tv_aload_n (pc := 49) 0 C dX7_seen_49 rfl rfl ?_
        refine tv_getr (pc := 50) (q := 10) C rfl rfl fl_X7_25 dX7_seen_50 ?_
        refine tv_geti (pc := 53) (z := s 0 0 + 1) C rfl rfl fl_X7_105 dX7_seen_53 ((tm_uk (by decide)).trans ((tm_uk (by decide)).trans (tm_us))) ?_
        refine tv_iret (pc := 56) C dX7_seen_56 ?_
        refine ⟨_, rfl, by unfold sn_z; rw [if_pos (by omega), if_neg (by omega)], ?_, fun a ha => by rw [tm_uf (by omega), tm_uf (by omega), tm_uf (by omega), tm_uf (by omega)]⟩
        unfold sn_s
        rw [if_pos (by omega), if_neg (by omega)]
        exact cl_sn hI hs h v
      · skip
        refine tv_bipush (pc := 30) C dX7_seen_30 (by decide) ?_
        refine tv_iret (pc := 32) C dX7_seen_32 ?_
        exact ⟨_, rfl, by unfold sn_z; rw [if_pos (by omega), if_pos (by omega)], by unfold sn_s; rw [if_pos (by omega), if_pos (by omega)]; exact hI, fun a _ => rfl⟩
    · skip
      refine tv_bipush (pc := 17) C dX7_seen_17 (by decide) ?_
      refine tv_iret (pc := 19) C dX7_seen_19 ?_
      exact ⟨_, rfl, by unfold sn_z; rw [if_neg (by omega)], by unfold sn_s; rw [if_neg (by omega)]; exact hI, fun a _ => rfl⟩
theorem k7_forget (E : tm_Ev) (l : Launch) (μ : tm_M) (d s : tm_M) (hd : dd_ok d) (hs : ss_ok s) (hI : cl_I μ d s) : tm_Met E l yX7_forget cX7_forget 2 (some .int) 0 [.ref (E.2.1 0)] μ (tm_pi (fun z μ' => z = s 0 0 ∧ cl_I μ' d (tm_up s 0 0 0) ∧ ∀ a, 74 ≤ a → μ' a = μ a)) := by
  refine tm_intro [(0, .ref (E.2.1 0))] rfl (by decide +kernel) (Nat.le_of_ble_eq_true rfl) ?_
  intro X hX C
  subst hX
  have z10 := hI.2.1.1
  have z12 := hI.2.1.2.1
  have z0 := hs.1
  refine tv_aload_n (pc := 0) 0 C dX7_forget_0 rfl rfl ?_
  refine tv_getr (pc := 1) (q := 10) C rfl rfl fl_X7_25 dX7_forget_1 ?_
  refine tv_geti (pc := 4) (z := s 0 0) C rfl rfl fl_X7_105 dX7_forget_4 z10 ?_
  refine tv_istore_n (pc := 7) [(1, tm_i (s 0 0)), (0, .ref (E.2.1 0))] C dX7_forget_7 rfl (by decide) rfl ?_
  refine tv_aload_n (pc := 8) 1 C dX7_forget_8 rfl rfl ?_
  refine tv_getr (pc := 9) (q := 10) C rfl rfl fl_X7_25 dX7_forget_9 ?_
  refine tv_iconst (pc := 12) C dX7_forget_12 ?_
  refine tv_puti (pc := 13) C rfl rfl fp_X7_105 dX7_forget_13 ?_
  refine tv_aload_n (pc := 16) 1 C dX7_forget_16 rfl rfl ?_
  refine tv_getr (pc := 17) (q := 12) C rfl rfl fl_X7_28 dX7_forget_17 ?_
  refine tv_iconst (pc := 20) C dX7_forget_20 ?_
  refine tv_puti (pc := 21) C rfl rfl fp_X7_105 dX7_forget_21 ?_
  refine tv_iload_n (pc := 24) 0 C dX7_forget_24 rfl rfl ?_
  refine tv_iret (pc := 25) C dX7_forget_25 ?_
  exact ⟨_, rfl, rfl, cl_fg hI, fun a ha => by rw [tm_uf (by omega), tm_uf (by omega)]⟩
theorem k7_sheet (E : tm_Ev) (l : Launch) (μ : tm_M) (d s : tm_M) (hd : dd_ok d) (hs : ss_ok s) (hI : cl_I μ d s) (k f n : Int) (hk : -2147483648 ≤ k ∧ k ≤ 2147483647) (hf : -2147483648 ≤ f ∧ f ≤ 2147483647) (hn : -2147483648 ≤ n ∧ n ≤ 2147483647) : tm_Met E l yX7_sheet cX7_sheet 4 (some .int) 2 [.ref (E.2.1 0), tm_i k, tm_i f, tm_i n] μ (tm_pi (fun z μ' => z = sh_z k f n ∧ cl_I μ' d (sh_s s k f n) ∧ ∀ a, 74 ≤ a → μ' a = μ a)) := by
  refine tm_intro [(0, .ref (E.2.1 0)), (1, tm_i k), (2, tm_i f), (3, tm_i n)] rfl (by decide +kernel) (Nat.le_of_ble_eq_true rfl) ?_
  intro X hX C
  subst hX
  refine tv_iload_n (pc := 0) 1 C dX7_sheet_0 rfl rfl ?_
  refine tv_callS (pc := 1) [tm_i k] [] C (c7_isSheet E _ μ k (by omega)) cs_X7_152 (by decide) rfl (Nat.le_of_ble_eq_true rfl) rfl dX7_sheet_1 (tm_kp ?_)
  refine tv_ifeqB (pc := 4) 20 C dX7_sheet_4 (by decide) (fun h4 => ?_) (fun h4 => ?_)
  · skip
    refine tv_bipush (pc := 20) C dX7_sheet_20 (by decide) ?_
    refine tv_iret (pc := 22) C dX7_sheet_22 ?_
    exact ⟨_, rfl, by unfold sh_z; rw [if_neg (by omega)], by unfold sh_s; rw [if_neg (by omega)]; exact hI, fun a _ => rfl⟩
  · skip
    refine tv_iload_n (pc := 7) 2 C dX7_sheet_7 rfl rfl ?_
    refine tv_callS (pc := 8) [tm_i f] [] C (c7_isForm E _ μ f (by omega)) cs_X7_268 (by decide) rfl (Nat.le_of_ble_eq_true rfl) rfl dX7_sheet_8 (tm_kp ?_)
    refine tv_ifeqB (pc := 11) 20 C dX7_sheet_11 (by decide) (fun h11 => ?_) (fun h11 => ?_)
    · skip
      refine tv_bipush (pc := 20) C dX7_sheet_20 (by decide) ?_
      refine tv_iret (pc := 22) C dX7_sheet_22 ?_
      exact ⟨_, rfl, by unfold sh_z; rw [if_neg (by omega)], by unfold sh_s; rw [if_neg (by omega)]; exact hI, fun a _ => rfl⟩
    · skip
      refine tv_iload_n (pc := 14) 3 C dX7_sheet_14 rfl rfl ?_
      refine tv_bipush (pc := 15) C dX7_sheet_15 (by decide) ?_
      refine tv_icmp_le (pc := 17) 23 C dX7_sheet_17 (by decide) (by omega) (by omega) (fun h17 => ?_) (fun h17 => ?_)
      · skip
        refine tv_iload_n (pc := 23) 3 C dX7_sheet_23 rfl rfl ?_
        refine tv_if_ge (pc := 24) 33 C dX7_sheet_24 (by decide) (by omega) (fun h24 => ?_) (fun h24 => ?_)
        · skip
          refine tv_aload_n (pc := 33) 0 C dX7_sheet_33 rfl rfl ?_
          refine tv_getr (pc := 34) (q := 14) C rfl rfl fl_X7_34 dX7_sheet_34 ?_
          refine tv_iload_n (pc := 37) 1 C dX7_sheet_37 rfl rfl ?_
          refine tv_aald (pc := 38) (q := (15 + 2 * k.toNat)) (j := k.toNat) RX6 C rfl rfl dX7_sheet_38 (by omega) (by omega) (sh_q (by omega)) ?_
          refine tv_iload_n (pc := 39) 2 C dX7_sheet_39 rfl rfl ?_
          refine tv_iload_n (pc := 40) 3 C dX7_sheet_40 rfl rfl ?_
          refine tv_callV (pc := 41) [tm_i f, tm_i n] [] C (c6_begin E _ μ (15 + 2 * k.toNat) (16 + 2 * k.toNat) (sh_tm (k := k.toNat) (by omega)) (sh_tm1 (k := k.toNat) (by omega)) f n) cv_X7_271 (sh_tm (k := k.toNat) (by omega)) rfl (by decide) rfl (Nat.le_of_ble_eq_true rfl) rfl dX7_sheet_41 (tm_kv ?_)
          rintro _ rfl
          refine tv_iload_n (pc := 44) 3 C dX7_sheet_44 rfl rfl ?_
          refine tv_iret (pc := 45) C dX7_sheet_45 ?_
          refine ⟨_, rfl, by unfold sh_z; rw [if_pos (by omega), if_neg (by omega)], ?_, fun a ha => by rw [tm_fill_f (by omega), tm_uf (by omega), tm_uf (by omega)]⟩
          unfold sh_s
          rw [if_pos (by omega), if_neg (by omega)]
          exact cl_sh hI _ (by omega) _ _
        · skip
          refine tv_aload_n (pc := 27) 0 C dX7_sheet_27 rfl rfl ?_
          refine tv_iconst (pc := 28) C dX7_sheet_28 ?_
          refine tv_callV (pc := 29) [tm_i 5] [] C (c7_found E _ μ 5) cv_X7_159 rfl rfl (by decide) rfl (Nat.le_of_ble_eq_true rfl) rfl dX7_sheet_29 (tm_ki ?_)
          rintro _ _ ⟨rfl, rfl⟩
          refine tv_iret (pc := 32) C dX7_sheet_32 ?_
          refine ⟨_, rfl, by unfold sh_z; rw [if_pos (by omega), if_pos (by omega)]; rfl, ?_, fun a ha => by rw [tm_uf (by omega)]⟩
          unfold sh_s
          rw [if_pos (by omega), if_pos (by omega)]
          exact cl_fd hI 5
      · skip
        refine tv_bipush (pc := 20) C dX7_sheet_20 (by decide) ?_
        refine tv_iret (pc := 22) C dX7_sheet_22 ?_
        exact ⟨_, rfl, by unfold sh_z; rw [if_neg (by omega)], by unfold sh_s; rw [if_neg (by omega)]; exact hI, fun a _ => rfl⟩
theorem k7_lose (E : tm_Ev) (l : Launch) (μ : tm_M) (d s : tm_M) (hd : dd_ok d) (hs : ss_ok s) (hI : cl_I μ d s) (k : Int) (hk : -2147483648 ≤ k ∧ k ≤ 2147483647) : tm_Met E l yX7_lose cX7_lose 4 (some .int) 2 [.ref (E.2.1 0), tm_i k] μ (tm_pi (fun z μ' => z = lo_z s k ∧ cl_I μ' d (lo_s s k) ∧ ∀ a, 74 ≤ a → μ' a = μ a)) := by
  refine tm_intro [(0, .ref (E.2.1 0)), (1, tm_i k)] rfl (by decide +kernel) (Nat.le_of_ble_eq_true rfl) ?_
  intro X hX C
  subst hX
  refine tv_iload_n (pc := 0) 1 C dX7_lose_0 rfl rfl ?_
  refine tv_callS (pc := 1) [tm_i k] [] C (c7_isSheet E _ μ k (by omega)) cs_X7_152 (by decide) rfl (Nat.le_of_ble_eq_true rfl) rfl dX7_lose_1 (tm_kp ?_)
  refine tv_ifneB (pc := 4) 10 C dX7_lose_4 (by decide) (fun h4 => ?_) (fun h4 => ?_)
  · skip
    have hfk : (s 3 k.toNat = 0 ∧ μ (15 + 2 * k.toNat) 1 = -1) ∨ (s 3 k.toNat = 1 ∧ (0 ≤ s 4 k.toNat ∧ s 4 k.toNat ≤ 2) ∧ (0 ≤ s 5 k.toNat ∧ s 5 k.toNat ≤ 60) ∧ μ (15 + 2 * k.toNat) 1 = s 4 k.toNat ∧ μ (15 + 2 * k.toNat) 2 = s 5 k.toNat) := by
      have q := hI.2.1.2.2.2.2 k.toNat (by omega)
      have q0 := hs.2.2.2 k.toNat (by omega)
      rcases q0.1 with q3 | q3
      · exact Or.inl ⟨q3, q.2 q3⟩
      · exact Or.inr ⟨q3, (q0.2 q3).1, (q0.2 q3).2.1, (q.1 q3).1, (q.1 q3).2.1⟩
    refine tv_aload_n (pc := 10) 0 C dX7_lose_10 rfl rfl ?_
    refine tv_getr (pc := 11) (q := 14) C rfl rfl fl_X7_34 dX7_lose_11 ?_
    refine tv_iload_n (pc := 14) 1 C dX7_lose_14 rfl rfl ?_
    refine tv_aald (pc := 15) (q := (15 + 2 * k.toNat)) (j := k.toNat) RX6 C rfl rfl dX7_lose_15 (by omega) (by omega) (sh_q (by omega)) ?_
    refine tv_astore_n (pc := 16) [(2, .ref (E.2.1 (15 + 2 * k.toNat))), (0, .ref (E.2.1 0)), (1, tm_i k)] C dX7_lose_16 rfl (by decide) rfl ?_
    refine tv_aload_n (pc := 17) 0 C dX7_lose_17 rfl rfl ?_
    refine tv_callV (pc := 18) [] [] C (c6_isLost E _ μ (15 + 2 * k.toNat) (16 + 2 * k.toNat) (sh_tm (k := k.toNat) (by omega)) (sh_tm1 (k := k.toNat) (by omega)) (by omega)) cv_X7_155 (sh_tm (k := k.toNat) (by omega)) rfl (by decide) rfl (Nat.le_of_ble_eq_true rfl) rfl dX7_lose_18 (tm_kp ?_)
    refine tv_ifeqB (pc := 21) 30 C dX7_lose_21 (by decide) (fun h21 => ?_) (fun h21 => ?_)
    · skip
      refine tv_aload_n (pc := 30) 0 C dX7_lose_30 rfl rfl ?_
      refine tv_geti (pc := 31) (z := μ (15 + 2 * k.toNat) 2) C (sh_tm (k := k.toNat) (by omega)) rfl fl_X7_163 dX7_lose_31 rfl ?_
      refine tv_istore_n (pc := 34) [(3, tm_i (μ (15 + 2 * k.toNat) 2)), (2, .ref (E.2.1 (15 + 2 * k.toNat))), (0, .ref (E.2.1 0)), (1, tm_i k)] C dX7_lose_34 rfl (by decide) rfl ?_
      refine tv_aload_n (pc := 35) 1 C dX7_lose_35 rfl rfl ?_
      refine tv_iconst (pc := 36) C dX7_lose_36 ?_
      refine tv_iconst (pc := 37) C dX7_lose_37 ?_
      refine tv_callV (pc := 38) [tm_i (-1), tm_i 0] [] C (c6_begin E _ μ (15 + 2 * k.toNat) (16 + 2 * k.toNat) (sh_tm (k := k.toNat) (by omega)) (sh_tm1 (k := k.toNat) (by omega)) (-1) 0) cv_X7_271 (sh_tm (k := k.toNat) (by omega)) rfl (by decide) rfl (Nat.le_of_ble_eq_true rfl) rfl dX7_lose_38 (tm_kv ?_)
      rintro _ rfl
      refine tv_iload_n (pc := 41) 0 C dX7_lose_41 rfl rfl ?_
      refine tv_iret (pc := 42) C dX7_lose_42 ?_
      refine ⟨_, rfl, by unfold lo_z; rw [if_pos (by omega), if_neg (by omega)]; omega, ?_, fun a ha => by rw [tm_fill_f (by omega), tm_uf (by omega), tm_uf (by omega)]⟩
      unfold lo_s
      rw [if_pos (by omega), if_neg (by omega)]
      exact cl_lo hI _ (by omega) _
    · skip
      refine tv_aload_n (pc := 24) 1 C dX7_lose_24 rfl rfl ?_
      refine tv_iconst (pc := 25) C dX7_lose_25 ?_
      refine tv_callV (pc := 26) [tm_i 1] [] C (c7_found E _ μ 1) cv_X7_159 rfl rfl (by decide) rfl (Nat.le_of_ble_eq_true rfl) rfl dX7_lose_26 (tm_ki ?_)
      rintro _ _ ⟨rfl, rfl⟩
      refine tv_iret (pc := 29) C dX7_lose_29 ?_
      refine ⟨_, rfl, by unfold lo_z; rw [if_pos (by omega), if_pos (by omega)]; rfl, ?_, fun a ha => by rw [tm_uf (by omega)]⟩
      unfold lo_s
      rw [if_pos (by omega), if_pos (by omega)]
      exact cl_fd hI 1
  · skip
    refine tv_bipush (pc := 7) C dX7_lose_7 (by decide) ?_
    refine tv_iret (pc := 9) C dX7_lose_9 ?_
    exact ⟨_, rfl, by unfold lo_z; rw [if_neg (by omega)], by unfold lo_s; rw [if_neg (by omega)]; exact hI, fun a _ => rfl⟩
theorem k7_put (E : tm_Ev) (l : Launch) (μ : tm_M) (d s : tm_M) (hd : dd_ok d) (hs : ss_ok s) (hI : cl_I μ d s) (k f x v : Int) (hk : -2147483648 ≤ k ∧ k ≤ 2147483647) (hf : -2147483648 ≤ f ∧ f ≤ 2147483647) (hx : -2147483648 ≤ x ∧ x ≤ 2147483647) (hv : -2147483648 ≤ v ∧ v ≤ 2147483647) : tm_Met E l yX7_put cX7_put 6 (some .int) 2 [.ref (E.2.1 0), tm_i k, tm_i f, tm_i x, tm_i v] μ (tm_pi (fun z μ' => z = pu_z s k f x ∧ cl_I μ' d (pu_s s k f x v) ∧ ∀ a, 74 ≤ a → μ' a = μ a)) := by
  refine tm_intro [(0, .ref (E.2.1 0)), (1, tm_i k), (2, tm_i f), (3, tm_i x), (4, tm_i v)] rfl (by decide +kernel) (Nat.le_of_ble_eq_true rfl) ?_
  intro X hX C
  subst hX
  refine tv_iload_n (pc := 0) 1 C dX7_put_0 rfl rfl ?_
  refine tv_callS (pc := 1) [tm_i k] [] C (c7_isSheet E _ μ k (by omega)) cs_X7_152 (by decide) rfl (Nat.le_of_ble_eq_true rfl) rfl dX7_put_1 (tm_kp ?_)
  refine tv_ifeqB (pc := 4) 14 C dX7_put_4 (by decide) (fun h4 => ?_) (fun h4 => ?_)
  · skip
    refine tv_bipush (pc := 14) C dX7_put_14 (by decide) ?_
    refine tv_iret (pc := 16) C dX7_put_16 ?_
    exact ⟨_, rfl, by unfold pu_z; rw [if_neg (by omega)], by unfold pu_s; rw [if_neg (by omega)]; exact hI, fun a _ => rfl⟩
  · skip
    refine tv_iload_n (pc := 7) 2 C dX7_put_7 rfl rfl ?_
    refine tv_callS (pc := 8) [tm_i f] [] C (c7_isForm E _ μ f (by omega)) cs_X7_268 (by decide) rfl (Nat.le_of_ble_eq_true rfl) rfl dX7_put_8 (tm_kp ?_)
    refine tv_ifneB (pc := 11) 17 C dX7_put_11 (by decide) (fun h11 => ?_) (fun h11 => ?_)
    · skip
      have hfk : (s 3 k.toNat = 0 ∧ μ (15 + 2 * k.toNat) 1 = -1) ∨ (s 3 k.toNat = 1 ∧ (0 ≤ s 4 k.toNat ∧ s 4 k.toNat ≤ 2) ∧ (0 ≤ s 5 k.toNat ∧ s 5 k.toNat ≤ 60) ∧ μ (15 + 2 * k.toNat) 1 = s 4 k.toNat ∧ μ (15 + 2 * k.toNat) 2 = s 5 k.toNat) := by
        have q := hI.2.1.2.2.2.2 k.toNat (by omega)
        have q0 := hs.2.2.2 k.toNat (by omega)
        rcases q0.1 with q3 | q3
        · exact Or.inl ⟨q3, q.2 q3⟩
        · exact Or.inr ⟨q3, (q0.2 q3).1, (q0.2 q3).2.1, (q.1 q3).1, (q.1 q3).2.1⟩
      refine tv_aload_n (pc := 17) 0 C dX7_put_17 rfl rfl ?_
      refine tv_getr (pc := 18) (q := 14) C rfl rfl fl_X7_34 dX7_put_18 ?_
      refine tv_iload_n (pc := 21) 1 C dX7_put_21 rfl rfl ?_
      refine tv_aald (pc := 22) (q := (15 + 2 * k.toNat)) (j := k.toNat) RX6 C rfl rfl dX7_put_22 (by omega) (by omega) (sh_q (by omega)) ?_
      refine tv_iload_n (pc := 23) 2 C dX7_put_23 rfl rfl ?_
      refine tv_iload_n (pc := 24) 3 C dX7_put_24 rfl rfl ?_
      refine tv_callV (pc := 25) [tm_i f, tm_i x] [] C (c6_wrongWith E _ μ (15 + 2 * k.toNat) (16 + 2 * k.toNat) (sh_tm (k := k.toNat) (by omega)) (sh_tm1 (k := k.toNat) (by omega)) (by omega) (by omega) f x (by omega) (by omega)) cv_X7_275 (sh_tm (k := k.toNat) (by omega)) rfl (by decide) rfl (Nat.le_of_ble_eq_true rfl) rfl dX7_put_25 (tm_ki ?_)
      rintro zl n1 ⟨hzl, hn1⟩
      have hn1 := hn1.symm
      subst hn1
      have ezl : zl = lk_z s k.toNat f x := by
        rw [hzl]
        unfold lk_z
        rcases hfk with ⟨q1, q2⟩ | ⟨q1, q2, q3, q4, q5⟩
        · rw [if_pos q2, if_pos q1]
        · rw [q4, q5, if_neg (show ¬ s 4 k.toNat = -1 by omega), if_neg (show ¬ s 3 k.toNat = 0 by omega)]
      subst ezl
      have hlr : 0 ≤ lk_z s k.toNat f x ∧ lk_z s k.toNat f x ≤ 3 := by
        unfold lk_z
        split
        · omega
        · split
          · split <;> omega
          · omega
      have hl0 : lk_z s k.toNat f x = 0 → s 3 k.toNat = 1 ∧ s 4 k.toNat = f ∧ 0 ≤ x ∧ x < s 5 k.toNat := by
        unfold lk_z
        intro q
        split at q
        · omega
        · split at q
          · split at q <;> omega
          · omega
      refine tv_istore (pc := 28) [(5, tm_i (lk_z s k.toNat f x)), (0, .ref (E.2.1 0)), (1, tm_i k), (2, tm_i f), (3, tm_i x), (4, tm_i v)] C dX7_put_28 (by decide) rfl ?_
      refine tv_iload (pc := 30) 0 C dX7_put_30 rfl ?_
      refine tv_if_eq (pc := 32) 42 C dX7_put_32 (by decide) (by omega) (fun h32 => ?_) (fun h32 => ?_)
      · skip
        have hl1 := hl0 (by omega)
        refine tv_aload_n (pc := 42) 1 C dX7_put_42 rfl rfl ?_
        refine tv_getr (pc := 43) (q := 14) C rfl rfl fl_X7_34 dX7_put_43 ?_
        refine tv_iload_n (pc := 46) 2 C dX7_put_46 rfl rfl ?_
        refine tv_aald (pc := 47) (q := (15 + 2 * k.toNat)) (j := k.toNat) RX6 C rfl rfl dX7_put_47 (by omega) (by omega) (sh_q (by omega)) ?_
        refine tv_iload_n (pc := 48) 4 C dX7_put_48 rfl rfl ?_
        refine tv_iload (pc := 49) 5 C dX7_put_49 rfl ?_
        refine tv_callV (pc := 51) [tm_i x, tm_i v] [] C (c6_store E _ μ (15 + 2 * k.toNat) (16 + 2 * k.toNat) (sh_tm (k := k.toNat) (by omega)) (sh_tm1 (k := k.toNat) (by omega)) (s 4 k.toNat) (by omega) (by omega) x v (by omega)) cv_X7_279 (sh_tm (k := k.toNat) (by omega)) rfl (by decide) rfl (Nat.le_of_ble_eq_true rfl) rfl dX7_put_51 (tm_kv ?_)
        rintro _ rfl
        refine tv_iconst (pc := 54) C dX7_put_54 ?_
        refine tv_iret (pc := 55) C dX7_put_55 ?_
        refine ⟨_, rfl, by unfold pu_z; rw [if_pos (by omega), if_pos (by omega)], ?_, fun a ha => by rw [tm_uf (by omega)]⟩
        unfold pu_s
        rw [if_pos (by omega), if_pos (by omega)]
        refine cl_it hI k.toNat (by omega) (fun a ha => tm_uf ha) (fun a ha => tm_uf ha) (fun q j hj => ?_)
        by_cases hc : j = x.toNat
        · subst hc; rw [tm_us, tm_us]
        · rw [tm_uj hc, tm_uj hc]; exact ((hI.2.1.2.2.2.2 k.toNat (by omega)).1 q).2.2 j hj
      · skip
        refine tv_aload_n (pc := 35) 1 C dX7_put_35 rfl rfl ?_
        refine tv_iload (pc := 36) 0 C dX7_put_36 rfl ?_
        refine tv_callV (pc := 38) [tm_i (lk_z s k.toNat f x)] [] C (c7_found E _ μ (lk_z s k.toNat f x)) cv_X7_159 rfl rfl (by decide) rfl (Nat.le_of_ble_eq_true rfl) rfl dX7_put_38 (tm_ki ?_)
        rintro _ _ ⟨rfl, rfl⟩
        refine tv_iret (pc := 41) C dX7_put_41 ?_
        refine ⟨_, rfl, by unfold pu_z; rw [if_pos (by omega), if_neg (by omega)], ?_, fun a ha => by rw [tm_uf (by omega)]⟩
        unfold pu_s
        rw [if_pos (by omega), if_neg (by omega)]
        exact cl_fd hI _
    · skip
      refine tv_bipush (pc := 14) C dX7_put_14 (by decide) ?_
      refine tv_iret (pc := 16) C dX7_put_16 ?_
      exact ⟨_, rfl, by unfold pu_z; rw [if_neg (by omega)], by unfold pu_s; rw [if_neg (by omega)]; exact hI, fun a _ => rfl⟩
theorem k7_get (E : tm_Ev) (l : Launch) (μ : tm_M) (d s : tm_M) (hd : dd_ok d) (hs : ss_ok s) (hI : cl_I μ d s) (k f x : Int) (hk : -2147483648 ≤ k ∧ k ≤ 2147483647) (hf : -2147483648 ≤ f ∧ f ≤ 2147483647) (hx : -2147483648 ≤ x ∧ x ≤ 2147483647) : tm_Met E l yX7_get cX7_get 5 (some .int) 2 [.ref (E.2.1 0), tm_i k, tm_i f, tm_i x] μ (tm_pi (fun z μ' => z = ge_z s k f x ∧ cl_I μ' d (ge_s s k f x) ∧ ∀ a, 74 ≤ a → μ' a = μ a)) := by
  refine tm_intro [(0, .ref (E.2.1 0)), (1, tm_i k), (2, tm_i f), (3, tm_i x)] rfl (by decide +kernel) (Nat.le_of_ble_eq_true rfl) ?_
  intro X hX C
  subst hX
  refine tv_iload_n (pc := 0) 1 C dX7_get_0 rfl rfl ?_
  refine tv_callS (pc := 1) [tm_i k] [] C (c7_isSheet E _ μ k (by omega)) cs_X7_152 (by decide) rfl (Nat.le_of_ble_eq_true rfl) rfl dX7_get_1 (tm_kp ?_)
  refine tv_ifeqB (pc := 4) 14 C dX7_get_4 (by decide) (fun h4 => ?_) (fun h4 => ?_)
  · skip
    refine tv_ldcw (pc := 14) (z := (-2147483648)) C kc_X7_282 dX7_get_14 (by decide) ?_
    refine tv_iret (pc := 17) C dX7_get_17 ?_
    exact ⟨_, rfl, by unfold ge_z; rw [if_neg (by omega)], by unfold ge_s; rw [if_neg (by omega)]; exact hI, fun a _ => rfl⟩
  · skip
    refine tv_iload_n (pc := 7) 2 C dX7_get_7 rfl rfl ?_
    refine tv_callS (pc := 8) [tm_i f] [] C (c7_isForm E _ μ f (by omega)) cs_X7_268 (by decide) rfl (Nat.le_of_ble_eq_true rfl) rfl dX7_get_8 (tm_kp ?_)
    refine tv_ifneB (pc := 11) 18 C dX7_get_11 (by decide) (fun h11 => ?_) (fun h11 => ?_)
    · skip
      have hfk : (s 3 k.toNat = 0 ∧ μ (15 + 2 * k.toNat) 1 = -1) ∨ (s 3 k.toNat = 1 ∧ (0 ≤ s 4 k.toNat ∧ s 4 k.toNat ≤ 2) ∧ (0 ≤ s 5 k.toNat ∧ s 5 k.toNat ≤ 60) ∧ μ (15 + 2 * k.toNat) 1 = s 4 k.toNat ∧ μ (15 + 2 * k.toNat) 2 = s 5 k.toNat) := by
        have q := hI.2.1.2.2.2.2 k.toNat (by omega)
        have q0 := hs.2.2.2 k.toNat (by omega)
        rcases q0.1 with q3 | q3
        · exact Or.inl ⟨q3, q.2 q3⟩
        · exact Or.inr ⟨q3, (q0.2 q3).1, (q0.2 q3).2.1, (q.1 q3).1, (q.1 q3).2.1⟩
      refine tv_aload_n (pc := 18) 0 C dX7_get_18 rfl rfl ?_
      refine tv_getr (pc := 19) (q := 14) C rfl rfl fl_X7_34 dX7_get_19 ?_
      refine tv_iload_n (pc := 22) 1 C dX7_get_22 rfl rfl ?_
      refine tv_aald (pc := 23) (q := (15 + 2 * k.toNat)) (j := k.toNat) RX6 C rfl rfl dX7_get_23 (by omega) (by omega) (sh_q (by omega)) ?_
      refine tv_iload_n (pc := 24) 2 C dX7_get_24 rfl rfl ?_
      refine tv_iload_n (pc := 25) 3 C dX7_get_25 rfl rfl ?_
      refine tv_callV (pc := 26) [tm_i f, tm_i x] [] C (c6_wrongWith E _ μ (15 + 2 * k.toNat) (16 + 2 * k.toNat) (sh_tm (k := k.toNat) (by omega)) (sh_tm1 (k := k.toNat) (by omega)) (by omega) (by omega) f x (by omega) (by omega)) cv_X7_275 (sh_tm (k := k.toNat) (by omega)) rfl (by decide) rfl (Nat.le_of_ble_eq_true rfl) rfl dX7_get_26 (tm_ki ?_)
      rintro zl n1 ⟨hzl, hn1⟩
      have hn1 := hn1.symm
      subst hn1
      have ezl : zl = lk_z s k.toNat f x := by
        rw [hzl]
        unfold lk_z
        rcases hfk with ⟨q1, q2⟩ | ⟨q1, q2, q3, q4, q5⟩
        · rw [if_pos q2, if_pos q1]
        · rw [q4, q5, if_neg (show ¬ s 4 k.toNat = -1 by omega), if_neg (show ¬ s 3 k.toNat = 0 by omega)]
      subst ezl
      have hlr : 0 ≤ lk_z s k.toNat f x ∧ lk_z s k.toNat f x ≤ 3 := by
        unfold lk_z
        split
        · omega
        · split
          · split <;> omega
          · omega
      have hl0 : lk_z s k.toNat f x = 0 → s 3 k.toNat = 1 ∧ s 4 k.toNat = f ∧ 0 ≤ x ∧ x < s 5 k.toNat := by
        unfold lk_z
        intro q
        split at q
        · omega
        · split at q
          · split at q <;> omega
          · omega
      refine tv_istore (pc := 29) [(4, tm_i (lk_z s k.toNat f x)), (0, .ref (E.2.1 0)), (1, tm_i k), (2, tm_i f), (3, tm_i x)] C dX7_get_29 (by decide) rfl ?_
      refine tv_iload (pc := 31) 0 C dX7_get_31 rfl ?_
      refine tv_if_eq (pc := 33) 46 C dX7_get_33 (by decide) (by omega) (fun h33 => ?_) (fun h33 => ?_)
      · skip
        have hl1 := hl0 (by omega)
        refine tv_aload_n (pc := 46) 1 C dX7_get_46 rfl rfl ?_
        refine tv_getr (pc := 47) (q := 14) C rfl rfl fl_X7_34 dX7_get_47 ?_
        refine tv_iload_n (pc := 50) 2 C dX7_get_50 rfl rfl ?_
        refine tv_aald (pc := 51) (q := (15 + 2 * k.toNat)) (j := k.toNat) RX6 C rfl rfl dX7_get_51 (by omega) (by omega) (sh_q (by omega)) ?_
        refine tv_getr (pc := 52) (q := (16 + 2 * k.toNat)) C (sh_tm (k := k.toNat) (by omega)) rfl fl_X7_164 dX7_get_52 ?_
        refine tv_iload_n (pc := 55) 4 C dX7_get_55 rfl rfl ?_
        refine tv_iald (pc := 56) (j := x.toNat) (z := μ (16 + 2 * k.toNat) x.toNat) C (sh_tm1 (k := k.toNat) (by omega)) dX7_get_56 (by omega) rfl rfl ?_
        refine tv_iret (pc := 57) C dX7_get_57 ?_
        exact ⟨_, rfl, by unfold ge_z; rw [if_pos (by omega)]; exact ((hI.2.1.2.2.2.2 k.toNat (by omega)).1 hl1.1).2.2 x.toNat (by omega), by unfold ge_s; rw [if_neg (by omega)]; exact hI, fun a _ => rfl⟩
      · skip
        refine tv_aload_n (pc := 36) 1 C dX7_get_36 rfl rfl ?_
        refine tv_iload (pc := 37) 0 C dX7_get_37 rfl ?_
        refine tv_puti (pc := 39) C rfl rfl fp_X7_283 dX7_get_39 ?_
        refine tv_ldcw (pc := 42) (z := (-2147483648)) C kc_X7_282 dX7_get_42 (by decide) ?_
        refine tv_iret (pc := 45) C dX7_get_45 ?_
        refine ⟨_, rfl, by unfold ge_z; rw [if_neg (by omega)], ?_, fun a ha => by rw [tm_uf (by omega)]⟩
        unfold ge_s
        rw [if_pos (by omega)]
        exact cl_fd hI _
    · skip
      refine tv_ldcw (pc := 14) (z := (-2147483648)) C kc_X7_282 dX7_get_14 (by decide) ?_
      refine tv_iret (pc := 17) C dX7_get_17 ?_
      exact ⟨_, rfl, by unfold ge_z; rw [if_neg (by omega)], by unfold ge_s; rw [if_neg (by omega)]; exact hI, fun a _ => rfl⟩
theorem cy_r (s : tm_M) (k t : Nat) (x y n : Int) : (cy_l s k t x y n = 1 ∧ (s 3 k = 0 ∨ s 3 t = 0)) ∨ (cy_l s k t x y n = 4 ∧ ¬ s 3 k = 0 ∧ ¬ s 3 t = 0 ∧ ¬ s 4 k = s 4 t) ∨ (cy_l s k t x y n = 2 ∧ ¬ s 3 k = 0 ∧ ¬ s 3 t = 0 ∧ s 4 k = s 4 t ∧ ¬ (0 ≤ x ∧ 0 ≤ y ∧ 0 ≤ n ∧ x + n ≤ s 5 k ∧ y + n ≤ s 5 t)) ∨ (cy_l s k t x y n = 0 ∧ ¬ s 3 k = 0 ∧ ¬ s 3 t = 0 ∧ s 4 k = s 4 t ∧ (0 ≤ x ∧ 0 ≤ y ∧ 0 ≤ n ∧ x + n ≤ s 5 k ∧ y + n ≤ s 5 t)) := by
  unfold cy_l
  by_cases h1 : s 3 k = 0 ∨ s 3 t = 0
  · rw [if_pos h1]; exact Or.inl ⟨rfl, h1⟩
  · rw [if_neg h1]
    right
    by_cases h2 : s 4 k = s 4 t
    · rw [if_pos h2]
      right
      by_cases h3 : 0 ≤ x ∧ 0 ≤ y ∧ 0 ≤ n ∧ x + n ≤ s 5 k ∧ y + n ≤ s 5 t
      · rw [if_pos h3]; right; exact ⟨rfl, by omega, by omega, h2, h3⟩
      · rw [if_neg h3]; left; exact ⟨rfl, by omega, by omega, h2, h3⟩
    · rw [if_neg h2]; left; exact ⟨rfl, by omega, by omega, h2⟩
theorem k7_copy (E : tm_Ev) (l : Launch) (μ : tm_M) (d s : tm_M) (hd : dd_ok d) (hs : ss_ok s) (hI : cl_I μ d s) (k x t y n : Int) (hk : -2147483648 ≤ k ∧ k ≤ 2147483647) (hx : -2147483648 ≤ x ∧ x ≤ 2147483647) (ht : -2147483648 ≤ t ∧ t ≤ 2147483647) (hy : -2147483648 ≤ y ∧ y ≤ 2147483647) (hn : -2147483648 ≤ n ∧ n ≤ 2147483647) : tm_Met E l yX7_copy cX7_copy 8 (some .int) 2 [.ref (E.2.1 0), tm_i k, tm_i x, tm_i t, tm_i y, tm_i n] μ (tm_pi (fun z μ' => z = cy_z s k x t y n ∧ cl_I μ' d (cy_s s k x t y n) ∧ ∀ a, 74 ≤ a → μ' a = μ a)) := by
  refine tm_intro [(0, .ref (E.2.1 0)), (1, tm_i k), (2, tm_i x), (3, tm_i t), (4, tm_i y), (5, tm_i n)] rfl (by decide +kernel) (Nat.le_of_ble_eq_true rfl) ?_
  intro X hX C
  subst hX
  refine tv_iload_n (pc := 0) 1 C dX7_copy_0 rfl rfl ?_
  refine tv_callS (pc := 1) [tm_i k] [] C (c7_isSheet E _ μ k (by omega)) cs_X7_152 (by decide) rfl (Nat.le_of_ble_eq_true rfl) rfl dX7_copy_1 (tm_kp ?_)
  refine tv_ifeqB (pc := 4) 14 C dX7_copy_4 (by decide) (fun h4 => ?_) (fun h4 => ?_)
  · skip
    refine tv_bipush (pc := 14) C dX7_copy_14 (by decide) ?_
    refine tv_iret (pc := 16) C dX7_copy_16 ?_
    exact ⟨_, rfl, by unfold cy_z; rw [if_neg (by omega)], by unfold cy_s; rw [if_neg (by omega)]; exact hI, fun a _ => rfl⟩
  · skip
    refine tv_iload_n (pc := 7) 3 C dX7_copy_7 rfl rfl ?_
    refine tv_callS (pc := 8) [tm_i t] [] C (c7_isSheet E _ μ t (by omega)) cs_X7_152 (by decide) rfl (Nat.le_of_ble_eq_true rfl) rfl dX7_copy_8 (tm_kp ?_)
    refine tv_ifneB (pc := 11) 17 C dX7_copy_11 (by decide) (fun h11 => ?_) (fun h11 => ?_)
    · skip
      have hfk : (s 3 k.toNat = 0 ∧ μ (15 + 2 * k.toNat) 1 = -1) ∨ (s 3 k.toNat = 1 ∧ (0 ≤ s 4 k.toNat ∧ s 4 k.toNat ≤ 2) ∧ (0 ≤ s 5 k.toNat ∧ s 5 k.toNat ≤ 60) ∧ μ (15 + 2 * k.toNat) 1 = s 4 k.toNat ∧ μ (15 + 2 * k.toNat) 2 = s 5 k.toNat) := by
        have q := hI.2.1.2.2.2.2 k.toNat (by omega)
        have q0 := hs.2.2.2 k.toNat (by omega)
        rcases q0.1 with q3 | q3
        · exact Or.inl ⟨q3, q.2 q3⟩
        · exact Or.inr ⟨q3, (q0.2 q3).1, (q0.2 q3).2.1, (q.1 q3).1, (q.1 q3).2.1⟩
      have hft : (s 3 t.toNat = 0 ∧ μ (15 + 2 * t.toNat) 1 = -1) ∨ (s 3 t.toNat = 1 ∧ (0 ≤ s 4 t.toNat ∧ s 4 t.toNat ≤ 2) ∧ (0 ≤ s 5 t.toNat ∧ s 5 t.toNat ≤ 60) ∧ μ (15 + 2 * t.toNat) 1 = s 4 t.toNat ∧ μ (15 + 2 * t.toNat) 2 = s 5 t.toNat) := by
        have q := hI.2.1.2.2.2.2 t.toNat (by omega)
        have q0 := hs.2.2.2 t.toNat (by omega)
        rcases q0.1 with q3 | q3
        · exact Or.inl ⟨q3, q.2 q3⟩
        · exact Or.inr ⟨q3, (q0.2 q3).1, (q0.2 q3).2.1, (q.1 q3).1, (q.1 q3).2.1⟩
      have hcy := cy_r s k.toNat t.toNat x y n
      refine tv_aload_n (pc := 17) 0 C dX7_copy_17 rfl rfl ?_
      refine tv_getr (pc := 18) (q := 14) C rfl rfl fl_X7_34 dX7_copy_18 ?_
      refine tv_iload_n (pc := 21) 1 C dX7_copy_21 rfl rfl ?_
      refine tv_aald (pc := 22) (q := (15 + 2 * k.toNat)) (j := k.toNat) RX6 C rfl rfl dX7_copy_22 (by omega) (by omega) (sh_q (by omega)) ?_
      refine tv_astore (pc := 23) [(6, .ref (E.2.1 (15 + 2 * k.toNat))), (0, .ref (E.2.1 0)), (1, tm_i k), (2, tm_i x), (3, tm_i t), (4, tm_i y), (5, tm_i n)] C dX7_copy_23 (by decide) rfl ?_
      refine tv_aload_n (pc := 25) 1 C dX7_copy_25 rfl rfl ?_
      refine tv_getr (pc := 26) (q := 14) C rfl rfl fl_X7_34 dX7_copy_26 ?_
      refine tv_iload_n (pc := 29) 4 C dX7_copy_29 rfl rfl ?_
      refine tv_aald (pc := 30) (q := (15 + 2 * t.toNat)) (j := t.toNat) RX6 C rfl rfl dX7_copy_30 (by omega) (by omega) (sh_q (by omega)) ?_
      refine tv_astore (pc := 31) [(7, .ref (E.2.1 (15 + 2 * t.toNat))), (6, .ref (E.2.1 (15 + 2 * k.toNat))), (0, .ref (E.2.1 0)), (1, tm_i k), (2, tm_i x), (3, tm_i t), (4, tm_i y), (5, tm_i n)] C dX7_copy_31 (by decide) rfl ?_
      refine tv_aload (pc := 33) 1 C dX7_copy_33 rfl ?_
      refine tv_callV (pc := 35) [] [] C (c6_isLost E _ μ (15 + 2 * k.toNat) (16 + 2 * k.toNat) (sh_tm (k := k.toNat) (by omega)) (sh_tm1 (k := k.toNat) (by omega)) (by omega)) cv_X7_155 (sh_tm (k := k.toNat) (by omega)) rfl (by decide) rfl (Nat.le_of_ble_eq_true rfl) rfl dX7_copy_35 (tm_kp ?_)
      refine tv_ifneB (pc := 38) 49 C dX7_copy_38 (by decide) (fun h38 => ?_) (fun h38 => ?_)
      · skip
        refine tv_aload_n (pc := 49) 2 C dX7_copy_49 rfl rfl ?_
        refine tv_iconst (pc := 50) C dX7_copy_50 ?_
        refine tv_callV (pc := 51) [tm_i 1] [] C (c7_found E _ μ 1) cv_X7_159 rfl rfl (by decide) rfl (Nat.le_of_ble_eq_true rfl) rfl dX7_copy_51 (tm_ki ?_)
        rintro _ _ ⟨rfl, rfl⟩
        refine tv_iret (pc := 54) C dX7_copy_54 ?_
        have ecy : cy_l s k.toNat t.toNat x y n = 1 := by omega
        refine ⟨_, rfl, by unfold cy_z; rw [if_pos (by omega), if_neg (by omega), ecy], ?_, fun a ha => by rw [tm_uf (by omega)]⟩
        unfold cy_s
        rw [if_pos (by omega), if_neg (by omega), ecy]
        exact cl_fd hI _
      · skip
        refine tv_aload (pc := 41) 0 C dX7_copy_41 rfl ?_
        refine tv_callV (pc := 43) [] [] C (c6_isLost E _ μ (15 + 2 * t.toNat) (16 + 2 * t.toNat) (sh_tm (k := t.toNat) (by omega)) (sh_tm1 (k := t.toNat) (by omega)) (by omega)) cv_X7_155 (sh_tm (k := t.toNat) (by omega)) rfl (by decide) rfl (Nat.le_of_ble_eq_true rfl) rfl dX7_copy_43 (tm_kp ?_)
        refine tv_ifeqB (pc := 46) 55 C dX7_copy_46 (by decide) (fun h46 => ?_) (fun h46 => ?_)
        · skip
          refine tv_aload (pc := 55) 1 C dX7_copy_55 rfl ?_
          refine tv_geti (pc := 57) (z := μ (15 + 2 * k.toNat) 1) C (sh_tm (k := k.toNat) (by omega)) rfl fl_X7_286 dX7_copy_57 rfl ?_
          refine tv_aload (pc := 60) 0 C dX7_copy_60 rfl ?_
          refine tv_geti (pc := 62) (z := μ (15 + 2 * t.toNat) 1) C (sh_tm (k := t.toNat) (by omega)) rfl fl_X7_286 dX7_copy_62 rfl ?_
          refine tv_icmp_eq (pc := 65) 74 C dX7_copy_65 (by decide) (by omega) (by omega) (fun h65 => ?_) (fun h65 => ?_)
          · skip
            refine tv_aload (pc := 74) 1 C dX7_copy_74 rfl ?_
            refine tv_iload_n (pc := 76) 4 C dX7_copy_76 rfl rfl ?_
            refine tv_iload (pc := 77) 7 C dX7_copy_77 rfl ?_
            refine tv_callV (pc := 79) [tm_i x, tm_i n] [] C (c6_holds E _ μ (15 + 2 * k.toNat) (16 + 2 * k.toNat) (sh_tm (k := k.toNat) (by omega)) (sh_tm1 (k := k.toNat) (by omega)) (by omega) x n (by omega) (by omega)) cv_X7_289 (sh_tm (k := k.toNat) (by omega)) rfl (by decide) rfl (Nat.le_of_ble_eq_true rfl) rfl dX7_copy_79 (tm_kp ?_)
            refine tv_ifeqB (pc := 82) 97 C dX7_copy_82 (by decide) (fun h82 => ?_) (fun h82 => ?_)
            · skip
              refine tv_aload_n (pc := 97) 2 C dX7_copy_97 rfl rfl ?_
              refine tv_iconst (pc := 98) C dX7_copy_98 ?_
              refine tv_callV (pc := 99) [tm_i 2] [] C (c7_found E _ μ 2) cv_X7_159 rfl rfl (by decide) rfl (Nat.le_of_ble_eq_true rfl) rfl dX7_copy_99 (tm_ki ?_)
              rintro _ _ ⟨rfl, rfl⟩
              refine tv_iret (pc := 102) C dX7_copy_102 ?_
              have ecy : cy_l s k.toNat t.toNat x y n = 2 := by omega
              refine ⟨_, rfl, by unfold cy_z; rw [if_pos (by omega), if_neg (by omega), ecy], ?_, fun a ha => by rw [tm_uf (by omega)]⟩
              unfold cy_s
              rw [if_pos (by omega), if_neg (by omega), ecy]
              exact cl_fd hI _
            · skip
              refine tv_aload (pc := 85) 0 C dX7_copy_85 rfl ?_
              refine tv_iload (pc := 87) 6 C dX7_copy_87 rfl ?_
              refine tv_iload (pc := 89) 7 C dX7_copy_89 rfl ?_
              refine tv_callV (pc := 91) [tm_i y, tm_i n] [] C (c6_holds E _ μ (15 + 2 * t.toNat) (16 + 2 * t.toNat) (sh_tm (k := t.toNat) (by omega)) (sh_tm1 (k := t.toNat) (by omega)) (by omega) y n (by omega) (by omega)) cv_X7_289 (sh_tm (k := t.toNat) (by omega)) rfl (by decide) rfl (Nat.le_of_ble_eq_true rfl) rfl dX7_copy_91 (tm_kp ?_)
              refine tv_ifneB (pc := 94) 103 C dX7_copy_94 (by decide) (fun h94 => ?_) (fun h94 => ?_)
              · skip
                refine tv_aload (pc := 103) 1 C dX7_copy_103 rfl ?_
                refine tv_getr (pc := 105) (q := (16 + 2 * k.toNat)) C (sh_tm (k := k.toNat) (by omega)) rfl fl_X7_164 dX7_copy_105 ?_
                refine tv_iload_n (pc := 108) 4 C dX7_copy_108 rfl rfl ?_
                refine tv_aload (pc := 109) 0 C dX7_copy_109 rfl ?_
                refine tv_getr (pc := 111) (q := (16 + 2 * t.toNat)) C (sh_tm (k := t.toNat) (by omega)) rfl fl_X7_164 dX7_copy_111 ?_
                refine tv_iload (pc := 114) 6 C dX7_copy_114 rfl ?_
                refine tv_iload (pc := 116) 7 C dX7_copy_116 rfl ?_
                refine tv_acopy (pc := 118) (sp' := x.toNat) (dp' := y.toNat) (n' := n.toNat) C ac_X7_293 (sh_tm1 (k := k.toNat) (by omega)) (sh_tm1 (k := t.toNat) (by omega)) (by omega) rfl rfl rfl (Nat.le_of_ble_eq_true rfl) dX7_copy_118 ?_
                refine tv_iconst (pc := 121) C dX7_copy_121 ?_
                refine tv_iret (pc := 122) C dX7_copy_122 ?_
                refine ⟨_, rfl, by unfold cy_z; rw [if_pos (by omega), if_pos (by omega)], ?_, fun a ha => by rw [tm_cp_f (by omega)]⟩
                unfold cy_s
                rw [if_pos (by omega), if_pos (by omega)]
                refine cl_it hI t.toNat (by omega) (fun a ha => tm_cp_f ha) (fun a ha => tm_cp_f ha) (fun q j hj => ?_)
                unfold tm_cp
                simp only [if_true]
                split
                · exact ((hI.2.1.2.2.2.2 k.toNat (by omega)).1 (by omega)).2.2 _ (by omega)
                · exact ((hI.2.1.2.2.2.2 t.toNat (by omega)).1 q).2.2 j hj
              · skip
                refine tv_aload_n (pc := 97) 2 C dX7_copy_97 rfl rfl ?_
                refine tv_iconst (pc := 98) C dX7_copy_98 ?_
                refine tv_callV (pc := 99) [tm_i 2] [] C (c7_found E _ μ 2) cv_X7_159 rfl rfl (by decide) rfl (Nat.le_of_ble_eq_true rfl) rfl dX7_copy_99 (tm_ki ?_)
                rintro _ _ ⟨rfl, rfl⟩
                refine tv_iret (pc := 102) C dX7_copy_102 ?_
                have ecy : cy_l s k.toNat t.toNat x y n = 2 := by omega
                refine ⟨_, rfl, by unfold cy_z; rw [if_pos (by omega), if_neg (by omega), ecy], ?_, fun a ha => by rw [tm_uf (by omega)]⟩
                unfold cy_s
                rw [if_pos (by omega), if_neg (by omega), ecy]
                exact cl_fd hI _
          · skip
            refine tv_aload_n (pc := 68) 2 C dX7_copy_68 rfl rfl ?_
            refine tv_iconst (pc := 69) C dX7_copy_69 ?_
            refine tv_callV (pc := 70) [tm_i 4] [] C (c7_found E _ μ 4) cv_X7_159 rfl rfl (by decide) rfl (Nat.le_of_ble_eq_true rfl) rfl dX7_copy_70 (tm_ki ?_)
            rintro _ _ ⟨rfl, rfl⟩
            refine tv_iret (pc := 73) C dX7_copy_73 ?_
            have ecy : cy_l s k.toNat t.toNat x y n = 4 := by omega
            refine ⟨_, rfl, by unfold cy_z; rw [if_pos (by omega), if_neg (by omega), ecy], ?_, fun a ha => by rw [tm_uf (by omega)]⟩
            unfold cy_s
            rw [if_pos (by omega), if_neg (by omega), ecy]
            exact cl_fd hI _
        · skip
          refine tv_aload_n (pc := 49) 2 C dX7_copy_49 rfl rfl ?_
          refine tv_iconst (pc := 50) C dX7_copy_50 ?_
          refine tv_callV (pc := 51) [tm_i 1] [] C (c7_found E _ μ 1) cv_X7_159 rfl rfl (by decide) rfl (Nat.le_of_ble_eq_true rfl) rfl dX7_copy_51 (tm_ki ?_)
          rintro _ _ ⟨rfl, rfl⟩
          refine tv_iret (pc := 54) C dX7_copy_54 ?_
          have ecy : cy_l s k.toNat t.toNat x y n = 1 := by omega
          refine ⟨_, rfl, by unfold cy_z; rw [if_pos (by omega), if_neg (by omega), ecy], ?_, fun a ha => by rw [tm_uf (by omega)]⟩
          unfold cy_s
          rw [if_pos (by omega), if_neg (by omega), ecy]
          exact cl_fd hI _
    · skip
      refine tv_bipush (pc := 14) C dX7_copy_14 (by decide) ?_
      refine tv_iret (pc := 16) C dX7_copy_16 ?_
      exact ⟨_, rfl, by unfold cy_z; rw [if_neg (by omega)], by unfold cy_s; rw [if_neg (by omega)]; exact hI, fun a _ => rfl⟩
