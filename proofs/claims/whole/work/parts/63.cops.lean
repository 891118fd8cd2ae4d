theorem ty_z_0 {d : tm_M} {b : Int} (hb : 0 ≤ b ∧ b ≤ 255) : ty_z d 0 b = if 40 ≤ d 0 0 then -4 else d 0 0 + 1 := by unfold ty_z; rw [if_pos (by omega)]; rfl
theorem ty_d_0 {d : tm_M} {b : Int} (hb : 0 ≤ b ∧ b ≤ 255) : ty_d d 0 b = if 40 ≤ d 0 0 then d else tm_up (tm_up d 1 (d 0 0).toNat b) 0 0 (d 0 0 + 1) := by unfold ty_d; rw [if_pos (by omega)]; rfl
theorem wi_z_0 {d : tm_M}  : wi_z d 0 = d 0 0 := by unfold wi_z; rw [if_pos (by omega)]; rfl
theorem wi_d_0 {d : tm_M}  : wi_d d 0 = tm_up d 0 0 0 := by unfold wi_d; rw [if_pos (by omega)]; rfl
theorem un_z_0 {d : tm_M}  : un_z d 0 = if d 0 0 = 0 then -3 else d 0 0 - 1 := by unfold un_z; rw [if_pos (by omega)]; rfl
theorem un_d_0 {d : tm_M}  : un_d d 0 = if d 0 0 = 0 then d else tm_up d 0 0 (d 0 0 - 1) := by unfold un_d; rw [if_pos (by omega)]; rfl
theorem ba_z_0 {d : tm_M}  : ba_z d 0 = if d 3 0 = 0 then -3 else d 3 0 - 1 := by unfold ba_z; rw [if_pos (by omega)]; rfl
theorem ba_d_0 {d : tm_M}  : ba_d d 0 = if d 3 0 = 0 then d else tm_up d 3 0 (d 3 0 - 1) := by unfold ba_d; rw [if_pos (by omega)]; rfl
theorem ty_z_1 {d : tm_M} {b : Int} (hb : 0 ≤ b ∧ b ≤ 255) : ty_z d 1 b = if 47 ≤ d 0 1 then -4 else d 0 1 + 1 := by unfold ty_z; rw [if_pos (by omega)]; rfl
theorem ty_d_1 {d : tm_M} {b : Int} (hb : 0 ≤ b ∧ b ≤ 255) : ty_d d 1 b = if 47 ≤ d 0 1 then d else tm_up (tm_up d 2 (d 0 1).toNat b) 0 1 (d 0 1 + 1) := by unfold ty_d; rw [if_pos (by omega)]; rfl
theorem wi_z_1 {d : tm_M}  : wi_z d 1 = d 0 1 := by unfold wi_z; rw [if_pos (by omega)]; rfl
theorem wi_d_1 {d : tm_M}  : wi_d d 1 = tm_up d 0 1 0 := by unfold wi_d; rw [if_pos (by omega)]; rfl
theorem un_z_1 {d : tm_M}  : un_z d 1 = if d 0 1 = 0 then -3 else d 0 1 - 1 := by unfold un_z; rw [if_pos (by omega)]; rfl
theorem un_d_1 {d : tm_M}  : un_d d 1 = if d 0 1 = 0 then d else tm_up d 0 1 (d 0 1 - 1) := by unfold un_d; rw [if_pos (by omega)]; rfl
theorem ba_z_1 {d : tm_M}  : ba_z d 1 = if d 3 1 = 0 then -3 else d 3 1 - 1 := by unfold ba_z; rw [if_pos (by omega)]; rfl
theorem ba_d_1 {d : tm_M}  : ba_d d 1 = if d 3 1 = 0 then d else tm_up d 3 1 (d 3 1 - 1) := by unfold ba_d; rw [if_pos (by omega)]; rfl
theorem fa_z_0 {d : tm_M}  : fa_z d 0 = sp_tf (d 1) (d 0 0).toNat := by unfold fa_z; rw [if_pos (by omega)]; rfl
theorem fa_z_1 {d : tm_M}  : fa_z d 1 = sp_of (d 2) (d 0 1).toNat := by unfold fa_z; rw [if_pos (by omega)]; rfl
theorem c7_changed (E : tm_Ev) (l : Launch) (μ : tm_M)  : tm_Met E l yX7_changed cX7_changed 1 none 0 [.ref (E.2.1 0)] μ (tm_pv (fun μ' => μ' = tm_ch μ)) := by
  refine tm_intro [(0, .ref (E.2.1 0))] rfl (by decide +kernel) (Nat.le_of_ble_eq_true rfl) ?_
  intro X hX C
  subst hX
  refine tv_aload_n (pc := 0) 0 C dX7_changed_0 rfl rfl ?_
  refine tv_iconst (pc := 1) C dX7_changed_1 ?_
  refine tv_putz (pc := 2) C rfl rfl fp_X7_362 dX7_changed_2 (by omega) ?_
  refine tv_aload_n (pc := 5) 0 C dX7_changed_5 rfl rfl ?_
  refine tv_iconst (pc := 6) C dX7_changed_6 ?_
  refine tv_putz (pc := 7) C rfl rfl fp_X7_210 dX7_changed_7 (by omega) ?_
  refine tv_aload_n (pc := 10) 0 C dX7_changed_10 rfl rfl ?_
  refine tv_iconst (pc := 11) C dX7_changed_11 ?_
  refine tv_puti (pc := 12) C rfl rfl fp_X7_93 dX7_changed_12 ?_
  refine tv_vret (pc := 15) C dX7_changed_15 ?_
  exact ⟨rfl, rfl⟩
theorem c7_found (E : tm_Ev) (l : Launch) (μ : tm_M) (n : Int) : tm_Met E l yX7_found cX7_found 2 (some .int) 0 [.ref (E.2.1 0), tm_i n] μ (tm_pi (fun z μ' => z = -10 - n ∧ μ' = tm_up μ 0 6 n)) := by
  refine tm_intro [(0, .ref (E.2.1 0)), (1, tm_i n)] rfl (by decide +kernel) (Nat.le_of_ble_eq_true rfl) ?_
  intro X hX C
  subst hX
  refine tv_aload_n (pc := 0) 0 C dX7_found_0 rfl rfl ?_
  refine tv_iload_n (pc := 1) 1 C dX7_found_1 rfl rfl ?_
  refine tv_puti (pc := 2) C rfl rfl fp_X7_283 dX7_found_2 ?_
  refine tv_bipush (pc := 5) C dX7_found_5 (by decide) ?_
  refine tv_iload_n (pc := 7) 1 C dX7_found_7 rfl rfl ?_
  refine tv_isub (pc := 8) C dX7_found_8 ?_
  refine tv_iret (pc := 9) C dX7_found_9 ?_
  exact ⟨_, rfl, rfl, rfl⟩
theorem c7_more (E : tm_Ev) (l : Launch) (μ : tm_M) (k k1 n : Nat) (hk : tm_tm[k]? = some (0, 2, [some k1, none])) (hk1 : tm_tm[k1]? = some (1, n, [])) (hz : 0 ≤ μ k 1 ∧ μ k 1 ≤ n) (hne : k ≠ k1) (hk0 : k ≠ 0) (v : Int) : tm_Met E l yX7_more cX7_more 3 (some .int) 2 [.ref (E.2.1 0), .ref (E.2.1 k), tm_i v] μ (tm_pi (fun z μ' => (μ k 1 < n → z = μ k 1 + 1 ∧ μ' = tm_ch (tm_up (tm_up μ k1 (μ k 1).toNat v) k 1 (μ k 1 + 1))) ∧ ((n : Int) ≤ μ k 1 → z = -4 ∧ μ' = μ))) := by
  refine tm_intro [(0, .ref (E.2.1 0)), (1, .ref (E.2.1 k)), (2, tm_i v)] rfl (by decide +kernel) (Nat.le_of_ble_eq_true rfl) ?_
  intro X hX C
  subst hX
  have hn := tm_n hk1
  refine tv_aload_n (pc := 0) 1 C dX7_more_0 rfl rfl ?_
  refine tv_callV (pc := 1) [] [] C (c2_isFull E _ μ k k1 n hk hk1 (by omega)) cv_X7_167 hk rfl (by decide) rfl (Nat.le_of_ble_eq_true rfl) rfl dX7_more_1 (tm_kp ?_)
  refine tv_ifeqB (pc := 4) 10 C dX7_more_4 (by decide) (fun h4 => ?_) (fun h4 => ?_)
  · skip
    refine tv_aload_n (pc := 10) 1 C dX7_more_10 rfl rfl ?_
    refine tv_iload_n (pc := 11) 2 C dX7_more_11 rfl rfl ?_
    refine tv_callV (pc := 12) [tm_i v] [] C (c2_add E _ μ k k1 n hk hk1 (by omega) v hne) cv_X7_170 hk rfl (by decide) rfl (Nat.le_of_ble_eq_true rfl) rfl dX7_more_12 (tm_kv ?_)
    rintro μ9 ⟨ha, -⟩
    obtain rfl := ha (by omega)
    refine tv_aload_n (pc := 15) 0 C dX7_more_15 rfl rfl ?_
    refine tv_callV (pc := 16) [] [] C (c7_changed E _ (tm_up (tm_up μ k1 ((μ k 1).toNat) v) k 1 (μ k 1 + 1))) cv_X7_108 rfl rfl (by decide) rfl (Nat.le_of_ble_eq_true rfl) rfl dX7_more_16 (tm_kv ?_)
    rintro _ rfl
    refine tv_aload_n (pc := 19) 1 C dX7_more_19 rfl rfl ?_
    refine tv_geti (pc := 20) (z := μ k 1 + 1) C hk rfl fl_X7_105 dX7_more_20 ((tm_uk hk0).trans ((tm_uk hk0).trans ((tm_uk hk0).trans (tm_us)))) ?_
    refine tv_iret (pc := 23) C dX7_more_23 ?_
    refine ⟨_, rfl, ?_, ?_⟩ <;> intro hc <;> first | (exfalso; omega) | exact ⟨rfl, rfl⟩
  · skip
    refine tv_bipush (pc := 7) C dX7_more_7 (by decide) ?_
    refine tv_iret (pc := 9) C dX7_more_9 ?_
    refine ⟨_, rfl, ?_, ?_⟩ <;> intro hc <;> first | (exfalso; omega) | exact ⟨rfl, rfl⟩
theorem c7_less (E : tm_Ev) (l : Launch) (μ : tm_M) (k k1 n : Nat) (hk : tm_tm[k]? = some (0, 2, [some k1, none])) (hk1 : tm_tm[k1]? = some (1, n, [])) (hz : 0 ≤ μ k 1 ∧ μ k 1 ≤ n) (hne : k ≠ k1) (hk0 : k ≠ 0) : tm_Met E l yX7_less cX7_less 2 (some .int) 1 [.ref (E.2.1 0), .ref (E.2.1 k)] μ (tm_pi (fun z μ' => (¬ μ k 1 = 0 → z = μ k 1 - 1 ∧ μ' = tm_ch (tm_up μ k 1 (μ k 1 - 1))) ∧ (μ k 1 = 0 → z = -3 ∧ μ' = μ))) := by
  refine tm_intro [(0, .ref (E.2.1 0)), (1, .ref (E.2.1 k))] rfl (by decide +kernel) (Nat.le_of_ble_eq_true rfl) ?_
  intro X hX C
  subst hX
  have hn := tm_n hk1
  refine tv_aload_n (pc := 0) 1 C dX7_less_0 rfl rfl ?_
  refine tv_geti (pc := 1) (z := μ k 1) C hk rfl fl_X7_105 dX7_less_1 rfl ?_
  refine tv_if_ne (pc := 4) 10 C dX7_less_4 (by decide) (by omega) (fun h4 => ?_) (fun h4 => ?_)
  · skip
    refine tv_aload_n (pc := 10) 1 C dX7_less_10 rfl rfl ?_
    refine tv_dup (pc := 11) C dX7_less_11 rfl ?_
    refine tv_geti (pc := 12) (z := μ k 1) C hk rfl fl_X7_105 dX7_less_12 rfl ?_
    refine tv_iconst (pc := 15) C dX7_less_15 ?_
    refine tv_isub (pc := 16) C dX7_less_16 ?_
    refine tv_puti (pc := 17) C hk rfl fp_X7_105 dX7_less_17 ?_
    refine tv_aload_n (pc := 20) 0 C dX7_less_20 rfl rfl ?_
    refine tv_callV (pc := 21) [] [] C (c7_changed E _ (tm_up μ k 1 ((μ k 1) - 1))) cv_X7_108 rfl rfl (by decide) rfl (Nat.le_of_ble_eq_true rfl) rfl dX7_less_21 (tm_kv ?_)
    rintro _ rfl
    refine tv_aload_n (pc := 24) 1 C dX7_less_24 rfl rfl ?_
    refine tv_geti (pc := 25) (z := (μ k 1) - 1) C hk rfl fl_X7_105 dX7_less_25 ((tm_uk hk0).trans ((tm_uk hk0).trans ((tm_uk hk0).trans (tm_us)))) ?_
    refine tv_iret (pc := 28) C dX7_less_28 ?_
    refine ⟨_, rfl, ?_, ?_⟩ <;> intro hc <;> first | (exfalso; omega) | exact ⟨rfl, rfl⟩
  · skip
    refine tv_bipush (pc := 7) C dX7_less_7 (by decide) ?_
    refine tv_iret (pc := 9) C dX7_less_9 ?_
    refine ⟨_, rfl, ?_, ?_⟩ <;> intro hc <;> first | (exfalso; omega) | exact ⟨rfl, rfl⟩
theorem k7_type (E : tm_Ev) (l : Launch) (μ : tm_M) (d s : tm_M) (hd : dd_ok d) (hI : cl_I μ d s) (t b : Int) (ht : -2147483648 ≤ t ∧ t ≤ 2147483647) (hb : -2147483648 ≤ b ∧ b ≤ 2147483647) : tm_Met E l yX7_type cX7_type 3 (some .int) 3 [.ref (E.2.1 0), tm_i t, tm_i b] μ (tm_pi (fun z μ' => z = ty_z d t b ∧ cl_I μ' (ty_d d t b) s ∧ ∀ a, 74 ≤ a → μ' a = μ a)) := by
  refine tm_intro [(0, .ref (E.2.1 0)), (1, tm_i t), (2, tm_i b)] rfl (by decide +kernel) (Nat.le_of_ble_eq_true rfl) ?_
  intro X hX C
  subst hX
  have m1 := hI.1.1
  have m2 := hI.1.2.1
  have m5 := hI.1.2.2.2.2.1
  have m6 := hI.1.2.2.2.2.2.1
  have z1 := hd.1
  have z2 := hd.2.1
  have z3 := hd.2.2.2.2.1
  have z4 := hd.2.2.2.2.2.1
  refine tv_iload_n (pc := 0) 1 C dX7_type_0 rfl rfl ?_
  refine tv_iconst (pc := 1) C dX7_type_1 ?_
  refine tv_iconst (pc := 2) C dX7_type_2 ?_
  refine tv_callS (pc := 3) [tm_i t, tm_i 0, tm_i 1] [] C (c7_within E _ μ t 0 1 (by omega) (by omega) (by omega)) cs_X7_97 (by decide) rfl (Nat.le_of_ble_eq_true rfl) rfl dX7_type_3 (tm_kp ?_)
  refine tv_ifeqB (pc := 6) 20 C dX7_type_6 (by decide) (fun h6 => ?_) (fun h6 => ?_)
  · skip
    refine tv_bipush (pc := 20) C dX7_type_20 (by decide) ?_
    refine tv_iret (pc := 22) C dX7_type_22 ?_
    exact ⟨_, rfl, by unfold ty_z; rw [if_neg (by omega)], by unfold ty_d; rw [if_neg (by omega)]; exact hI, fun a _ => rfl⟩
  · skip
    refine tv_iload_n (pc := 9) 2 C dX7_type_9 rfl rfl ?_
    refine tv_iconst (pc := 10) C dX7_type_10 ?_
    refine tv_sipush (pc := 11) C dX7_type_11 (by decide) ?_
    refine tv_callS (pc := 14) [tm_i b, tm_i 0, tm_i 255] [] C (c7_within E _ μ b 0 255 (by omega) (by omega) (by omega)) cs_X7_97 (by decide) rfl (Nat.le_of_ble_eq_true rfl) rfl dX7_type_14 (tm_kp ?_)
    refine tv_ifneB (pc := 17) 23 C dX7_type_17 (by decide) (fun h17 => ?_) (fun h17 => ?_)
    · skip
      rcases (show t = 0 ∨ t = 1 by omega) with rfl | rfl
      · skip
        refine tv_aload_n (pc := 23) 0 C dX7_type_23 rfl rfl ?_
        refine tv_aload_n (pc := 24) 0 C dX7_type_24 rfl rfl ?_
        refine tv_getr (pc := 25) (q := 1) C rfl rfl fl_X7_14 dX7_type_25 ?_
        refine tv_iload_n (pc := 28) 1 C dX7_type_28 rfl rfl ?_
        refine tv_aald (pc := 29) (q := 2) (j := 0) RX2 C rfl rfl dX7_type_29 (by omega) rfl rfl ?_
        refine tv_iload_n (pc := 30) 2 C dX7_type_30 rfl rfl ?_
        refine tv_callV (pc := 31) [.ref (E.2.1 2), tm_i b] [] C (c7_more E _ μ 2 3 40 rfl rfl (by omega) (by decide) (by decide) b) cv_X7_101 rfl rfl (by decide) rfl (Nat.le_of_ble_eq_true rfl) rfl dX7_type_31 (tm_ki ?_)
        rintro zz μ9 ⟨hA, hB⟩
        rw [hI.1.1] at hA hB
        rcases (show d 0 0 < 40 ∨ 40 ≤ d 0 0 by omega) with hc | hc
        · skip
          obtain ⟨rfl, rfl⟩ := hA hc
          refine tv_iret (pc := 34) C dX7_type_34 ?_
          refine ⟨_, rfl, by rw [ty_z_0 (by omega), if_neg (by omega)], ?_, fun a ha => by rw [tm_ch_f (by omega), tm_uf (by omega), tm_uf (by omega)]⟩
          rw [ty_d_0 (by omega), if_neg (by omega)]
          exact cl_push0 hI hd b
        · skip
          obtain ⟨hz9, h9⟩ := hB hc
          subst hz9
          have h9 := h9.symm
          subst h9
          refine tv_iret (pc := 34) C dX7_type_34 ?_
          exact ⟨_, rfl, by rw [ty_z_0 (by omega), if_pos (by omega)], by rw [ty_d_0 (by omega), if_pos (by omega)]; exact hI, fun a _ => rfl⟩
      · skip
        refine tv_aload_n (pc := 23) 0 C dX7_type_23 rfl rfl ?_
        refine tv_aload_n (pc := 24) 0 C dX7_type_24 rfl rfl ?_
        refine tv_getr (pc := 25) (q := 1) C rfl rfl fl_X7_14 dX7_type_25 ?_
        refine tv_iload_n (pc := 28) 1 C dX7_type_28 rfl rfl ?_
        refine tv_aald (pc := 29) (q := 4) (j := 1) RX2 C rfl rfl dX7_type_29 (by omega) rfl rfl ?_
        refine tv_iload_n (pc := 30) 2 C dX7_type_30 rfl rfl ?_
        refine tv_callV (pc := 31) [.ref (E.2.1 4), tm_i b] [] C (c7_more E _ μ 4 5 47 rfl rfl (by omega) (by decide) (by decide) b) cv_X7_101 rfl rfl (by decide) rfl (Nat.le_of_ble_eq_true rfl) rfl dX7_type_31 (tm_ki ?_)
        rintro zz μ9 ⟨hA, hB⟩
        rw [hI.1.2.1] at hA hB
        rcases (show d 0 1 < 47 ∨ 47 ≤ d 0 1 by omega) with hc | hc
        · skip
          obtain ⟨rfl, rfl⟩ := hA hc
          refine tv_iret (pc := 34) C dX7_type_34 ?_
          refine ⟨_, rfl, by rw [ty_z_1 (by omega), if_neg (by omega)], ?_, fun a ha => by rw [tm_ch_f (by omega), tm_uf (by omega), tm_uf (by omega)]⟩
          rw [ty_d_1 (by omega), if_neg (by omega)]
          exact cl_push1 hI hd b
        · skip
          obtain ⟨hz9, h9⟩ := hB hc
          subst hz9
          have h9 := h9.symm
          subst h9
          refine tv_iret (pc := 34) C dX7_type_34 ?_
          exact ⟨_, rfl, by rw [ty_z_1 (by omega), if_pos (by omega)], by rw [ty_d_1 (by omega), if_pos (by omega)]; exact hI, fun a _ => rfl⟩
    · skip
      refine tv_bipush (pc := 20) C dX7_type_20 (by decide) ?_
      refine tv_iret (pc := 22) C dX7_type_22 ?_
      exact ⟨_, rfl, by unfold ty_z; rw [if_neg (by omega)], by unfold ty_d; rw [if_neg (by omega)]; exact hI, fun a _ => rfl⟩
theorem k7_wipe (E : tm_Ev) (l : Launch) (μ : tm_M) (d s : tm_M) (hd : dd_ok d) (hI : cl_I μ d s) (t : Int) (ht : -2147483648 ≤ t ∧ t ≤ 2147483647) : tm_Met E l yX7_wipe cX7_wipe 3 (some .int) 1 [.ref (E.2.1 0), tm_i t] μ (tm_pi (fun z μ' => z = wi_z d t ∧ cl_I μ' (wi_d d t) s ∧ ∀ a, 74 ≤ a → μ' a = μ a)) := by
  refine tm_intro [(0, .ref (E.2.1 0)), (1, tm_i t)] rfl (by decide +kernel) (Nat.le_of_ble_eq_true rfl) ?_
  intro X hX C
  subst hX
  have m1 := hI.1.1
  have m2 := hI.1.2.1
  have m5 := hI.1.2.2.2.2.1
  have m6 := hI.1.2.2.2.2.2.1
  have z1 := hd.1
  have z2 := hd.2.1
  have z3 := hd.2.2.2.2.1
  have z4 := hd.2.2.2.2.2.1
  refine tv_iload_n (pc := 0) 1 C dX7_wipe_0 rfl rfl ?_
  refine tv_iconst (pc := 1) C dX7_wipe_1 ?_
  refine tv_iconst (pc := 2) C dX7_wipe_2 ?_
  refine tv_callS (pc := 3) [tm_i t, tm_i 0, tm_i 1] [] C (c7_within E _ μ t 0 1 (by omega) (by omega) (by omega)) cs_X7_97 (by decide) rfl (Nat.le_of_ble_eq_true rfl) rfl dX7_wipe_3 (tm_kp ?_)
  refine tv_ifneB (pc := 6) 12 C dX7_wipe_6 (by decide) (fun h6 => ?_) (fun h6 => ?_)
  · skip
    rcases (show t = 0 ∨ t = 1 by omega) with rfl | rfl
    · skip
      refine tv_aload_n (pc := 12) 0 C dX7_wipe_12 rfl rfl ?_
      refine tv_getr (pc := 13) (q := 1) C rfl rfl fl_X7_14 dX7_wipe_13 ?_
      refine tv_iload_n (pc := 16) 1 C dX7_wipe_16 rfl rfl ?_
      refine tv_aald (pc := 17) (q := 2) (j := 0) RX2 C rfl rfl dX7_wipe_17 (by omega) rfl rfl ?_
      refine tv_geti (pc := 18) (z := d 0 0) C rfl rfl fl_X7_105 dX7_wipe_18 m1 ?_
      refine tv_istore_n (pc := 21) [(2, tm_i (d 0 0)), (0, .ref (E.2.1 0)), (1, tm_i 0)] C dX7_wipe_21 rfl (by decide) rfl ?_
      refine tv_aload_n (pc := 22) 1 C dX7_wipe_22 rfl rfl ?_
      refine tv_getr (pc := 23) (q := 1) C rfl rfl fl_X7_14 dX7_wipe_23 ?_
      refine tv_iload_n (pc := 26) 2 C dX7_wipe_26 rfl rfl ?_
      refine tv_aald (pc := 27) (q := 2) (j := 0) RX2 C rfl rfl dX7_wipe_27 (by omega) rfl rfl ?_
      refine tv_iconst (pc := 28) C dX7_wipe_28 ?_
      refine tv_puti (pc := 29) C rfl rfl fp_X7_105 dX7_wipe_29 ?_
      refine tv_aload_n (pc := 32) 1 C dX7_wipe_32 rfl rfl ?_
      refine tv_callV (pc := 33) [] [] C (c7_changed E _ (tm_up μ 2 1 0)) cv_X7_108 rfl rfl (by decide) rfl (Nat.le_of_ble_eq_true rfl) rfl dX7_wipe_33 (tm_kv ?_)
      rintro _ rfl
      refine tv_iload_n (pc := 36) 0 C dX7_wipe_36 rfl rfl ?_
      refine tv_iret (pc := 37) C dX7_wipe_37 ?_
      refine ⟨_, rfl, by rw [wi_z_0], ?_, fun a ha => by rw [tm_ch_f (by omega), tm_uf (by omega)]⟩
      rw [wi_d_0]
      exact cl_size0 hI hd 0 (by omega)
    · skip
      refine tv_aload_n (pc := 12) 0 C dX7_wipe_12 rfl rfl ?_
      refine tv_getr (pc := 13) (q := 1) C rfl rfl fl_X7_14 dX7_wipe_13 ?_
      refine tv_iload_n (pc := 16) 1 C dX7_wipe_16 rfl rfl ?_
      refine tv_aald (pc := 17) (q := 4) (j := 1) RX2 C rfl rfl dX7_wipe_17 (by omega) rfl rfl ?_
      refine tv_geti (pc := 18) (z := d 0 1) C rfl rfl fl_X7_105 dX7_wipe_18 m2 ?_
      refine tv_istore_n (pc := 21) [(2, tm_i (d 0 1)), (0, .ref (E.2.1 0)), (1, tm_i 1)] C dX7_wipe_21 rfl (by decide) rfl ?_
      refine tv_aload_n (pc := 22) 1 C dX7_wipe_22 rfl rfl ?_
      refine tv_getr (pc := 23) (q := 1) C rfl rfl fl_X7_14 dX7_wipe_23 ?_
      refine tv_iload_n (pc := 26) 2 C dX7_wipe_26 rfl rfl ?_
      refine tv_aald (pc := 27) (q := 4) (j := 1) RX2 C rfl rfl dX7_wipe_27 (by omega) rfl rfl ?_
      refine tv_iconst (pc := 28) C dX7_wipe_28 ?_
      refine tv_puti (pc := 29) C rfl rfl fp_X7_105 dX7_wipe_29 ?_
      refine tv_aload_n (pc := 32) 1 C dX7_wipe_32 rfl rfl ?_
      refine tv_callV (pc := 33) [] [] C (c7_changed E _ (tm_up μ 4 1 0)) cv_X7_108 rfl rfl (by decide) rfl (Nat.le_of_ble_eq_true rfl) rfl dX7_wipe_33 (tm_kv ?_)
      rintro _ rfl
      refine tv_iload_n (pc := 36) 0 C dX7_wipe_36 rfl rfl ?_
      refine tv_iret (pc := 37) C dX7_wipe_37 ?_
      refine ⟨_, rfl, by rw [wi_z_1], ?_, fun a ha => by rw [tm_ch_f (by omega), tm_uf (by omega)]⟩
      rw [wi_d_1]
      exact cl_size1 hI hd 0 (by omega)
  · skip
    refine tv_bipush (pc := 9) C dX7_wipe_9 (by decide) ?_
    refine tv_iret (pc := 11) C dX7_wipe_11 ?_
    exact ⟨_, rfl, by unfold wi_z; rw [if_neg (by omega)], by unfold wi_d; rw [if_neg (by omega)]; exact hI, fun a _ => rfl⟩
theorem k7_undo (E : tm_Ev) (l : Launch) (μ : tm_M) (d s : tm_M) (hd : dd_ok d) (hI : cl_I μ d s) (t : Int) (ht : -2147483648 ≤ t ∧ t ≤ 2147483647) : tm_Met E l yX7_undo cX7_undo 2 (some .int) 2 [.ref (E.2.1 0), tm_i t] μ (tm_pi (fun z μ' => z = un_z d t ∧ cl_I μ' (un_d d t) s ∧ ∀ a, 74 ≤ a → μ' a = μ a)) := by
  refine tm_intro [(0, .ref (E.2.1 0)), (1, tm_i t)] rfl (by decide +kernel) (Nat.le_of_ble_eq_true rfl) ?_
  intro X hX C
  subst hX
  have m1 := hI.1.1
  have m2 := hI.1.2.1
  have m5 := hI.1.2.2.2.2.1
  have m6 := hI.1.2.2.2.2.2.1
  have z1 := hd.1
  have z2 := hd.2.1
  have z3 := hd.2.2.2.2.1
  have z4 := hd.2.2.2.2.2.1
  refine tv_iload_n (pc := 0) 1 C dX7_undo_0 rfl rfl ?_
  refine tv_iconst (pc := 1) C dX7_undo_1 ?_
  refine tv_iconst (pc := 2) C dX7_undo_2 ?_
  refine tv_callS (pc := 3) [tm_i t, tm_i 0, tm_i 1] [] C (c7_within E _ μ t 0 1 (by omega) (by omega) (by omega)) cs_X7_97 (by decide) rfl (Nat.le_of_ble_eq_true rfl) rfl dX7_undo_3 (tm_kp ?_)
  refine tv_ifneB (pc := 6) 12 C dX7_undo_6 (by decide) (fun h6 => ?_) (fun h6 => ?_)
  · skip
    rcases (show t = 0 ∨ t = 1 by omega) with rfl | rfl
    · skip
      refine tv_aload_n (pc := 12) 0 C dX7_undo_12 rfl rfl ?_
      refine tv_aload_n (pc := 13) 0 C dX7_undo_13 rfl rfl ?_
      refine tv_getr (pc := 14) (q := 1) C rfl rfl fl_X7_14 dX7_undo_14 ?_
      refine tv_iload_n (pc := 17) 1 C dX7_undo_17 rfl rfl ?_
      refine tv_aald (pc := 18) (q := 2) (j := 0) RX2 C rfl rfl dX7_undo_18 (by omega) rfl rfl ?_
      refine tv_callV (pc := 19) [.ref (E.2.1 2)] [] C (c7_less E _ μ 2 3 40 rfl rfl (by omega) (by decide) (by decide)) cv_X7_111 rfl rfl (by decide) rfl (Nat.le_of_ble_eq_true rfl) rfl dX7_undo_19 (tm_ki ?_)
      rintro zz μ9 ⟨hA, hB⟩
      rw [hI.1.1] at hA hB
      rcases (show ¬ d 0 0 = 0 ∨ d 0 0 = 0 by omega) with hc | hc
      · skip
        obtain ⟨rfl, rfl⟩ := hA hc
        refine tv_iret (pc := 22) C dX7_undo_22 ?_
        refine ⟨_, rfl, by rw [un_z_0, if_neg hc], ?_, fun a ha => by rw [tm_ch_f (by omega), tm_uf (by omega)]⟩
        rw [un_d_0, if_neg hc]
        exact cl_size0 hI hd _ (by omega)
      · skip
        obtain ⟨hz9, h9⟩ := hB hc
        subst hz9
        have h9 := h9.symm
        subst h9
        refine tv_iret (pc := 22) C dX7_undo_22 ?_
        exact ⟨_, rfl, by rw [un_z_0, if_pos hc], by rw [un_d_0, if_pos hc]; exact hI, fun a _ => rfl⟩
    · skip
      refine tv_aload_n (pc := 12) 0 C dX7_undo_12 rfl rfl ?_
      refine tv_aload_n (pc := 13) 0 C dX7_undo_13 rfl rfl ?_
      refine tv_getr (pc := 14) (q := 1) C rfl rfl fl_X7_14 dX7_undo_14 ?_
      refine tv_iload_n (pc := 17) 1 C dX7_undo_17 rfl rfl ?_
      refine tv_aald (pc := 18) (q := 4) (j := 1) RX2 C rfl rfl dX7_undo_18 (by omega) rfl rfl ?_
      refine tv_callV (pc := 19) [.ref (E.2.1 4)] [] C (c7_less E _ μ 4 5 47 rfl rfl (by omega) (by decide) (by decide)) cv_X7_111 rfl rfl (by decide) rfl (Nat.le_of_ble_eq_true rfl) rfl dX7_undo_19 (tm_ki ?_)
      rintro zz μ9 ⟨hA, hB⟩
      rw [hI.1.2.1] at hA hB
      rcases (show ¬ d 0 1 = 0 ∨ d 0 1 = 0 by omega) with hc | hc
      · skip
        obtain ⟨rfl, rfl⟩ := hA hc
        refine tv_iret (pc := 22) C dX7_undo_22 ?_
        refine ⟨_, rfl, by rw [un_z_1, if_neg hc], ?_, fun a ha => by rw [tm_ch_f (by omega), tm_uf (by omega)]⟩
        rw [un_d_1, if_neg hc]
        exact cl_size1 hI hd _ (by omega)
      · skip
        obtain ⟨hz9, h9⟩ := hB hc
        subst hz9
        have h9 := h9.symm
        subst h9
        refine tv_iret (pc := 22) C dX7_undo_22 ?_
        exact ⟨_, rfl, by rw [un_z_1, if_pos hc], by rw [un_d_1, if_pos hc]; exact hI, fun a _ => rfl⟩
  · skip
    refine tv_bipush (pc := 9) C dX7_undo_9 (by decide) ?_
    refine tv_iret (pc := 11) C dX7_undo_11 ?_
    exact ⟨_, rfl, by unfold un_z; rw [if_neg (by omega)], by unfold un_d; rw [if_neg (by omega)]; exact hI, fun a _ => rfl⟩
theorem k7_back (E : tm_Ev) (l : Launch) (μ : tm_M) (d s : tm_M) (hd : dd_ok d) (hI : cl_I μ d s) (t : Int) (ht : -2147483648 ≤ t ∧ t ≤ 2147483647) : tm_Met E l yX7_back cX7_back 2 (some .int) 2 [.ref (E.2.1 0), tm_i t] μ (tm_pi (fun z μ' => z = ba_z d t ∧ cl_I μ' (ba_d d t) s ∧ ∀ a, 74 ≤ a → μ' a = μ a)) := by
  refine tm_intro [(0, .ref (E.2.1 0)), (1, tm_i t)] rfl (by decide +kernel) (Nat.le_of_ble_eq_true rfl) ?_
  intro X hX C
  subst hX
  have m1 := hI.1.1
  have m2 := hI.1.2.1
  have m5 := hI.1.2.2.2.2.1
  have m6 := hI.1.2.2.2.2.2.1
  have z1 := hd.1
  have z2 := hd.2.1
  have z3 := hd.2.2.2.2.1
  have z4 := hd.2.2.2.2.2.1
  refine tv_iload_n (pc := 0) 1 C dX7_back_0 rfl rfl ?_
  refine tv_iconst (pc := 1) C dX7_back_1 ?_
  refine tv_iconst (pc := 2) C dX7_back_2 ?_
  refine tv_callS (pc := 3) [tm_i t, tm_i 0, tm_i 1] [] C (c7_within E _ μ t 0 1 (by omega) (by omega) (by omega)) cs_X7_97 (by decide) rfl (Nat.le_of_ble_eq_true rfl) rfl dX7_back_3 (tm_kp ?_)
  refine tv_ifneB (pc := 6) 12 C dX7_back_6 (by decide) (fun h6 => ?_) (fun h6 => ?_)
  · skip
    rcases (show t = 0 ∨ t = 1 by omega) with rfl | rfl
    · skip
      refine tv_aload_n (pc := 12) 0 C dX7_back_12 rfl rfl ?_
      refine tv_iload_n (pc := 13) 1 C dX7_back_13 rfl rfl ?_
      refine tv_if_ne (pc := 14) 24 C dX7_back_14 (by decide) (by omega) (fun q => absurd q (by decide)) (fun _ => ?_)
      refine tv_aload_n (pc := 17) 0 C dX7_back_17 rfl rfl ?_
      refine tv_getr (pc := 18) (q := 6) C rfl rfl fl_X7_18 dX7_back_18 ?_
      refine tv_goto (pc := 21) 28 C dX7_back_21 (by decide) ?_
      refine tv_callV (pc := 28) [.ref (E.2.1 6)] [] C (c7_less E _ μ 6 7 6 rfl rfl (by omega) (by decide) (by decide)) cv_X7_111 rfl rfl (by decide) rfl (Nat.le_of_ble_eq_true rfl) rfl dX7_back_28 (tm_ki ?_)
      rintro zz μ9 ⟨hA, hB⟩
      rw [hI.1.2.2.2.2.1] at hA hB
      rcases (show ¬ d 3 0 = 0 ∨ d 3 0 = 0 by omega) with hc | hc
      · skip
        obtain ⟨rfl, rfl⟩ := hA hc
        refine tv_iret (pc := 31) C dX7_back_31 ?_
        refine ⟨_, rfl, by rw [ba_z_0, if_neg hc], ?_, fun a ha => by rw [tm_ch_f (by omega), tm_uf (by omega)]⟩
        rw [ba_d_0, if_neg hc]
        exact cl_size2 hI hd _ (by omega)
      · skip
        obtain ⟨hz9, h9⟩ := hB hc
        subst hz9
        have h9 := h9.symm
        subst h9
        refine tv_iret (pc := 31) C dX7_back_31 ?_
        exact ⟨_, rfl, by rw [ba_z_0, if_pos hc], by rw [ba_d_0, if_pos hc]; exact hI, fun a _ => rfl⟩
    · skip
      refine tv_aload_n (pc := 12) 0 C dX7_back_12 rfl rfl ?_
      refine tv_iload_n (pc := 13) 1 C dX7_back_13 rfl rfl ?_
      refine tv_if_ne (pc := 14) 24 C dX7_back_14 (by decide) (by omega) (fun _ => ?_) (fun q => absurd q (by decide))
      refine tv_aload_n (pc := 24) 0 C dX7_back_24 rfl rfl ?_
      refine tv_getr (pc := 25) (q := 8) C rfl rfl fl_X7_22 dX7_back_25 ?_
      refine tv_callV (pc := 28) [.ref (E.2.1 8)] [] C (c7_less E _ μ 8 9 6 rfl rfl (by omega) (by decide) (by decide)) cv_X7_111 rfl rfl (by decide) rfl (Nat.le_of_ble_eq_true rfl) rfl dX7_back_28 (tm_ki ?_)
      rintro zz μ9 ⟨hA, hB⟩
      rw [hI.1.2.2.2.2.2.1] at hA hB
      rcases (show ¬ d 3 1 = 0 ∨ d 3 1 = 0 by omega) with hc | hc
      · skip
        obtain ⟨rfl, rfl⟩ := hA hc
        refine tv_iret (pc := 31) C dX7_back_31 ?_
        refine ⟨_, rfl, by rw [ba_z_1, if_neg hc], ?_, fun a ha => by rw [tm_ch_f (by omega), tm_uf (by omega)]⟩
        rw [ba_d_1, if_neg hc]
        exact cl_size3 hI hd _ (by omega)
      · skip
        obtain ⟨hz9, h9⟩ := hB hc
        subst hz9
        have h9 := h9.symm
        subst h9
        refine tv_iret (pc := 31) C dX7_back_31 ?_
        exact ⟨_, rfl, by rw [ba_z_1, if_pos hc], by rw [ba_d_1, if_pos hc]; exact hI, fun a _ => rfl⟩
  · skip
    refine tv_bipush (pc := 9) C dX7_back_9 (by decide) ?_
    refine tv_iret (pc := 11) C dX7_back_11 ?_
    exact ⟨_, rfl, by unfold ba_z; rw [if_neg (by omega)], by unfold ba_d; rw [if_neg (by omega)]; exact hI, fun a _ => rfl⟩
theorem k7_rain (E : tm_Ev) (l : Launch) (μ : tm_M) (d s : tm_M) (hd : dd_ok d) (hI : cl_I μ d s) (t : Int) (ht : -2147483648 ≤ t ∧ t ≤ 2147483647) : tm_Met E l yX7_rain cX7_rain 2 (some .int) 3 [.ref (E.2.1 0), tm_i t] μ (tm_pi (fun z μ' => z = ra_z d 0 t ∧ cl_I μ' (ra_d d 0 t) s ∧ ∀ a, 74 ≤ a → μ' a = μ a)) := by
  refine tm_intro [(0, .ref (E.2.1 0)), (1, tm_i t)] rfl (by decide +kernel) (Nat.le_of_ble_eq_true rfl) ?_
  intro X hX C
  subst hX
  have m1 := hI.1.1
  have m2 := hI.1.2.1
  have m5 := hI.1.2.2.2.2.1
  have m6 := hI.1.2.2.2.2.2.1
  have z1 := hd.1
  have z2 := hd.2.1
  have z3 := hd.2.2.2.2.1
  have z4 := hd.2.2.2.2.2.1
  refine tv_iload_n (pc := 0) 1 C dX7_rain_0 rfl rfl ?_
  refine tv_callS (pc := 1) [tm_i t] [] C (c7_isHour E _ μ t (by omega)) cs_X7_121 (by decide) rfl (Nat.le_of_ble_eq_true rfl) rfl dX7_rain_1 (tm_kp ?_)
  refine tv_ifeqB (pc := 4) 19 C dX7_rain_4 (by decide) (fun h4 => ?_) (fun h4 => ?_)
  · skip
    refine tv_bipush (pc := 19) C dX7_rain_19 (by decide) ?_
    refine tv_iret (pc := 21) C dX7_rain_21 ?_
    exact ⟨_, rfl, by unfold ra_z; rw [if_neg (by omega)], by unfold ra_d; rw [if_neg (by omega)]; exact hI, fun a _ => rfl⟩
  · skip
    refine tv_aload_n (pc := 7) 0 C dX7_rain_7 rfl rfl ?_
    refine tv_aload_n (pc := 8) 0 C dX7_rain_8 rfl rfl ?_
    refine tv_getr (pc := 9) (q := 6) C rfl rfl fl_X7_18 dX7_rain_9 ?_
    refine tv_iload_n (pc := 12) 1 C dX7_rain_12 rfl rfl ?_
    refine tv_callV (pc := 13) [.ref (E.2.1 6), tm_i t] [] C (c7_more E _ μ 6 7 6 rfl rfl (by omega) (by decide) (by decide) t) cv_X7_101 rfl rfl (by decide) rfl (Nat.le_of_ble_eq_true rfl) rfl dX7_rain_13 (tm_ki ?_)
    rintro zz μ9 ⟨hA, hB⟩
    rw [hI.1.2.2.2.2.1] at hA hB
    rcases (show d 3 0 < 6 ∨ 6 ≤ d 3 0 by omega) with hc | hc
    · skip
      obtain ⟨rfl, rfl⟩ := hA hc
      refine tv_goto (pc := 16) 21 C dX7_rain_16 (by decide) ?_
      refine tv_iret (pc := 21) C dX7_rain_21 ?_
      refine ⟨_, rfl, by unfold ra_z; rw [if_pos (by omega), if_neg (by omega)], ?_, fun a ha => by rw [tm_ch_f (by omega), tm_uf (by omega), tm_uf (by omega)]⟩
      unfold ra_d
      rw [if_pos (by omega), if_neg (by omega)]
      exact cl_push2 hI hd t
    · skip
      obtain ⟨hz9, h9⟩ := hB hc
      subst hz9
      have h9 := h9.symm
      subst h9
      refine tv_goto (pc := 16) 21 C dX7_rain_16 (by decide) ?_
      refine tv_iret (pc := 21) C dX7_rain_21 ?_
      exact ⟨_, rfl, by unfold ra_z; rw [if_pos (by omega), if_pos (by omega)], by unfold ra_d; rw [if_pos (by omega), if_pos (by omega)]; exact hI, fun a _ => rfl⟩
theorem k7_dressing (E : tm_Ev) (l : Launch) (μ : tm_M) (d s : tm_M) (hd : dd_ok d) (hI : cl_I μ d s) (t : Int) (ht : -2147483648 ≤ t ∧ t ≤ 2147483647) : tm_Met E l yX7_dressing cX7_dressing 2 (some .int) 3 [.ref (E.2.1 0), tm_i t] μ (tm_pi (fun z μ' => z = ra_z d 1 t ∧ cl_I μ' (ra_d d 1 t) s ∧ ∀ a, 74 ≤ a → μ' a = μ a)) := by
  refine tm_intro [(0, .ref (E.2.1 0)), (1, tm_i t)] rfl (by decide +kernel) (Nat.le_of_ble_eq_true rfl) ?_
  intro X hX C
  subst hX
  have m1 := hI.1.1
  have m2 := hI.1.2.1
  have m5 := hI.1.2.2.2.2.1
  have m6 := hI.1.2.2.2.2.2.1
  have z1 := hd.1
  have z2 := hd.2.1
  have z3 := hd.2.2.2.2.1
  have z4 := hd.2.2.2.2.2.1
  refine tv_iload_n (pc := 0) 1 C dX7_dressing_0 rfl rfl ?_
  refine tv_callS (pc := 1) [tm_i t] [] C (c7_isHour E _ μ t (by omega)) cs_X7_121 (by decide) rfl (Nat.le_of_ble_eq_true rfl) rfl dX7_dressing_1 (tm_kp ?_)
  refine tv_ifeqB (pc := 4) 19 C dX7_dressing_4 (by decide) (fun h4 => ?_) (fun h4 => ?_)
  · skip
    refine tv_bipush (pc := 19) C dX7_dressing_19 (by decide) ?_
    refine tv_iret (pc := 21) C dX7_dressing_21 ?_
    exact ⟨_, rfl, by unfold ra_z; rw [if_neg (by omega)], by unfold ra_d; rw [if_neg (by omega)]; exact hI, fun a _ => rfl⟩
  · skip
    refine tv_aload_n (pc := 7) 0 C dX7_dressing_7 rfl rfl ?_
    refine tv_aload_n (pc := 8) 0 C dX7_dressing_8 rfl rfl ?_
    refine tv_getr (pc := 9) (q := 8) C rfl rfl fl_X7_22 dX7_dressing_9 ?_
    refine tv_iload_n (pc := 12) 1 C dX7_dressing_12 rfl rfl ?_
    refine tv_callV (pc := 13) [.ref (E.2.1 8), tm_i t] [] C (c7_more E _ μ 8 9 6 rfl rfl (by omega) (by decide) (by decide) t) cv_X7_101 rfl rfl (by decide) rfl (Nat.le_of_ble_eq_true rfl) rfl dX7_dressing_13 (tm_ki ?_)
    rintro zz μ9 ⟨hA, hB⟩
    rw [hI.1.2.2.2.2.2.1] at hA hB
    rcases (show d 3 1 < 6 ∨ 6 ≤ d 3 1 by omega) with hc | hc
    · skip
      obtain ⟨rfl, rfl⟩ := hA hc
      refine tv_goto (pc := 16) 21 C dX7_dressing_16 (by decide) ?_
      refine tv_iret (pc := 21) C dX7_dressing_21 ?_
      refine ⟨_, rfl, by unfold ra_z; rw [if_pos (by omega), if_neg (by omega)], ?_, fun a ha => by rw [tm_ch_f (by omega), tm_uf (by omega), tm_uf (by omega)]⟩
      unfold ra_d
      rw [if_pos (by omega), if_neg (by omega)]
      exact cl_push3 hI hd t
    · skip
      obtain ⟨hz9, h9⟩ := hB hc
      subst hz9
      have h9 := h9.symm
      subst h9
      refine tv_goto (pc := 16) 21 C dX7_dressing_16 (by decide) ?_
      refine tv_iret (pc := 21) C dX7_dressing_21 ?_
      exact ⟨_, rfl, by unfold ra_z; rw [if_pos (by omega), if_pos (by omega)], by unfold ra_d; rw [if_pos (by omega), if_pos (by omega)]; exact hI, fun a _ => rfl⟩
theorem k7_set (E : tm_Ev) (l : Launch) (μ : tm_M) (d s : tm_M) (hd : dd_ok d) (hI : cl_I μ d s) (t v : Int) (ht : -2147483648 ≤ t ∧ t ≤ 2147483647) (hv : -2147483648 ≤ v ∧ v ≤ 2147483647) : tm_Met E l yX7_set cX7_set 4 (some .int) 1 [.ref (E.2.1 0), tm_i t, tm_i v] μ (tm_pi (fun z μ' => z = se_z d t v ∧ cl_I μ' (se_d d t v) s ∧ ∀ a, 74 ≤ a → μ' a = μ a)) := by
  refine tm_intro [(0, .ref (E.2.1 0)), (1, tm_i t), (2, tm_i v)] rfl (by decide +kernel) (Nat.le_of_ble_eq_true rfl) ?_
  intro X hX C
  subst hX
  have m1 := hI.1.1
  have m2 := hI.1.2.1
  have m5 := hI.1.2.2.2.2.1
  have m6 := hI.1.2.2.2.2.2.1
  have z1 := hd.1
  have z2 := hd.2.1
  have z3 := hd.2.2.2.2.1
  have z4 := hd.2.2.2.2.2.1
  have hlo : 0 ≤ se_lo t ∧ se_lo t ≤ 1 := by unfold se_lo; split <;> omega
  have hhi : 9 ≤ se_hi t ∧ se_hi t ≤ 20 := by unfold se_hi; split <;> omega
  refine tv_iload_n (pc := 0) 1 C dX7_set_0 rfl rfl ?_
  refine tv_iconst (pc := 1) C dX7_set_1 ?_
  refine tv_iconst (pc := 2) C dX7_set_2 ?_
  refine tv_callS (pc := 3) [tm_i t, tm_i 0, tm_i 4] [] C (c7_within E _ μ t 0 4 (by omega) (by omega) (by omega)) cs_X7_97 (by decide) rfl (Nat.le_of_ble_eq_true rfl) rfl dX7_set_3 (tm_kp ?_)
  refine tv_ifeqB (pc := 6) 26 C dX7_set_6 (by decide) (fun h6 => ?_) (fun h6 => ?_)
  · skip
    refine tv_bipush (pc := 26) C dX7_set_26 (by decide) ?_
    refine tv_iret (pc := 28) C dX7_set_28 ?_
    exact ⟨_, rfl, by unfold se_z; rw [if_neg (by omega)], by unfold se_d; rw [if_neg (by omega)]; exact hI, fun a _ => rfl⟩
  · skip
    refine tv_iload_n (pc := 9) 2 C dX7_set_9 rfl rfl ?_
    refine tv_gets (pc := 10) 0 C (by decide) gs_X7_146 dX7_set_10 ?_
    refine tv_iload_n (pc := 13) 1 C dX7_set_13 rfl rfl ?_
    refine tv_sald (pc := 14) (z := se_lo t) 0 C (by decide) dX7_set_14 (show 0 ≤ t ∧ t < ((5 : Nat) : Int) by omega) (by rcases (show t = 0 ∨ t = 1 ∨ t = 2 ∨ t = 3 ∨ t = 4 by omega) with rfl | rfl | rfl | rfl | rfl <;> rfl) ?_
    refine tv_gets (pc := 15) 1 C (by decide) gs_X7_149 dX7_set_15 ?_
    refine tv_iload_n (pc := 18) 1 C dX7_set_18 rfl rfl ?_
    refine tv_sald (pc := 19) (z := se_hi t) 1 C (by decide) dX7_set_19 (show 0 ≤ t ∧ t < ((5 : Nat) : Int) by omega) (by rcases (show t = 0 ∨ t = 1 ∨ t = 2 ∨ t = 3 ∨ t = 4 by omega) with rfl | rfl | rfl | rfl | rfl <;> rfl) ?_
    refine tv_callS (pc := 20) [tm_i v, tm_i (se_lo t), tm_i (se_hi t)] [] C (c7_within E _ μ v (se_lo t) (se_hi t) (by omega) (by omega) (by omega)) cs_X7_97 (by decide) rfl (Nat.le_of_ble_eq_true rfl) rfl dX7_set_20 (tm_kp ?_)
    refine tv_ifneB (pc := 23) 29 C dX7_set_23 (by decide) (fun h23 => ?_) (fun h23 => ?_)
    · skip
      refine tv_aload_n (pc := 29) 0 C dX7_set_29 rfl rfl ?_
      refine tv_getr (pc := 30) (q := 28) C rfl rfl fl_X7_54 dX7_set_30 ?_
      refine tv_iload_n (pc := 33) 1 C dX7_set_33 rfl rfl ?_
      have m9 := hI.1.2.2.2.2.2.2.2.2 t.toNat (by omega)
      refine tv_iald (pc := 34) (j := t.toNat) (z := μ 28 t.toNat) C rfl dX7_set_34 (by omega) rfl rfl ?_
      refine tv_istore_n (pc := 35) [(3, tm_i (μ 28 t.toNat)), (0, .ref (E.2.1 0)), (1, tm_i t), (2, tm_i v)] C dX7_set_35 rfl (by decide) rfl ?_
      refine tv_aload_n (pc := 36) 1 C dX7_set_36 rfl rfl ?_
      refine tv_getr (pc := 37) (q := 28) C rfl rfl fl_X7_54 dX7_set_37 ?_
      refine tv_iload_n (pc := 40) 2 C dX7_set_40 rfl rfl ?_
      refine tv_iload_n (pc := 41) 3 C dX7_set_41 rfl rfl ?_
      refine tv_iast (pc := 42) (j := t.toNat) C rfl dX7_set_42 (by omega) rfl ?_
      refine tv_aload_n (pc := 43) 1 C dX7_set_43 rfl rfl ?_
      refine tv_callV (pc := 44) [] [] C (c7_changed E _ (tm_up μ 28 t.toNat v)) cv_X7_108 rfl rfl (by decide) rfl (Nat.le_of_ble_eq_true rfl) rfl dX7_set_44 (tm_kv ?_)
      rintro _ rfl
      refine tv_iload_n (pc := 47) 0 C dX7_set_47 rfl rfl ?_
      refine tv_iret (pc := 48) C dX7_set_48 ?_
      refine ⟨_, rfl, by unfold se_z; rw [if_pos (by omega), m9], ?_, fun a ha => by rw [tm_ch_f (by omega), tm_uf (by omega)]⟩
      unfold se_d
      rw [if_pos (by omega)]
      exact cl_dial hI hd t.toNat v (by omega)
    · skip
      refine tv_bipush (pc := 26) C dX7_set_26 (by decide) ?_
      refine tv_iret (pc := 28) C dX7_set_28 ?_
      exact ⟨_, rfl, by unfold se_z; rw [if_neg (by omega)], by unfold se_d; rw [if_neg (by omega)]; exact hI, fun a _ => rfl⟩
theorem k7_fault (E : tm_Ev) (l : Launch) (μ : tm_M) (d s : tm_M) (hd : dd_ok d) (hI : cl_I μ d s) (t : Int) (ht : -2147483648 ≤ t ∧ t ≤ 2147483647) : tm_Met E l yX7_fault cX7_fault 2 (some .int) 3 [.ref (E.2.1 0), tm_i t] μ (tm_pi (fun z μ' => z = fa_z d t ∧ cl_I μ' d s ∧ ∀ a, 74 ≤ a → μ' a = μ a)) := by
  refine tm_intro [(0, .ref (E.2.1 0)), (1, tm_i t)] rfl (by decide +kernel) (Nat.le_of_ble_eq_true rfl) ?_
  intro X hX C
  subst hX
  have m1 := hI.1.1
  have m2 := hI.1.2.1
  have m5 := hI.1.2.2.2.2.1
  have m6 := hI.1.2.2.2.2.2.1
  have z1 := hd.1
  have z2 := hd.2.1
  have z3 := hd.2.2.2.2.1
  have z4 := hd.2.2.2.2.2.1
  refine tv_iload_n (pc := 0) 1 C dX7_fault_0 rfl rfl ?_
  refine tv_iconst (pc := 1) C dX7_fault_1 ?_
  refine tv_iconst (pc := 2) C dX7_fault_2 ?_
  refine tv_callS (pc := 3) [tm_i t, tm_i 0, tm_i 1] [] C (c7_within E _ μ t 0 1 (by omega) (by omega) (by omega)) cs_X7_97 (by decide) rfl (Nat.le_of_ble_eq_true rfl) rfl dX7_fault_3 (tm_kp ?_)
  refine tv_ifneB (pc := 6) 12 C dX7_fault_6 (by decide) (fun h6 => ?_) (fun h6 => ?_)
  · skip
    rcases (show t = 0 ∨ t = 1 by omega) with rfl | rfl
    · skip
      refine tv_iload_n (pc := 12) 1 C dX7_fault_12 rfl rfl ?_
      refine tv_if_ne (pc := 13) 28 C dX7_fault_13 (by decide) (by omega) (fun q => absurd q (by decide)) (fun _ => ?_)
      refine tv_aload_n (pc := 16) 0 C dX7_fault_16 rfl rfl ?_
      refine tv_getr (pc := 17) (q := 1) C rfl rfl fl_X7_14 dX7_fault_17 ?_
      refine tv_iconst (pc := 20) C dX7_fault_20 ?_
      refine tv_aald (pc := 21) (q := 2) (j := 0) RX2 C rfl rfl dX7_fault_21 (by omega) rfl rfl ?_
      refine tv_callS (pc := 22) [.ref (E.2.1 2)] [] C (c7_tideFault E _ μ (by omega) (fun j hj => by rw [m1] at hj; rw [hI.1.2.2.1 j hj]; exact hd.2.2.1 j hj)) cs_X7_115 (by decide) rfl (Nat.le_of_ble_eq_true rfl) rfl dX7_fault_22 (tm_kp ?_)
      refine tv_goto (pc := 25) 37 C dX7_fault_25 (by decide) ?_
      refine tv_iret (pc := 37) C dX7_fault_37 ?_
      exact ⟨_, rfl, by rw [fa_z_0, sp_tf_congr (g := d 1) (fun j hj => hI.1.2.2.1 j (by omega)), m1], hI, fun a _ => rfl⟩
    · skip
      refine tv_iload_n (pc := 12) 1 C dX7_fault_12 rfl rfl ?_
      refine tv_if_ne (pc := 13) 28 C dX7_fault_13 (by decide) (by omega) (fun _ => ?_) (fun q => absurd q (by decide))
      refine tv_aload_n (pc := 28) 0 C dX7_fault_28 rfl rfl ?_
      refine tv_getr (pc := 29) (q := 1) C rfl rfl fl_X7_14 dX7_fault_29 ?_
      refine tv_iconst (pc := 32) C dX7_fault_32 ?_
      refine tv_aald (pc := 33) (q := 4) (j := 1) RX2 C rfl rfl dX7_fault_33 (by omega) rfl rfl ?_
      refine tv_callS (pc := 34) [.ref (E.2.1 4)] [] C (c7_orderFault E _ μ (by omega) (fun j hj => by rw [m2] at hj; rw [hI.1.2.2.2.1 j hj]; exact hd.2.2.2.1 j hj)) cs_X7_118 (by decide) rfl (Nat.le_of_ble_eq_true rfl) rfl dX7_fault_34 (tm_kp ?_)
      refine tv_iret (pc := 37) C dX7_fault_37 ?_
      exact ⟨_, rfl, by rw [fa_z_1, sp_of_congr (g := d 2) (fun j hj => hI.1.2.2.2.1 j (by omega)), m2], hI, fun a _ => rfl⟩
  · skip
    refine tv_bipush (pc := 9) C dX7_fault_9 (by decide) ?_
    refine tv_iret (pc := 11) C dX7_fault_11 ?_
    exact ⟨_, rfl, by unfold fa_z; rw [if_neg (by omega)], hI, fun a _ => rfl⟩
