/-- whether v is from lo to hi -/
theorem c7_within (E : tm_Ev) (l : Launch) (μ : tm_M) (v lo hi : Int) (hv : -2147483648 ≤ v ∧ v ≤ 2147483647) (hlo : -2147483648 ≤ lo ∧ lo ≤ 2147483647) (hhi : -2147483648 ≤ hi ∧ hi ≤ 2147483647) : tm_Met E l yX7_within cX7_within 3 (some .boolean) 0 [tm_i v, tm_i lo, tm_i hi] μ (tm_pi (fun z μ' => z = (if lo ≤ v ∧ v ≤ hi then 1 else 0) ∧ μ' = μ)) := by
  refine tm_intro [(0, tm_i v), (1, tm_i lo), (2, tm_i hi)] rfl (by decide +kernel) (Nat.le_of_ble_eq_true rfl) ?_
  intro X hX C
  subst hX
  refine tv_iload_n (pc := 0) 0 C dX7_within_0 rfl rfl ?_
  refine tv_iload_n (pc := 1) 1 C dX7_within_1 rfl rfl ?_
  refine tv_icmp_lt (pc := 2) 14 C dX7_within_2 (by decide) (by omega) (by omega) (fun h2 => ?_) (fun h2 => ?_)
  · skip
    refine tv_iconst (pc := 14) C dX7_within_14 ?_
    refine tv_zret (pc := 15) C dX7_within_15 (by omega) ?_
    exact ⟨_, rfl, by split <;> omega, rfl⟩
  · skip
    refine tv_iload_n (pc := 5) 0 C dX7_within_5 rfl rfl ?_
    refine tv_iload_n (pc := 6) 2 C dX7_within_6 rfl rfl ?_
    refine tv_icmp_gt (pc := 7) 14 C dX7_within_7 (by decide) (by omega) (by omega) (fun h7 => ?_) (fun h7 => ?_)
    · skip
      refine tv_iconst (pc := 14) C dX7_within_14 ?_
      refine tv_zret (pc := 15) C dX7_within_15 (by omega) ?_
      exact ⟨_, rfl, by split <;> omega, rfl⟩
    · skip
      refine tv_iconst (pc := 10) C dX7_within_10 ?_
      refine tv_goto (pc := 11) 15 C dX7_within_11 (by decide) ?_
      refine tv_zret (pc := 15) C dX7_within_15 (by omega) ?_
      exact ⟨_, rfl, by split <;> omega, rfl⟩
/-- whether v is from lo to hi -/
theorem c8_in (E : tm_Ev) (l : Launch) (μ : tm_M) (v lo hi : Int) (hv : -2147483648 ≤ v ∧ v ≤ 2147483647) (hlo : -2147483648 ≤ lo ∧ lo ≤ 2147483647) (hhi : -2147483648 ≤ hi ∧ hi ≤ 2147483647) : tm_Met E l yX8_in cX8_in 3 (some .boolean) 0 [tm_i v, tm_i lo, tm_i hi] μ (tm_pi (fun z μ' => z = (if lo ≤ v ∧ v ≤ hi then 1 else 0) ∧ μ' = μ)) := by
  refine tm_intro [(0, tm_i v), (1, tm_i lo), (2, tm_i hi)] rfl (by decide +kernel) (Nat.le_of_ble_eq_true rfl) ?_
  intro X hX C
  subst hX
  refine tv_iload_n (pc := 0) 0 C dX8_in_0 rfl rfl ?_
  refine tv_iload_n (pc := 1) 1 C dX8_in_1 rfl rfl ?_
  refine tv_icmp_lt (pc := 2) 14 C dX8_in_2 (by decide) (by omega) (by omega) (fun h2 => ?_) (fun h2 => ?_)
  · skip
    refine tv_iconst (pc := 14) C dX8_in_14 ?_
    refine tv_zret (pc := 15) C dX8_in_15 (by omega) ?_
    exact ⟨_, rfl, by split <;> omega, rfl⟩
  · skip
    refine tv_iload_n (pc := 5) 0 C dX8_in_5 rfl rfl ?_
    refine tv_iload_n (pc := 6) 2 C dX8_in_6 rfl rfl ?_
    refine tv_icmp_gt (pc := 7) 14 C dX8_in_7 (by decide) (by omega) (by omega) (fun h7 => ?_) (fun h7 => ?_)
    · skip
      refine tv_iconst (pc := 14) C dX8_in_14 ?_
      refine tv_zret (pc := 15) C dX8_in_15 (by omega) ?_
      exact ⟨_, rfl, by split <;> omega, rfl⟩
    · skip
      refine tv_iconst (pc := 10) C dX8_in_10 ?_
      refine tv_goto (pc := 11) 15 C dX8_in_11 (by decide) ?_
      refine tv_zret (pc := 15) C dX8_in_15 (by omega) ?_
      exact ⟨_, rfl, by split <;> omega, rfl⟩
theorem c7_isHour (E : tm_Ev) (l : Launch) (μ : tm_M) (v : Int) (hv : -2147483648 ≤ v ∧ v ≤ 2147483647) : tm_Met E l yX7_isHour cX7_isHour 1 (some .boolean) 1 [tm_i v] μ (tm_pi (fun z μ' => z = (if 0 ≤ v ∧ v ≤ 39 then 1 else 0) ∧ μ' = μ)) := by
  refine tm_intro [(0, tm_i v)] rfl (by decide +kernel) (Nat.le_of_ble_eq_true rfl) ?_
  intro X hX C
  subst hX
  refine tv_iload_n (pc := 0) 0 C dX7_isHour_0 rfl rfl ?_
  refine tv_iconst (pc := 1) C dX7_isHour_1 ?_
  refine tv_bipush (pc := 2) C dX7_isHour_2 (by decide) ?_
  refine tv_callS (pc := 4) [tm_i v, tm_i 0, tm_i 39] [] C (c7_within E _ μ v 0 39 (by omega) (by omega) (by omega)) cs_X7_97 (by decide) rfl (Nat.le_of_ble_eq_true rfl) rfl dX7_isHour_4 (tm_kp ?_)
  refine tv_zret (pc := 7) C dX7_isHour_7 (by omega) ?_
  exact ⟨_, rfl, rfl, rfl⟩
theorem c7_isSheet (E : tm_Ev) (l : Launch) (μ : tm_M) (v : Int) (hv : -2147483648 ≤ v ∧ v ≤ 2147483647) : tm_Met E l yX7_isSheet cX7_isSheet 1 (some .boolean) 1 [tm_i v] μ (tm_pi (fun z μ' => z = (if 0 ≤ v ∧ v ≤ 3 then 1 else 0) ∧ μ' = μ)) := by
  refine tm_intro [(0, tm_i v)] rfl (by decide +kernel) (Nat.le_of_ble_eq_true rfl) ?_
  intro X hX C
  subst hX
  refine tv_iload_n (pc := 0) 0 C dX7_isSheet_0 rfl rfl ?_
  refine tv_iconst (pc := 1) C dX7_isSheet_1 ?_
  refine tv_iconst (pc := 2) C dX7_isSheet_2 ?_
  refine tv_callS (pc := 3) [tm_i v, tm_i 0, tm_i 3] [] C (c7_within E _ μ v 0 3 (by omega) (by omega) (by omega)) cs_X7_97 (by decide) rfl (Nat.le_of_ble_eq_true rfl) rfl dX7_isSheet_3 (tm_kp ?_)
  refine tv_zret (pc := 6) C dX7_isSheet_6 (by omega) ?_
  exact ⟨_, rfl, rfl, rfl⟩
theorem c7_isForm (E : tm_Ev) (l : Launch) (μ : tm_M) (v : Int) (hv : -2147483648 ≤ v ∧ v ≤ 2147483647) : tm_Met E l yX7_isForm cX7_isForm 1 (some .boolean) 1 [tm_i v] μ (tm_pi (fun z μ' => z = (if 0 ≤ v ∧ v ≤ 2 then 1 else 0) ∧ μ' = μ)) := by
  refine tm_intro [(0, tm_i v)] rfl (by decide +kernel) (Nat.le_of_ble_eq_true rfl) ?_
  intro X hX C
  subst hX
  refine tv_iload_n (pc := 0) 0 C dX7_isForm_0 rfl rfl ?_
  refine tv_iconst (pc := 1) C dX7_isForm_1 ?_
  refine tv_iconst (pc := 2) C dX7_isForm_2 ?_
  refine tv_callS (pc := 3) [tm_i v, tm_i 0, tm_i 2] [] C (c7_within E _ μ v 0 2 (by omega) (by omega) (by omega)) cs_X7_97 (by decide) rfl (Nat.le_of_ble_eq_true rfl) rfl dX7_isForm_3 (tm_kp ?_)
  refine tv_zret (pc := 6) C dX7_isForm_6 (by omega) ?_
  exact ⟨_, rfl, rfl, rfl⟩
theorem c8_isText (E : tm_Ev) (l : Launch) (μ : tm_M) (v : Int) (hv : -2147483648 ≤ v ∧ v ≤ 2147483647) : tm_Met E l yX8_isText cX8_isText 1 (some .boolean) 1 [tm_i v] μ (tm_pi (fun z μ' => z = (if 0 ≤ v ∧ v ≤ 1 then 1 else 0) ∧ μ' = μ)) := by
  refine tm_intro [(0, tm_i v)] rfl (by decide +kernel) (Nat.le_of_ble_eq_true rfl) ?_
  intro X hX C
  subst hX
  refine tv_iload_n (pc := 0) 0 C dX8_isText_0 rfl rfl ?_
  refine tv_iconst (pc := 1) C dX8_isText_1 ?_
  refine tv_iconst (pc := 2) C dX8_isText_2 ?_
  refine tv_callS (pc := 3) [tm_i v, tm_i 0, tm_i 1] [] C (c8_in E _ μ v 0 1 (by omega) (by omega) (by omega)) cs_X8_94 (by decide) rfl (Nat.le_of_ble_eq_true rfl) rfl dX8_isText_3 (tm_kp ?_)
  refine tv_zret (pc := 6) C dX8_isText_6 (by omega) ?_
  exact ⟨_, rfl, rfl, rfl⟩
theorem c8_isHour (E : tm_Ev) (l : Launch) (μ : tm_M) (v : Int) (hv : -2147483648 ≤ v ∧ v ≤ 2147483647) : tm_Met E l yX8_isHour cX8_isHour 1 (some .boolean) 1 [tm_i v] μ (tm_pi (fun z μ' => z = (if 0 ≤ v ∧ v ≤ 39 then 1 else 0) ∧ μ' = μ)) := by
  refine tm_intro [(0, tm_i v)] rfl (by decide +kernel) (Nat.le_of_ble_eq_true rfl) ?_
  intro X hX C
  subst hX
  refine tv_iload_n (pc := 0) 0 C dX8_isHour_0 rfl rfl ?_
  refine tv_iconst (pc := 1) C dX8_isHour_1 ?_
  refine tv_bipush (pc := 2) C dX8_isHour_2 (by decide) ?_
  refine tv_callS (pc := 4) [tm_i v, tm_i 0, tm_i 39] [] C (c8_in E _ μ v 0 39 (by omega) (by omega) (by omega)) cs_X8_94 (by decide) rfl (Nat.le_of_ble_eq_true rfl) rfl dX8_isHour_4 (tm_kp ?_)
  refine tv_zret (pc := 7) C dX8_isHour_7 (by omega) ?_
  exact ⟨_, rfl, rfl, rfl⟩
theorem c8_isSheet (E : tm_Ev) (l : Launch) (μ : tm_M) (v : Int) (hv : -2147483648 ≤ v ∧ v ≤ 2147483647) : tm_Met E l yX8_isSheet cX8_isSheet 1 (some .boolean) 1 [tm_i v] μ (tm_pi (fun z μ' => z = (if 0 ≤ v ∧ v ≤ 3 then 1 else 0) ∧ μ' = μ)) := by
  refine tm_intro [(0, tm_i v)] rfl (by decide +kernel) (Nat.le_of_ble_eq_true rfl) ?_
  intro X hX C
  subst hX
  refine tv_iload_n (pc := 0) 0 C dX8_isSheet_0 rfl rfl ?_
  refine tv_iconst (pc := 1) C dX8_isSheet_1 ?_
  refine tv_iconst (pc := 2) C dX8_isSheet_2 ?_
  refine tv_callS (pc := 3) [tm_i v, tm_i 0, tm_i 3] [] C (c8_in E _ μ v 0 3 (by omega) (by omega) (by omega)) cs_X8_94 (by decide) rfl (Nat.le_of_ble_eq_true rfl) rfl dX8_isSheet_3 (tm_kp ?_)
  refine tv_zret (pc := 6) C dX8_isSheet_6 (by omega) ?_
  exact ⟨_, rfl, rfl, rfl⟩
