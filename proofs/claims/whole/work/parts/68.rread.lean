theorem k8_isOrder (E : tm_Ev) (l : Launch) (μ : tm_M) (d s : tm_M) (hd : dd_ok d) (hI : rf_I μ d s) (k : Int) (hk : -2147483648 ≤ k ∧ k ≤ 2147483647) : tm_Met E l yX8_isOrder cX8_isOrder 2 (some .boolean) 6 [.ref (E.2.1 74), tm_i k] μ (tm_pi (fun z μ' => z = (if 0 ≤ k ∧ k < (dd_n d : Int) then 1 else 0) ∧ rf_I μ' d s ∧ rf_r μ' d ∧ ∀ a, a < 74 → μ' a = μ a)) := by
  refine tm_intro [(0, .ref (E.2.1 74)), (1, tm_i k)] rfl (by decide +kernel) (Nat.le_of_ble_eq_true rfl) ?_
  intro X hX C
  subst hX
  have h8 : dd_n d ≤ 8 := sp_no_bd _ (by have q := hd.2.1; omega)
  refine tv_aload_n (pc := 0) 0 C dX8_isOrder_0 rfl rfl ?_
  refine tv_callV (pc := 1) [] [] C (c8_reads E _ μ d hd hI.1) cv_X8_131 rfl rfl (by decide) rfl (Nat.le_of_ble_eq_true rfl) rfl dX8_isOrder_1 (tm_kv ?_)
  rintro n1 ⟨g1, g2, g3⟩
  have hI1 := rf_I_f hI g1 g3
  have fr1 : ∀ a, a < 74 → n1 a = μ a := fun a ha => g3.1 a (by omega) (by omega)
  have hn := g2.2.1
  refine tv_iload_n (pc := 4) 1 C dX8_isOrder_4 rfl rfl ?_
  refine tv_iconst (pc := 5) C dX8_isOrder_5 ?_
  refine tv_aload_n (pc := 6) 0 C dX8_isOrder_6 rfl rfl ?_
  refine tv_geti (pc := 7) (z := (dd_n d : Int)) C rfl rfl fl_X8_114 dX8_isOrder_7 hn ?_
  refine tv_iconst (pc := 10) C dX8_isOrder_10 ?_
  refine tv_isub (pc := 11) C dX8_isOrder_11 ?_
  refine tv_callS (pc := 12) [tm_i k, tm_i 0, tm_i ((dd_n d : Int) - 1)] [] C (c8_in E _ n1 k 0 ((dd_n d : Int) - 1) (by omega) (by omega) (by omega)) cs_X8_94 (by decide) rfl (Nat.le_of_ble_eq_true rfl) rfl dX8_isOrder_12 (tm_kp ?_)
  refine tv_zret (pc := 15) C dX8_isOrder_15 (by omega) ?_
  exact ⟨_, rfl, io_z k (dd_n d : Int), hI1, g2, fr1⟩
theorem k8_seaOf (E : tm_Ev) (l : Launch) (μ : tm_M) (d s : tm_M) (hd : dd_ok d) (hI : rf_I μ d s) (t : Int) (ht : 0 ≤ t ∧ t ≤ 39) : tm_Met E l yX8_seaOf cX8_seaOf 2 (some .int) 6 [.ref (E.2.1 74), tm_i t] μ (tm_pi (fun z μ' => z = sa_z d t ∧ rf_I μ' d s ∧ rf_r μ' d ∧ ∀ a, a < 74 → μ' a = μ a)) := by
  refine tm_intro [(0, .ref (E.2.1 74)), (1, tm_i t)] rfl (by decide +kernel) (Nat.le_of_ble_eq_true rfl) ?_
  intro X hX C
  subst hX
  refine tv_aload_n (pc := 0) 0 C dX8_seaOf_0 rfl rfl ?_
  refine tv_callV (pc := 1) [] [] C (c8_reads E _ μ d hd hI.1) cv_X8_131 rfl rfl (by decide) rfl (Nat.le_of_ble_eq_true rfl) rfl dX8_seaOf_1 (tm_kv ?_)
  rintro n1 ⟨g1, g2, g3⟩
  have hI1 := rf_I_f hI g1 g3
  have fr1 : ∀ a, a < 74 → n1 a = μ a := fun a ha => g3.1 a (by omega) (by omega)
  have hn := g2.2.1
  refine tv_aload_n (pc := 4) 0 C dX8_seaOf_4 rfl rfl ?_
  refine tv_getr (pc := 5) (q := 77) C rfl rfl fl_X8_16 dX8_seaOf_5 ?_
  refine tv_iload_n (pc := 8) 1 C dX8_seaOf_8 rfl rfl ?_
  refine tv_iald (pc := 9) (j := t.toNat) (z := n1 77 t.toNat) C rfl dX8_seaOf_9 (by omega) rfl rfl ?_
  refine tv_iret (pc := 10) C dX8_seaOf_10 ?_
  exact ⟨_, rfl, by unfold sa_z; rw [if_pos (by omega)]; exact g2.2.2.1 t.toNat (by omega), hI1, g2, fr1⟩
theorem k8_sea (E : tm_Ev) (l : Launch) (μ : tm_M) (d s : tm_M) (hd : dd_ok d) (hI : rf_I μ d s) (t : Int) (ht : -2147483648 ≤ t ∧ t ≤ 2147483647) : tm_Met E l yX8_sea cX8_sea 2 (some .int) 7 [.ref (E.2.1 74), tm_i t] μ (tm_pi (fun z μ' => z = sa_z d t ∧ rf_I μ' d s ∧ ∀ a, a < 74 → μ' a = μ a)) := by
  refine tm_intro [(0, .ref (E.2.1 74)), (1, tm_i t)] rfl (by decide +kernel) (Nat.le_of_ble_eq_true rfl) ?_
  intro X hX C
  subst hX
  refine tv_iload_n (pc := 0) 1 C dX8_sea_0 rfl rfl ?_
  refine tv_callS (pc := 1) [tm_i t] [] C (c8_isHour E _ μ t (by omega)) cs_X8_134 (by decide) rfl (Nat.le_of_ble_eq_true rfl) rfl dX8_sea_1 (tm_kp ?_)
  refine tv_ifeqB (pc := 4) 15 C dX8_sea_4 (by decide) (fun h4 => ?_) (fun h4 => ?_)
  · skip
    refine tv_bipush (pc := 15) C dX8_sea_15 (by decide) ?_
    refine tv_iret (pc := 17) C dX8_sea_17 ?_
    exact ⟨_, rfl, by unfold sa_z; rw [if_neg (by omega)], hI, fun a _ => rfl⟩
  · skip
    refine tv_aload_n (pc := 7) 0 C dX8_sea_7 rfl rfl ?_
    refine tv_iload_n (pc := 8) 1 C dX8_sea_8 rfl rfl ?_
    refine tv_callV (pc := 9) [tm_i t] [] C (k8_seaOf E _ μ d s hd hI t (by omega)) cv_X8_137 rfl rfl (by decide) rfl (Nat.le_of_ble_eq_true rfl) rfl dX8_sea_9 (tm_ki ?_)
    rintro zz n1 ⟨hz, hI1, g2, fr1⟩
    refine tv_goto (pc := 12) 17 C dX8_sea_12 (by decide) ?_
    refine tv_iret (pc := 17) C dX8_sea_17 ?_
    exact ⟨_, rfl, hz, hI1, fr1⟩
theorem k8_orderOf (E : tm_Ev) (l : Launch) (μ : tm_M) (d : tm_M) (hd : dd_ok d) (hr : rf_r μ d) (k w : Int) (hk : 0 ≤ k ∧ k < (dd_n d : Int)) (hw : 0 ≤ w ∧ w ≤ 3) : tm_Met E l yX8_orderOf cX8_orderOf 3 (some .int) 0 [.ref (E.2.1 74), tm_i k, tm_i w] μ (tm_pi (fun z μ' => z = or_z d k w ∧ μ' = μ)) := by
  refine tm_intro [(0, .ref (E.2.1 74)), (1, tm_i k), (2, tm_i w)] rfl (by decide +kernel) (Nat.le_of_ble_eq_true rfl) ?_
  intro X hX C
  subst hX
  have h8 : dd_n d ≤ 8 := sp_no_bd _ (by have q := hd.2.1; omega)
  refine tv_iload_n (pc := 0) 2 C dX8_orderOf_0 rfl rfl ?_
  refine tv_if_ne (pc := 1) 13 C dX8_orderOf_1 (by decide) (by omega) (fun h1 => ?_) (fun h1 => ?_)
  · skip
    refine tv_iload_n (pc := 13) 2 C dX8_orderOf_13 rfl rfl ?_
    refine tv_iconst (pc := 14) C dX8_orderOf_14 ?_
    refine tv_icmp_ne (pc := 15) 27 C dX8_orderOf_15 (by decide) (by omega) (by omega) (fun h15 => ?_) (fun h15 => ?_)
    · skip
      refine tv_iload_n (pc := 27) 2 C dX8_orderOf_27 rfl rfl ?_
      refine tv_iconst (pc := 28) C dX8_orderOf_28 ?_
      refine tv_icmp_ne (pc := 29) 41 C dX8_orderOf_29 (by decide) (by omega) (by omega) (fun h29 => ?_) (fun h29 => ?_)
      · skip
        refine tv_aload_n (pc := 41) 0 C dX8_orderOf_41 rfl rfl ?_
        refine tv_getr (pc := 42) (q := 81) C rfl rfl fl_X8_28 dX8_orderOf_42 ?_
        refine tv_iload_n (pc := 45) 1 C dX8_orderOf_45 rfl rfl ?_
        refine tv_iald (pc := 46) (j := k.toNat) (z := μ 81 k.toNat) C rfl dX8_orderOf_46 (by omega) rfl rfl ?_
        refine tv_iret (pc := 47) C dX8_orderOf_47 ?_
        exact ⟨_, rfl, by unfold or_z; rw [if_pos (by omega)]; unfold or_f; rw [if_neg (by omega), if_neg (by omega), if_neg (by omega)]; exact (hr.2.2.2 k.toNat (by omega)).2.2.2, rfl⟩
      · skip
        refine tv_aload_n (pc := 32) 0 C dX8_orderOf_32 rfl rfl ?_
        refine tv_getr (pc := 33) (q := 80) C rfl rfl fl_X8_25 dX8_orderOf_33 ?_
        refine tv_iload_n (pc := 36) 1 C dX8_orderOf_36 rfl rfl ?_
        refine tv_iald (pc := 37) (j := k.toNat) (z := μ 80 k.toNat) C rfl dX8_orderOf_37 (by omega) rfl rfl ?_
        refine tv_goto (pc := 38) 47 C dX8_orderOf_38 (by decide) ?_
        refine tv_iret (pc := 47) C dX8_orderOf_47 ?_
        exact ⟨_, rfl, by unfold or_z; rw [if_pos (by omega)]; unfold or_f; rw [if_neg (by omega), if_neg (by omega), if_pos (by omega)]; exact (hr.2.2.2 k.toNat (by omega)).2.2.1, rfl⟩
    · skip
      refine tv_aload_n (pc := 18) 0 C dX8_orderOf_18 rfl rfl ?_
      refine tv_getr (pc := 19) (q := 79) C rfl rfl fl_X8_22 dX8_orderOf_19 ?_
      refine tv_iload_n (pc := 22) 1 C dX8_orderOf_22 rfl rfl ?_
      refine tv_iald (pc := 23) (j := k.toNat) (z := μ 79 k.toNat) C rfl dX8_orderOf_23 (by omega) rfl rfl ?_
      refine tv_goto (pc := 24) 47 C dX8_orderOf_24 (by decide) ?_
      refine tv_iret (pc := 47) C dX8_orderOf_47 ?_
      exact ⟨_, rfl, by unfold or_z; rw [if_pos (by omega)]; unfold or_f; rw [if_neg (by omega), if_pos (by omega)]; exact (hr.2.2.2 k.toNat (by omega)).2.1, rfl⟩
  · skip
    refine tv_aload_n (pc := 4) 0 C dX8_orderOf_4 rfl rfl ?_
    refine tv_getr (pc := 5) (q := 78) C rfl rfl fl_X8_19 dX8_orderOf_5 ?_
    refine tv_iload_n (pc := 8) 1 C dX8_orderOf_8 rfl rfl ?_
    refine tv_iald (pc := 9) (j := k.toNat) (z := μ 78 k.toNat) C rfl dX8_orderOf_9 (by omega) rfl rfl ?_
    refine tv_goto (pc := 10) 47 C dX8_orderOf_10 (by decide) ?_
    refine tv_iret (pc := 47) C dX8_orderOf_47 ?_
    exact ⟨_, rfl, by unfold or_z; rw [if_pos (by omega)]; unfold or_f; rw [if_pos (by omega)]; exact (hr.2.2.2 k.toNat (by omega)).1, rfl⟩
theorem k8_order (E : tm_Ev) (l : Launch) (μ : tm_M) (d s : tm_M) (hd : dd_ok d) (hI : rf_I μ d s) (k w : Int) (hk : -2147483648 ≤ k ∧ k ≤ 2147483647) (hw : -2147483648 ≤ w ∧ w ≤ 2147483647) : tm_Met E l yX8_order cX8_order 3 (some .int) 7 [.ref (E.2.1 74), tm_i k, tm_i w] μ (tm_pi (fun z μ' => z = or_z d k w ∧ rf_I μ' d s ∧ ∀ a, a < 74 → μ' a = μ a)) := by
  refine tm_intro [(0, .ref (E.2.1 74)), (1, tm_i k), (2, tm_i w)] rfl (by decide +kernel) (Nat.le_of_ble_eq_true rfl) ?_
  intro X hX C
  subst hX
  have h8 : dd_n d ≤ 8 := sp_no_bd _ (by have q := hd.2.1; omega)
  refine tv_aload_n (pc := 0) 0 C dX8_order_0 rfl rfl ?_
  refine tv_iload_n (pc := 1) 1 C dX8_order_1 rfl rfl ?_
  refine tv_callV (pc := 2) [tm_i k] [] C (k8_isOrder E _ μ d s hd hI k (by omega)) cv_X8_140 rfl rfl (by decide) rfl (Nat.le_of_ble_eq_true rfl) rfl dX8_order_2 (tm_ki ?_)
  rintro z1 n1 ⟨rfl, hI1, g2, fr1⟩
  have hn := g2.2.1
  refine tv_ifeqB (pc := 5) 26 C dX8_order_5 (by decide) (fun h5 => ?_) (fun h5 => ?_)
  · skip
    refine tv_bipush (pc := 26) C dX8_order_26 (by decide) ?_
    refine tv_iret (pc := 28) C dX8_order_28 ?_
    exact ⟨_, rfl, by unfold or_z; rw [if_neg (by omega)], hI1, fr1⟩
  · skip
    refine tv_iload_n (pc := 8) 2 C dX8_order_8 rfl rfl ?_
    refine tv_iconst (pc := 9) C dX8_order_9 ?_
    refine tv_iconst (pc := 10) C dX8_order_10 ?_
    refine tv_callS (pc := 11) [tm_i w, tm_i 0, tm_i 3] [] C (c8_in E _ n1 w 0 3 (by omega) (by omega) (by omega)) cs_X8_94 (by decide) rfl (Nat.le_of_ble_eq_true rfl) rfl dX8_order_11 (tm_kp ?_)
    refine tv_ifeqB (pc := 14) 26 C dX8_order_14 (by decide) (fun h14 => ?_) (fun h14 => ?_)
    · skip
      refine tv_bipush (pc := 26) C dX8_order_26 (by decide) ?_
      refine tv_iret (pc := 28) C dX8_order_28 ?_
      exact ⟨_, rfl, by unfold or_z; rw [if_neg (by omega)], hI1, fr1⟩
    · skip
      refine tv_aload_n (pc := 17) 0 C dX8_order_17 rfl rfl ?_
      refine tv_iload_n (pc := 18) 1 C dX8_order_18 rfl rfl ?_
      refine tv_iload_n (pc := 19) 2 C dX8_order_19 rfl rfl ?_
      refine tv_callV (pc := 20) [tm_i k, tm_i w] [] C (k8_orderOf E _ n1 d hd g2 k w (by omega) (by omega)) cv_X8_143 rfl rfl (by decide) rfl (Nat.le_of_ble_eq_true rfl) rfl dX8_order_20 (tm_kp ?_)
      refine tv_goto (pc := 23) 28 C dX8_order_23 (by decide) ?_
      refine tv_iret (pc := 28) C dX8_order_28 ?_
      exact ⟨_, rfl, rfl, hI1, fr1⟩
theorem k8_atOf (E : tm_Ev) (l : Launch) (μ : tm_M) (d s : tm_M) (hd : dd_ok d) (hI : rf_I μ d s) (t w : Int) (ht : 0 ≤ t ∧ t ≤ 39) (hw : 0 ≤ w ∧ w ≤ 4) : tm_Met E l yX8_atOf cX8_atOf 3 (some .int) 8 [.ref (E.2.1 74), tm_i t, tm_i w] μ (tm_pi (fun z μ' => z = at_z d t w ∧ rf_I μ' d s ∧ rf_r μ' d ∧ ∀ a, a < 74 → μ' a = μ a)) := by
  refine tm_intro [(0, .ref (E.2.1 74)), (1, tm_i t), (2, tm_i w)] rfl (by decide +kernel) (Nat.le_of_ble_eq_true rfl) ?_
  intro X hX C
  subst hX
  refine tv_aload_n (pc := 0) 0 C dX8_atOf_0 rfl rfl ?_
  refine tv_callV (pc := 1) [] [] C (c8_runsTold E _ μ d hd hI.1) cv_X8_219 rfl rfl (by decide) rfl (Nat.le_of_ble_eq_true rfl) rfl dX8_atOf_1 (tm_kv ?_)
  rintro n1 ⟨g1, g2, g4, g3⟩
  have hI1 := rf_I_k hI g1 g3
  have fr1 : ∀ a, a < 74 → n1 a = μ a := fun a ha => g3.1 a (by omega) (by omega) (by omega) (by omega) (by omega)
  have hn := g2.2.1
  rcases (show w = 0 ∨ w = 1 ∨ w = 2 ∨ w = 3 ∨ w = 4 by omega) with rfl | rfl | rfl | rfl | rfl
  · skip
    refine tv_iload_n (pc := 4) 2 C dX8_atOf_4 rfl rfl ?_
    refine tv_tabI (pc := 5) (off := 31) 36 C dX8_atOf_5 (by omega) (by omega) (by decide) (by decide) ?_
    refine tv_aload_n (pc := 36) 0 C dX8_atOf_36 rfl rfl ?_
    refine tv_getr (pc := 37) (q := 87) C rfl rfl fl_X8_46 dX8_atOf_37 ?_
    refine tv_iload_n (pc := 40) 1 C dX8_atOf_40 rfl rfl ?_
    refine tv_iald (pc := 41) (j := t.toNat) (z := n1 87 t.toNat) C rfl dX8_atOf_41 (by omega) rfl rfl ?_
    refine tv_iret (pc := 42) C dX8_atOf_42 ?_
    exact ⟨_, rfl, by unfold at_z; rw [if_pos (by omega)]; exact (g4.1 t.toNat (by omega)).1, hI1, g2, fr1⟩
  · skip
    refine tv_iload_n (pc := 4) 2 C dX8_atOf_4 rfl rfl ?_
    refine tv_tabI (pc := 5) (off := 38) 43 C dX8_atOf_5 (by omega) (by omega) (by decide) (by decide) ?_
    refine tv_aload_n (pc := 43) 0 C dX8_atOf_43 rfl rfl ?_
    refine tv_getr (pc := 44) (q := 88) C rfl rfl fl_X8_49 dX8_atOf_44 ?_
    refine tv_iload_n (pc := 47) 1 C dX8_atOf_47 rfl rfl ?_
    refine tv_iald (pc := 48) (j := t.toNat) (z := n1 88 t.toNat) C rfl dX8_atOf_48 (by omega) rfl rfl ?_
    refine tv_iret (pc := 49) C dX8_atOf_49 ?_
    exact ⟨_, rfl, by unfold at_z; rw [if_pos (by omega)]; exact (g4.1 t.toNat (by omega)).2.1, hI1, g2, fr1⟩
  · skip
    refine tv_iload_n (pc := 4) 2 C dX8_atOf_4 rfl rfl ?_
    refine tv_tabI (pc := 5) (off := 45) 50 C dX8_atOf_5 (by omega) (by omega) (by decide) (by decide) ?_
    refine tv_aload_n (pc := 50) 0 C dX8_atOf_50 rfl rfl ?_
    refine tv_getr (pc := 51) (q := 89) C rfl rfl fl_X8_52 dX8_atOf_51 ?_
    refine tv_iload_n (pc := 54) 1 C dX8_atOf_54 rfl rfl ?_
    refine tv_iald (pc := 55) (j := t.toNat) (z := n1 89 t.toNat) C rfl dX8_atOf_55 (by omega) rfl rfl ?_
    refine tv_iret (pc := 56) C dX8_atOf_56 ?_
    exact ⟨_, rfl, by unfold at_z; rw [if_pos (by omega)]; exact (g4.1 t.toNat (by omega)).2.2.1, hI1, g2, fr1⟩
  · skip
    refine tv_iload_n (pc := 4) 2 C dX8_atOf_4 rfl rfl ?_
    refine tv_tabI (pc := 5) (off := 52) 57 C dX8_atOf_5 (by omega) (by omega) (by decide) (by decide) ?_
    refine tv_aload_n (pc := 57) 0 C dX8_atOf_57 rfl rfl ?_
    refine tv_getr (pc := 58) (q := 90) C rfl rfl fl_X8_55 dX8_atOf_58 ?_
    refine tv_iload_n (pc := 61) 1 C dX8_atOf_61 rfl rfl ?_
    refine tv_iald (pc := 62) (j := t.toNat) (z := n1 90 t.toNat) C rfl dX8_atOf_62 (by omega) rfl rfl ?_
    refine tv_iret (pc := 63) C dX8_atOf_63 ?_
    exact ⟨_, rfl, by unfold at_z; rw [if_pos (by omega)]; exact (g4.1 t.toNat (by omega)).2.2.2.1, hI1, g2, fr1⟩
  · skip
    refine tv_iload_n (pc := 4) 2 C dX8_atOf_4 rfl rfl ?_
    refine tv_tabO (pc := 5) 64 C dX8_atOf_5 (by omega) (by omega) (by decide) ?_
    refine tv_aload_n (pc := 64) 0 C dX8_atOf_64 rfl rfl ?_
    refine tv_getr (pc := 65) (q := 91) C rfl rfl fl_X8_58 dX8_atOf_65 ?_
    refine tv_iload_n (pc := 68) 1 C dX8_atOf_68 rfl rfl ?_
    refine tv_iald (pc := 69) (j := t.toNat) (z := n1 91 t.toNat) C rfl dX8_atOf_69 (by omega) rfl rfl ?_
    refine tv_iret (pc := 70) C dX8_atOf_70 ?_
    exact ⟨_, rfl, by unfold at_z; rw [if_pos (by omega)]; exact (g4.1 t.toNat (by omega)).2.2.2.2, hI1, g2, fr1⟩
theorem k8_at (E : tm_Ev) (l : Launch) (μ : tm_M) (d s : tm_M) (hd : dd_ok d) (hI : rf_I μ d s) (t w : Int) (ht : -2147483648 ≤ t ∧ t ≤ 2147483647) (hw : -2147483648 ≤ w ∧ w ≤ 2147483647) : tm_Met E l yX8_at cX8_at 3 (some .int) 9 [.ref (E.2.1 74), tm_i t, tm_i w] μ (tm_pi (fun z μ' => z = at_z d t w ∧ rf_I μ' d s ∧ ∀ a, a < 74 → μ' a = μ a)) := by
  refine tm_intro [(0, .ref (E.2.1 74)), (1, tm_i t), (2, tm_i w)] rfl (by decide +kernel) (Nat.le_of_ble_eq_true rfl) ?_
  intro X hX C
  subst hX
  refine tv_iload_n (pc := 0) 1 C dX8_at_0 rfl rfl ?_
  refine tv_callS (pc := 1) [tm_i t] [] C (c8_isHour E _ μ t (by omega)) cs_X8_134 (by decide) rfl (Nat.le_of_ble_eq_true rfl) rfl dX8_at_1 (tm_kp ?_)
  refine tv_ifeqB (pc := 4) 25 C dX8_at_4 (by decide) (fun h4 => ?_) (fun h4 => ?_)
  · skip
    refine tv_bipush (pc := 25) C dX8_at_25 (by decide) ?_
    refine tv_iret (pc := 27) C dX8_at_27 ?_
    exact ⟨_, rfl, by unfold at_z; rw [if_neg (by omega)], hI, fun a _ => rfl⟩
  · skip
    refine tv_iload_n (pc := 7) 2 C dX8_at_7 rfl rfl ?_
    refine tv_iconst (pc := 8) C dX8_at_8 ?_
    refine tv_iconst (pc := 9) C dX8_at_9 ?_
    refine tv_callS (pc := 10) [tm_i w, tm_i 0, tm_i 4] [] C (c8_in E _ μ w 0 4 (by omega) (by omega) (by omega)) cs_X8_94 (by decide) rfl (Nat.le_of_ble_eq_true rfl) rfl dX8_at_10 (tm_kp ?_)
    refine tv_ifeqB (pc := 13) 25 C dX8_at_13 (by decide) (fun h13 => ?_) (fun h13 => ?_)
    · skip
      refine tv_bipush (pc := 25) C dX8_at_25 (by decide) ?_
      refine tv_iret (pc := 27) C dX8_at_27 ?_
      exact ⟨_, rfl, by unfold at_z; rw [if_neg (by omega)], hI, fun a _ => rfl⟩
    · skip
      refine tv_aload_n (pc := 16) 0 C dX8_at_16 rfl rfl ?_
      refine tv_iload_n (pc := 17) 1 C dX8_at_17 rfl rfl ?_
      refine tv_iload_n (pc := 18) 2 C dX8_at_18 rfl rfl ?_
      refine tv_callV (pc := 19) [tm_i t, tm_i w] [] C (k8_atOf E _ μ d s hd hI t w (by omega) (by omega)) cv_X8_222 rfl rfl (by decide) rfl (Nat.le_of_ble_eq_true rfl) rfl dX8_at_19 (tm_ki ?_)
      rintro zz n1 ⟨hz, hI1, g2, fr1⟩
      refine tv_goto (pc := 22) 27 C dX8_at_22 (by decide) ?_
      refine tv_iret (pc := 27) C dX8_at_27 ?_
      exact ⟨_, rfl, hz, hI1, fr1⟩
theorem k8_endsOf (E : tm_Ev) (l : Launch) (μ : tm_M) (d s : tm_M) (hd : dd_ok d) (hI : rf_I μ d s) (k : Int) (hk : 0 ≤ k ∧ k < (dd_n d : Int)) : tm_Met E l yX8_endsOf cX8_endsOf 2 (some .int) 8 [.ref (E.2.1 74), tm_i k] μ (tm_pi (fun z μ' => z = en_z d k ∧ rf_I μ' d s ∧ rf_r μ' d ∧ ∀ a, a < 74 → μ' a = μ a)) := by
  refine tm_intro [(0, .ref (E.2.1 74)), (1, tm_i k)] rfl (by decide +kernel) (Nat.le_of_ble_eq_true rfl) ?_
  intro X hX C
  subst hX
  have h8 : dd_n d ≤ 8 := sp_no_bd _ (by have q := hd.2.1; omega)
  refine tv_aload_n (pc := 0) 0 C dX8_endsOf_0 rfl rfl ?_
  refine tv_callV (pc := 1) [] [] C (c8_runsTold E _ μ d hd hI.1) cv_X8_219 rfl rfl (by decide) rfl (Nat.le_of_ble_eq_true rfl) rfl dX8_endsOf_1 (tm_kv ?_)
  rintro n1 ⟨g1, g2, g4, g3⟩
  have hI1 := rf_I_k hI g1 g3
  have fr1 : ∀ a, a < 74 → n1 a = μ a := fun a ha => g3.1 a (by omega) (by omega) (by omega) (by omega) (by omega)
  have hn := g2.2.1
  refine tv_aload_n (pc := 4) 0 C dX8_endsOf_4 rfl rfl ?_
  refine tv_getr (pc := 5) (q := 92) C rfl rfl fl_X8_61 dX8_endsOf_5 ?_
  refine tv_iload_n (pc := 8) 1 C dX8_endsOf_8 rfl rfl ?_
  refine tv_iald (pc := 9) (j := k.toNat) (z := n1 92 k.toNat) C rfl dX8_endsOf_9 (by omega) rfl rfl ?_
  refine tv_iret (pc := 10) C dX8_endsOf_10 ?_
  exact ⟨_, rfl, by unfold en_z; rw [if_pos (by omega)]; exact g4.2.1 k.toNat (by omega), hI1, g2, fr1⟩
theorem k8_ends (E : tm_Ev) (l : Launch) (μ : tm_M) (d s : tm_M) (hd : dd_ok d) (hI : rf_I μ d s) (k : Int) (hk : -2147483648 ≤ k ∧ k ≤ 2147483647) : tm_Met E l yX8_ends cX8_ends 2 (some .int) 9 [.ref (E.2.1 74), tm_i k] μ (tm_pi (fun z μ' => z = en_z d k ∧ rf_I μ' d s ∧ ∀ a, a < 74 → μ' a = μ a)) := by
  refine tm_intro [(0, .ref (E.2.1 74)), (1, tm_i k)] rfl (by decide +kernel) (Nat.le_of_ble_eq_true rfl) ?_
  intro X hX C
  subst hX
  have h8 : dd_n d ≤ 8 := sp_no_bd _ (by have q := hd.2.1; omega)
  refine tv_aload_n (pc := 0) 0 C dX8_ends_0 rfl rfl ?_
  refine tv_iload_n (pc := 1) 1 C dX8_ends_1 rfl rfl ?_
  refine tv_callV (pc := 2) [tm_i k] [] C (k8_isOrder E _ μ d s hd hI k (by omega)) cv_X8_140 rfl rfl (by decide) rfl (Nat.le_of_ble_eq_true rfl) rfl dX8_ends_2 (tm_ki ?_)
  rintro z1 n1 ⟨rfl, hI1, g2, fr1⟩
  have hn := g2.2.1
  refine tv_ifeqB (pc := 5) 16 C dX8_ends_5 (by decide) (fun h5 => ?_) (fun h5 => ?_)
  · skip
    refine tv_bipush (pc := 16) C dX8_ends_16 (by decide) ?_
    refine tv_iret (pc := 18) C dX8_ends_18 ?_
    exact ⟨_, rfl, by unfold en_z; rw [if_neg (by omega)], hI1, fr1⟩
  · skip
    refine tv_aload_n (pc := 8) 0 C dX8_ends_8 rfl rfl ?_
    refine tv_iload_n (pc := 9) 1 C dX8_ends_9 rfl rfl ?_
    refine tv_callV (pc := 10) [tm_i k] [] C (k8_endsOf E _ n1 d s hd hI1 k (by omega)) cv_X8_225 rfl rfl (by decide) rfl (Nat.le_of_ble_eq_true rfl) rfl dX8_ends_10 (tm_ki ?_)
    rintro zz n2 ⟨hz, hI2, g3, fr2⟩
    refine tv_goto (pc := 13) 18 C dX8_ends_13 (by decide) ?_
    refine tv_iret (pc := 18) C dX8_ends_18 ?_
    exact ⟨_, rfl, hz, hI2, fun a ha => by rw [fr2 a ha, fr1 a ha]⟩
theorem k8_paidOf (E : tm_Ev) (l : Launch) (μ : tm_M) (d s : tm_M) (hd : dd_ok d) (hI : rf_I μ d s) : tm_Met E l yX8_paidOf cX8_paidOf 1 (some .int) 8 [.ref (E.2.1 74)] μ (tm_pi (fun z μ' => z = pa_z d ∧ rf_I μ' d s ∧ rf_r μ' d ∧ ∀ a, a < 74 → μ' a = μ a)) := by
  refine tm_intro [(0, .ref (E.2.1 74))] rfl (by decide +kernel) (Nat.le_of_ble_eq_true rfl) ?_
  intro X hX C
  subst hX
  refine tv_aload_n (pc := 0) 0 C dX8_paidOf_0 rfl rfl ?_
  refine tv_callV (pc := 1) [] [] C (c8_runsTold E _ μ d hd hI.1) cv_X8_219 rfl rfl (by decide) rfl (Nat.le_of_ble_eq_true rfl) rfl dX8_paidOf_1 (tm_kv ?_)
  rintro n1 ⟨g1, g2, g4, g3⟩
  have hI1 := rf_I_k hI g1 g3
  have fr1 : ∀ a, a < 74 → n1 a = μ a := fun a ha => g3.1 a (by omega) (by omega) (by omega) (by omega) (by omega)
  have hn := g2.2.1
  refine tv_aload_n (pc := 4) 0 C dX8_paidOf_4 rfl rfl ?_
  refine tv_callV (pc := 5) [] [] C (c8_paidNow E _ n1 d _ hd hn (fun k hk => ⟨(g2.2.2.2 k hk).2.2.1, (g2.2.2.2 k hk).2.2.2⟩) g4.2.1 (sm_e_40 _)) cv_X8_231 rfl rfl (by decide) rfl (Nat.le_of_ble_eq_true rfl) rfl dX8_paidOf_5 (tm_kp ?_)
  refine tv_iret (pc := 8) C dX8_paidOf_8 ?_
  exact ⟨_, rfl, rfl, hI1, g2, fr1⟩
theorem k8_spiltOf (E : tm_Ev) (l : Launch) (μ : tm_M) (d s : tm_M) (hd : dd_ok d) (hI : rf_I μ d s) : tm_Met E l yX8_spiltOf cX8_spiltOf 1 (some .int) 8 [.ref (E.2.1 74)] μ (tm_pi (fun z μ' => z = sm_s (dd_p d) 40 ∧ rf_I μ' d s ∧ rf_r μ' d ∧ ∀ a, a < 74 → μ' a = μ a)) := by
  refine tm_intro [(0, .ref (E.2.1 74))] rfl (by decide +kernel) (Nat.le_of_ble_eq_true rfl) ?_
  intro X hX C
  subst hX
  refine tv_aload_n (pc := 0) 0 C dX8_spiltOf_0 rfl rfl ?_
  refine tv_callV (pc := 1) [] [] C (c8_runsTold E _ μ d hd hI.1) cv_X8_219 rfl rfl (by decide) rfl (Nat.le_of_ble_eq_true rfl) rfl dX8_spiltOf_1 (tm_kv ?_)
  rintro n1 ⟨g1, g2, g4, g3⟩
  have hI1 := rf_I_k hI g1 g3
  have fr1 : ∀ a, a < 74 → n1 a = μ a := fun a ha => g3.1 a (by omega) (by omega) (by omega) (by omega) (by omega)
  have hn := g2.2.1
  refine tv_aload_n (pc := 4) 0 C dX8_spiltOf_4 rfl rfl ?_
  refine tv_geti (pc := 5) (z := n1 74 24) C rfl rfl fl_X8_182 dX8_spiltOf_5 rfl ?_
  refine tv_iret (pc := 8) C dX8_spiltOf_8 ?_
  exact ⟨_, rfl, g4.2.2.2.1, hI1, g2, fr1⟩
theorem k8_idleOf (E : tm_Ev) (l : Launch) (μ : tm_M) (d s : tm_M) (hd : dd_ok d) (hI : rf_I μ d s) : tm_Met E l yX8_idleOf cX8_idleOf 1 (some .int) 8 [.ref (E.2.1 74)] μ (tm_pi (fun z μ' => z = sm_i (dd_p d) 40 ∧ rf_I μ' d s ∧ rf_r μ' d ∧ ∀ a, a < 74 → μ' a = μ a)) := by
  refine tm_intro [(0, .ref (E.2.1 74))] rfl (by decide +kernel) (Nat.le_of_ble_eq_true rfl) ?_
  intro X hX C
  subst hX
  refine tv_aload_n (pc := 0) 0 C dX8_idleOf_0 rfl rfl ?_
  refine tv_callV (pc := 1) [] [] C (c8_runsTold E _ μ d hd hI.1) cv_X8_219 rfl rfl (by decide) rfl (Nat.le_of_ble_eq_true rfl) rfl dX8_idleOf_1 (tm_kv ?_)
  rintro n1 ⟨g1, g2, g4, g3⟩
  have hI1 := rf_I_k hI g1 g3
  have fr1 : ∀ a, a < 74 → n1 a = μ a := fun a ha => g3.1 a (by omega) (by omega) (by omega) (by omega) (by omega)
  have hn := g2.2.1
  refine tv_aload_n (pc := 4) 0 C dX8_idleOf_4 rfl rfl ?_
  refine tv_geti (pc := 5) (z := n1 74 25) C rfl rfl fl_X8_191 dX8_idleOf_5 rfl ?_
  refine tv_iret (pc := 8) C dX8_idleOf_8 ?_
  exact ⟨_, rfl, g4.2.2.2.2.1, hI1, g2, fr1⟩
theorem l_lateOf {E : tm_Ev} {X : tm_X} (C : tm_C E X yX8_lateOf.cls cX8_lateOf 3 (some .int) 8) (n1 d : tm_M) (hd : dd_ok d) (hn : n1 74 4 = (dd_n d : Int)) (hor : ∀ k, k < dd_n d → n1 80 k = od_d (d 2) k ∧ n1 81 k = od_p (d 2) k) (he : ∀ k, k < 8 → n1 92 k = sm_e (dd_p d) 40 k) (h8 : dd_n d ≤ 8) (post : Option Value → tm_M → Prop) (hpost : post (some (tm_i (la_z d))) n1) : ∀ (f k : Nat) (x y : Int), x = k → k ≤ dd_n d → dd_n d - k < f → y = bi_n (fun k => !(py_b d (sm_e (dd_p d) 40) k)) k → tm_V E X (tm_Q E X post) 3 8 [(2, tm_i x), (1, tm_i y), (0, .ref (E.2.1 74))] [] n1 := by
  intro f
  induction f with
  | zero => intro k x y hx hj hf hy; omega
  | succ f ih =>
    intro k x y hx hj hf hy
    refine tv_iload_n (pc := 8) 0 C dX8_lateOf_8 rfl rfl ?_
    refine tv_aload_n (pc := 9) 2 C dX8_lateOf_9 rfl rfl ?_
    refine tv_geti (pc := 10) (z := (dd_n d : Int)) C rfl rfl fl_X8_114 dX8_lateOf_10 hn ?_
    refine tv_icmp_ge (pc := 13) 40 C dX8_lateOf_13 (by decide) (by omega) (by omega) (fun h13 => ?_) (fun h13 => ?_)
    · skip
      refine tv_iload_n (pc := 40) 1 C dX8_lateOf_40 rfl rfl ?_
      refine tv_iret (pc := 41) C dX8_lateOf_41 ?_
      have hin : k = dd_n d := by omega
      subst hin
      rw [hy]
      exact hpost
    · skip
      refine tv_iload_n (pc := 16) 1 C dX8_lateOf_16 rfl rfl ?_
      refine tv_aload_n (pc := 17) 2 C dX8_lateOf_17 rfl rfl ?_
      refine tv_iload_n (pc := 18) 0 C dX8_lateOf_18 rfl rfl ?_
      refine tv_callV (pc := 19) [tm_i x] [tm_i y] C (c8_isPaid E _ n1 d (sm_e (dd_p d) 40) hd hn hor he (sm_e_40 _) k _ hx (by omega)) cv_X8_228 rfl rfl (by decide) rfl (Nat.le_of_ble_eq_true rfl) rfl dX8_lateOf_19 (tm_kp ?_)
      refine tv_ifeqB (pc := 22) 29 C dX8_lateOf_22 (by decide) (fun h22 => ?_) (fun h22 => ?_)
      · skip
        refine tv_iconst (pc := 29) C dX8_lateOf_29 ?_
        refine tv_iload_n (pc := 30) 0 C dX8_lateOf_30 rfl rfl ?_
        refine tv_ishl (pc := 31) (z := (2 ^ k)) C dX8_lateOf_31 (by rw [hx]; exact tb_shl (by omega)) ?_
        refine tv_ior (pc := 32) (z := (y + 2 ^ k)) C dX8_lateOf_32 (by rw [hy]; exact tb_or (by omega) (bi_bd _ k)) ?_
        refine tv_istore_n (pc := 33) [(1, tm_i (y + 2 ^ k)), (2, tm_i x), (0, .ref (E.2.1 74))] C dX8_lateOf_33 rfl (by decide) rfl ?_
        refine tv_iinc (pc := 34) 1 [(2, tm_i (x + 1)), (1, tm_i (y + 2 ^ k)), (0, .ref (E.2.1 74))] C dX8_lateOf_34 rfl (by decide) rfl ?_
        refine tv_goto (pc := 37) 8 C dX8_lateOf_37 (by decide) ?_
        refine tv_sub (lv1 := [(2, tm_i (x + 1)), (1, tm_i (y + 2 ^ k)), (0, .ref (E.2.1 74))]) [0, 1, 2] rfl ?_
        exact ih (k + 1) (x + 1) _ (by omega) (by omega) (by omega) (by rw [bi_s, if_pos (by simp [h22])]; omega)
      · skip
        refine tv_iconst (pc := 25) C dX8_lateOf_25 ?_
        refine tv_goto (pc := 26) 32 C dX8_lateOf_26 (by decide) ?_
        refine tv_ior (pc := 32) (z := (y + 0)) C dX8_lateOf_32 (by rw [Int.add_zero]; exact tb_or0 (by have q := bi_r (fun k => !(py_b d (sm_e (dd_p d) 40) k)) (n := k) (by omega); omega)) ?_
        refine tv_istore_n (pc := 33) [(1, tm_i (y + 0)), (2, tm_i x), (0, .ref (E.2.1 74))] C dX8_lateOf_33 rfl (by decide) rfl ?_
        refine tv_iinc (pc := 34) 1 [(2, tm_i (x + 1)), (1, tm_i (y + 0)), (0, .ref (E.2.1 74))] C dX8_lateOf_34 rfl (by decide) rfl ?_
        refine tv_goto (pc := 37) 8 C dX8_lateOf_37 (by decide) ?_
        refine tv_sub (lv1 := [(2, tm_i (x + 1)), (1, tm_i (y + 0)), (0, .ref (E.2.1 74))]) [0, 1, 2] rfl ?_
        exact ih (k + 1) (x + 1) _ (by omega) (by omega) (by omega) (by rw [bi_s, if_neg (by simp [h22])]; omega)
theorem k8_lateOf (E : tm_Ev) (l : Launch) (μ : tm_M) (d s : tm_M) (hd : dd_ok d) (hI : rf_I μ d s) : tm_Met E l yX8_lateOf cX8_lateOf 3 (some .int) 8 [.ref (E.2.1 74)] μ (tm_pi (fun z μ' => z = la_z d ∧ rf_I μ' d s ∧ rf_r μ' d ∧ ∀ a, a < 74 → μ' a = μ a)) := by
  refine tm_intro [(0, .ref (E.2.1 74))] rfl (by decide +kernel) (Nat.le_of_ble_eq_true rfl) ?_
  intro X hX C
  subst hX
  have h8 : dd_n d ≤ 8 := sp_no_bd _ (by have q := hd.2.1; omega)
  refine tv_aload_n (pc := 0) 0 C dX8_lateOf_0 rfl rfl ?_
  refine tv_callV (pc := 1) [] [] C (c8_runsTold E _ μ d hd hI.1) cv_X8_219 rfl rfl (by decide) rfl (Nat.le_of_ble_eq_true rfl) rfl dX8_lateOf_1 (tm_kv ?_)
  rintro n1 ⟨g1, g2, g4, g3⟩
  have hI1 := rf_I_k hI g1 g3
  have fr1 : ∀ a, a < 74 → n1 a = μ a := fun a ha => g3.1 a (by omega) (by omega) (by omega) (by omega) (by omega)
  have hn := g2.2.1
  refine tv_iconst (pc := 4) C dX8_lateOf_4 ?_
  refine tv_istore_n (pc := 5) [(1, tm_i 0), (0, .ref (E.2.1 74))] C dX8_lateOf_5 rfl (by decide) rfl ?_
  refine tv_iconst (pc := 6) C dX8_lateOf_6 ?_
  refine tv_istore_n (pc := 7) [(2, tm_i 0), (1, tm_i 0), (0, .ref (E.2.1 74))] C dX8_lateOf_7 rfl (by decide) rfl ?_
  refine tv_sub (lv1 := [(2, tm_i 0), (1, tm_i 0), (0, .ref (E.2.1 74))]) [0, 1, 2] rfl ?_
  exact l_lateOf C n1 d hd hn (fun k hk => ⟨(g2.2.2.2 k hk).2.2.1, (g2.2.2.2 k hk).2.2.2⟩) g4.2.1 h8 _ ⟨_, rfl, rfl, hI1, g2, fr1⟩ (dd_n d + 1) 0 0 0 rfl (by omega) (by omega) rfl
theorem k8_paid (E : tm_Ev) (l : Launch) (μ : tm_M) (d s : tm_M) (hd : dd_ok d) (hI : rf_I μ d s) : tm_Met E l yX8_paid cX8_paid 1 (some .int) 9 [.ref (E.2.1 74)] μ (tm_pi (fun z μ' => z = pa_z d ∧ rf_I μ' d s ∧ ∀ a, a < 74 → μ' a = μ a)) := by
  refine tm_intro [(0, .ref (E.2.1 74))] rfl (by decide +kernel) (Nat.le_of_ble_eq_true rfl) ?_
  intro X hX C
  subst hX
  refine tv_aload_n (pc := 0) 0 C dX8_paid_0 rfl rfl ?_
  refine tv_callV (pc := 1) [] [] C (k8_paidOf E _ μ d s hd hI ) cv_X8_234 rfl rfl (by decide) rfl (Nat.le_of_ble_eq_true rfl) rfl dX8_paid_1 (tm_ki ?_)
  rintro zz n1 ⟨hz, hI1, g2, fr1⟩
  refine tv_iret (pc := 4) C dX8_paid_4 ?_
  exact ⟨_, rfl, hz, hI1, fr1⟩
theorem k8_spilt (E : tm_Ev) (l : Launch) (μ : tm_M) (d s : tm_M) (hd : dd_ok d) (hI : rf_I μ d s) : tm_Met E l yX8_spilt cX8_spilt 1 (some .int) 9 [.ref (E.2.1 74)] μ (tm_pi (fun z μ' => z = sm_s (dd_p d) 40 ∧ rf_I μ' d s ∧ ∀ a, a < 74 → μ' a = μ a)) := by
  refine tm_intro [(0, .ref (E.2.1 74))] rfl (by decide +kernel) (Nat.le_of_ble_eq_true rfl) ?_
  intro X hX C
  subst hX
  refine tv_aload_n (pc := 0) 0 C dX8_spilt_0 rfl rfl ?_
  refine tv_callV (pc := 1) [] [] C (k8_spiltOf E _ μ d s hd hI ) cv_X8_237 rfl rfl (by decide) rfl (Nat.le_of_ble_eq_true rfl) rfl dX8_spilt_1 (tm_ki ?_)
  rintro zz n1 ⟨hz, hI1, g2, fr1⟩
  refine tv_iret (pc := 4) C dX8_spilt_4 ?_
  exact ⟨_, rfl, hz, hI1, fr1⟩
theorem k8_idle (E : tm_Ev) (l : Launch) (μ : tm_M) (d s : tm_M) (hd : dd_ok d) (hI : rf_I μ d s) : tm_Met E l yX8_idle cX8_idle 1 (some .int) 9 [.ref (E.2.1 74)] μ (tm_pi (fun z μ' => z = sm_i (dd_p d) 40 ∧ rf_I μ' d s ∧ ∀ a, a < 74 → μ' a = μ a)) := by
  refine tm_intro [(0, .ref (E.2.1 74))] rfl (by decide +kernel) (Nat.le_of_ble_eq_true rfl) ?_
  intro X hX C
  subst hX
  refine tv_aload_n (pc := 0) 0 C dX8_idle_0 rfl rfl ?_
  refine tv_callV (pc := 1) [] [] C (k8_idleOf E _ μ d s hd hI ) cv_X8_240 rfl rfl (by decide) rfl (Nat.le_of_ble_eq_true rfl) rfl dX8_idle_1 (tm_ki ?_)
  rintro zz n1 ⟨hz, hI1, g2, fr1⟩
  refine tv_iret (pc := 4) C dX8_idle_4 ?_
  exact ⟨_, rfl, hz, hI1, fr1⟩
theorem k8_late (E : tm_Ev) (l : Launch) (μ : tm_M) (d s : tm_M) (hd : dd_ok d) (hI : rf_I μ d s) : tm_Met E l yX8_late cX8_late 1 (some .int) 9 [.ref (E.2.1 74)] μ (tm_pi (fun z μ' => z = la_z d ∧ rf_I μ' d s ∧ ∀ a, a < 74 → μ' a = μ a)) := by
  refine tm_intro [(0, .ref (E.2.1 74))] rfl (by decide +kernel) (Nat.le_of_ble_eq_true rfl) ?_
  intro X hX C
  subst hX
  refine tv_aload_n (pc := 0) 0 C dX8_late_0 rfl rfl ?_
  refine tv_callV (pc := 1) [] [] C (k8_lateOf E _ μ d s hd hI ) cv_X8_243 rfl rfl (by decide) rfl (Nat.le_of_ble_eq_true rfl) rfl dX8_late_1 (tm_ki ?_)
  rintro zz n1 ⟨hz, hI1, g2, fr1⟩
  refine tv_iret (pc := 4) C dX8_late_4 ?_
  exact ⟨_, rfl, hz, hI1, fr1⟩
theorem k8_sumOf (E : tm_Ev) (l : Launch) (μ : tm_M) (d s : tm_M) (hd : dd_ok d) (hI : rf_I μ d s) (w : Int) (hw : w = 0 ∨ w = 1 ∨ w = 6) : tm_Met E l yX8_sumOf cX8_sumOf 2 (some .int) 8 [.ref (E.2.1 74), tm_i w] μ (tm_pi (fun z μ' => z = co_z d s w ∧ rf_I μ' d s ∧ rf_r μ' d ∧ ∀ a, a < 74 → μ' a = μ a)) := by
  refine tm_intro [(0, .ref (E.2.1 74)), (1, tm_i w)] rfl (by decide +kernel) (Nat.le_of_ble_eq_true rfl) ?_
  intro X hX C
  subst hX
  refine tv_aload_n (pc := 0) 0 C dX8_sumOf_0 rfl rfl ?_
  refine tv_callV (pc := 1) [] [] C (c8_runsTold E _ μ d hd hI.1) cv_X8_219 rfl rfl (by decide) rfl (Nat.le_of_ble_eq_true rfl) rfl dX8_sumOf_1 (tm_kv ?_)
  rintro n1 ⟨g1, g2, g4, g3⟩
  have hI1 := rf_I_k hI g1 g3
  have fr1 : ∀ a, a < 74 → n1 a = μ a := fun a ha => g3.1 a (by omega) (by omega) (by omega) (by omega) (by omega)
  have hn := g2.2.1
  refine tv_iload_n (pc := 4) 1 C dX8_sumOf_4 rfl rfl ?_
  refine tv_if_ne (pc := 5) 15 C dX8_sumOf_5 (by decide) (by omega) (fun h5 => ?_) (fun h5 => ?_)
  · skip
    refine tv_iload_n (pc := 15) 1 C dX8_sumOf_15 rfl rfl ?_
    refine tv_iconst (pc := 16) C dX8_sumOf_16 ?_
    refine tv_icmp_ne (pc := 17) 27 C dX8_sumOf_17 (by decide) (by omega) (by omega) (fun h17 => ?_) (fun h17 => ?_)
    · skip
      refine tv_aload_n (pc := 27) 0 C dX8_sumOf_27 rfl rfl ?_
      refine tv_geti (pc := 28) (z := n1 74 23) C rfl rfl fl_X8_194 dX8_sumOf_28 rfl ?_
      refine tv_iret (pc := 31) C dX8_sumOf_31 ?_
      exact ⟨_, rfl, by unfold co_z; rw [if_neg (by omega), if_neg (by omega), if_neg (by omega), if_neg (by omega), if_neg (by omega), if_neg (by omega), if_pos (by omega)]; exact g4.2.2.1, hI1, g2, fr1⟩
    · skip
      refine tv_aload_n (pc := 20) 0 C dX8_sumOf_20 rfl rfl ?_
      refine tv_geti (pc := 21) (z := (dd_n d : Int)) C rfl rfl fl_X8_114 dX8_sumOf_21 hn ?_
      refine tv_goto (pc := 24) 31 C dX8_sumOf_24 (by decide) ?_
      refine tv_iret (pc := 31) C dX8_sumOf_31 ?_
      exact ⟨_, rfl, by unfold co_z; rw [if_neg (by omega), if_pos (by omega)], hI1, g2, fr1⟩
  · skip
    refine tv_aload_n (pc := 8) 0 C dX8_sumOf_8 rfl rfl ?_
    refine tv_geti (pc := 9) (z := n1 74 2) C rfl rfl fl_X8_102 dX8_sumOf_9 rfl ?_
    refine tv_goto (pc := 12) 31 C dX8_sumOf_12 (by decide) ?_
    refine tv_iret (pc := 31) C dX8_sumOf_31 ?_
    exact ⟨_, rfl, by unfold co_z; rw [if_pos (by omega)]; exact g2.1, hI1, g2, fr1⟩
theorem k8_count (E : tm_Ev) (l : Launch) (μ : tm_M) (d s : tm_M) (hd : dd_ok d) (hI : rf_I μ d s) (w : Int) (hw : -2147483648 ≤ w ∧ w ≤ 2147483647) : tm_Met E l yX8_count cX8_count 2 (some .int) 9 [.ref (E.2.1 74), tm_i w] μ (tm_pi (fun z μ' => z = co_z d s w ∧ rf_I μ' d s ∧ ∀ a, a < 74 → μ' a = μ a)) := by
  refine tm_intro [(0, .ref (E.2.1 74)), (1, tm_i w)] rfl (by decide +kernel) (Nat.le_of_ble_eq_true rfl) ?_
  intro X hX C
  subst hX
  refine tv_iload_n (pc := 0) 1 C dX8_count_0 rfl rfl ?_
  rcases (show w = 0 ∨ w = 1 ∨ w = 2 ∨ w = 3 ∨ w = 4 ∨ w = 5 ∨ w = 6 ∨ w = 7 ∨ w = 8 ∨ (w < 0 ∨ 8 < w) by omega) with rfl | rfl | rfl | rfl | rfl | rfl | rfl | rfl | rfl | hw9
  · skip
    refine tv_tabI (pc := 1) (off := 51) 52 C dX8_count_1 (by omega) (by omega) (by decide) (by decide) ?_
    refine tv_aload_n (pc := 52) 0 C dX8_count_52 rfl rfl ?_
    refine tv_iload_n (pc := 53) 1 C dX8_count_53 rfl rfl ?_
    refine tv_callV (pc := 54) [tm_i 0] [] C (k8_sumOf E _ μ d s hd hI 0 (by omega)) cv_X8_311 rfl rfl (by decide) rfl (Nat.le_of_ble_eq_true rfl) rfl dX8_count_54 (tm_ki ?_)
    rintro zz n1 ⟨hz, hI1, g2, fr1⟩
    refine tv_iret (pc := 57) C dX8_count_57 ?_
    exact ⟨_, rfl, hz, hI1, fr1⟩
  · skip
    refine tv_tabI (pc := 1) (off := 51) 52 C dX8_count_1 (by omega) (by omega) (by decide) (by decide) ?_
    refine tv_aload_n (pc := 52) 0 C dX8_count_52 rfl rfl ?_
    refine tv_iload_n (pc := 53) 1 C dX8_count_53 rfl rfl ?_
    refine tv_callV (pc := 54) [tm_i 1] [] C (k8_sumOf E _ μ d s hd hI 1 (by omega)) cv_X8_311 rfl rfl (by decide) rfl (Nat.le_of_ble_eq_true rfl) rfl dX8_count_54 (tm_ki ?_)
    rintro zz n1 ⟨hz, hI1, g2, fr1⟩
    refine tv_iret (pc := 57) C dX8_count_57 ?_
    exact ⟨_, rfl, hz, hI1, fr1⟩
  · skip
    refine tv_tabI (pc := 1) (off := 57) 58 C dX8_count_1 (by omega) (by omega) (by decide) (by decide) ?_
    refine tv_aload_n (pc := 58) 0 C dX8_count_58 rfl rfl ?_
    refine tv_getr (pc := 59) (q := 75) C rfl rfl fl_X8_7 dX8_count_59 ?_
    refine tv_iload_n (pc := 62) 1 C dX8_count_62 rfl rfl ?_
    refine tv_iconst (pc := 63) C dX8_count_63 ?_
    refine tv_isub (pc := 64) C dX8_count_64 ?_
    refine tv_iald (pc := 65) (j := 0) (z := μ 75 0) C rfl dX8_count_65 (by omega) (by omega) rfl ?_
    refine tv_iret (pc := 66) C dX8_count_66 ?_
    exact ⟨_, rfl, hI.1.1, hI, fun a _ => rfl⟩
  · skip
    refine tv_tabI (pc := 1) (off := 57) 58 C dX8_count_1 (by omega) (by omega) (by decide) (by decide) ?_
    refine tv_aload_n (pc := 58) 0 C dX8_count_58 rfl rfl ?_
    refine tv_getr (pc := 59) (q := 75) C rfl rfl fl_X8_7 dX8_count_59 ?_
    refine tv_iload_n (pc := 62) 1 C dX8_count_62 rfl rfl ?_
    refine tv_iconst (pc := 63) C dX8_count_63 ?_
    refine tv_isub (pc := 64) C dX8_count_64 ?_
    refine tv_iald (pc := 65) (j := 1) (z := μ 75 1) C rfl dX8_count_65 (by omega) (by omega) rfl ?_
    refine tv_iret (pc := 66) C dX8_count_66 ?_
    exact ⟨_, rfl, hI.1.2.1, hI, fun a _ => rfl⟩
  · skip
    refine tv_tabI (pc := 1) (off := 66) 67 C dX8_count_1 (by omega) (by omega) (by decide) (by decide) ?_
    refine tv_aload_n (pc := 67) 0 C dX8_count_67 rfl rfl ?_
    refine tv_geti (pc := 68) (z := μ 74 10) C rfl rfl fl_X8_146 dX8_count_68 rfl ?_
    refine tv_iret (pc := 71) C dX8_count_71 ?_
    exact ⟨_, rfl, hI.1.2.2.2.2.1, hI, fun a _ => rfl⟩
  · skip
    refine tv_tabI (pc := 1) (off := 71) 72 C dX8_count_1 (by omega) (by omega) (by decide) (by decide) ?_
    refine tv_aload_n (pc := 72) 0 C dX8_count_72 rfl rfl ?_
    refine tv_geti (pc := 73) (z := μ 74 12) C rfl rfl fl_X8_149 dX8_count_73 rfl ?_
    refine tv_iret (pc := 76) C dX8_count_76 ?_
    exact ⟨_, rfl, hI.1.2.2.2.2.2.1, hI, fun a _ => rfl⟩
  · skip
    refine tv_tabI (pc := 1) (off := 51) 52 C dX8_count_1 (by omega) (by omega) (by decide) (by decide) ?_
    refine tv_aload_n (pc := 52) 0 C dX8_count_52 rfl rfl ?_
    refine tv_iload_n (pc := 53) 1 C dX8_count_53 rfl rfl ?_
    refine tv_callV (pc := 54) [tm_i 6] [] C (k8_sumOf E _ μ d s hd hI 6 (by omega)) cv_X8_311 rfl rfl (by decide) rfl (Nat.le_of_ble_eq_true rfl) rfl dX8_count_54 (tm_ki ?_)
    rintro zz n1 ⟨hz, hI1, g2, fr1⟩
    refine tv_iret (pc := 57) C dX8_count_57 ?_
    exact ⟨_, rfl, hz, hI1, fr1⟩
  · skip
    refine tv_tabI (pc := 1) (off := 76) 77 C dX8_count_1 (by omega) (by omega) (by decide) (by decide) ?_
    refine tv_aload_n (pc := 77) 0 C dX8_count_77 rfl rfl ?_
    refine tv_geti (pc := 78) (z := μ 74 35) C rfl rfl fl_X8_265 dX8_count_78 rfl ?_
    refine tv_iret (pc := 81) C dX8_count_81 ?_
    exact ⟨_, rfl, hI.2.1, hI, fun a _ => rfl⟩
  · skip
    refine tv_tabI (pc := 1) (off := 81) 82 C dX8_count_1 (by omega) (by omega) (by decide) (by decide) ?_
    refine tv_aload_n (pc := 82) 0 C dX8_count_82 rfl rfl ?_
    refine tv_geti (pc := 83) (z := μ 74 44) C rfl rfl fl_X8_300 dX8_count_83 rfl ?_
    refine tv_iret (pc := 86) C dX8_count_86 ?_
    exact ⟨_, rfl, hI.2.2.2.1, hI, fun a _ => rfl⟩
  · skip
    refine tv_tabO (pc := 1) 87 C dX8_count_1 (by omega) (by omega) (by decide) ?_
    refine tv_bipush (pc := 87) C dX8_count_87 (by decide) ?_
    refine tv_iret (pc := 89) C dX8_count_89 ?_
    exact ⟨_, rfl, by unfold co_z; rw [if_neg (by omega), if_neg (by omega), if_neg (by omega), if_neg (by omega), if_neg (by omega), if_neg (by omega), if_neg (by omega), if_neg (by omega), if_neg (by omega)], hI, fun a _ => rfl⟩
