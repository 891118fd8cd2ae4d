theorem io_z (k n : Int) : (if 0 ≤ k ∧ k ≤ n - 1 then (1 : Int) else 0) = if 0 ≤ k ∧ k < n then 1 else 0 := by
  by_cases hc : 0 ≤ k ∧ k < n
  · rw [if_pos hc, if_pos (by omega)]
  · rw [if_neg hc, if_neg (by omega)]
theorem k7_isOrder (E : tm_Ev) (l : Launch) (μ : tm_M) (d s : tm_M) (hd : dd_ok d) (hI : cl_I μ d s) (k : Int) (hk : -2147483648 ≤ k ∧ k ≤ 2147483647) : tm_Met E l yX7_isOrder cX7_isOrder 2 (some .boolean) 5 [.ref (E.2.1 0), tm_i k] μ (tm_pi (fun z μ' => z = (if 0 ≤ k ∧ k < (dd_n d : Int) then 1 else 0) ∧ cl_I μ' d s ∧ cl_s μ' d ∧ μ' 0 16 = 1 ∧ ∀ a, 74 ≤ a → μ' a = μ a)) := by
  refine tm_intro [(0, .ref (E.2.1 0)), (1, tm_i k)] rfl (by decide +kernel) (Nat.le_of_ble_eq_true rfl) ?_
  intro X hX C
  subst hX
  have h8 : dd_n d ≤ 8 := sp_no_bd _ (by have q := hd.2.1; omega)
  refine tv_aload_n (pc := 0) 0 C dX7_isOrder_0 rfl rfl ?_
  refine tv_callV (pc := 1) [] [] C (c7_settle E _ μ d hd hI.1 hI.2.2.1 hI.2.2.2.1) cv_X7_125 rfl rfl (by decide) rfl (Nat.le_of_ble_eq_true rfl) rfl dX7_isOrder_1 (tm_kv ?_)
  rintro n1 ⟨g1, g2, g3, g4, g5⟩
  have hI1 := cl_I_set hI g1 g2 g3 g4 g5
  have fr1 : ∀ a, 74 ≤ a → n1 a = μ a := fun a ha => g4 a (by omega)
  have hn := g2.2.1
  have hor := fun k hk => (g2.2.2.1 k hk)
  refine tv_iload_n (pc := 4) 1 C dX7_isOrder_4 rfl rfl ?_
  refine tv_iconst (pc := 5) C dX7_isOrder_5 ?_
  refine tv_aload_n (pc := 6) 0 C dX7_isOrder_6 rfl rfl ?_
  refine tv_getr (pc := 7) (q := 23) C rfl rfl fl_X7_41 dX7_isOrder_7 ?_
  refine tv_geti (pc := 10) (z := (dd_n d : Int)) C rfl rfl fl_X7_205 dX7_isOrder_10 hn ?_
  refine tv_iconst (pc := 13) C dX7_isOrder_13 ?_
  refine tv_isub (pc := 14) C dX7_isOrder_14 ?_
  refine tv_callS (pc := 15) [tm_i k, tm_i 0, tm_i ((dd_n d : Int) - 1)] [] C (c7_within E _ n1 k 0 ((dd_n d : Int) - 1) (by omega) (by omega) (by omega)) cs_X7_97 (by decide) rfl (Nat.le_of_ble_eq_true rfl) rfl dX7_isOrder_15 (tm_kp ?_)
  refine tv_zret (pc := 18) C dX7_isOrder_18 (by omega) ?_
  exact ⟨_, rfl, io_z k (dd_n d : Int), hI1, g2, g3, fr1⟩
theorem k7_sea (E : tm_Ev) (l : Launch) (μ : tm_M) (d s : tm_M) (hd : dd_ok d) (hI : cl_I μ d s) (t : Int) (ht : -2147483648 ≤ t ∧ t ≤ 2147483647) : tm_Met E l yX7_sea cX7_sea 2 (some .int) 5 [.ref (E.2.1 0), tm_i t] μ (tm_pi (fun z μ' => z = sa_z d t ∧ cl_I μ' d s ∧ ∀ a, 74 ≤ a → μ' a = μ a)) := by
  refine tm_intro [(0, .ref (E.2.1 0)), (1, tm_i t)] rfl (by decide +kernel) (Nat.le_of_ble_eq_true rfl) ?_
  intro X hX C
  subst hX
  refine tv_iload_n (pc := 0) 1 C dX7_sea_0 rfl rfl ?_
  refine tv_callS (pc := 1) [tm_i t] [] C (c7_isHour E _ μ t (by omega)) cs_X7_121 (by decide) rfl (Nat.le_of_ble_eq_true rfl) rfl dX7_sea_1 (tm_kp ?_)
  refine tv_ifneB (pc := 4) 10 C dX7_sea_4 (by decide) (fun h4 => ?_) (fun h4 => ?_)
  · skip
    refine tv_aload_n (pc := 10) 0 C dX7_sea_10 rfl rfl ?_
    refine tv_callV (pc := 11) [] [] C (c7_settle E _ μ d hd hI.1 hI.2.2.1 hI.2.2.2.1) cv_X7_125 rfl rfl (by decide) rfl (Nat.le_of_ble_eq_true rfl) rfl dX7_sea_11 (tm_kv ?_)
    rintro n1 ⟨g1, g2, g3, g4, g5⟩
    have hI1 := cl_I_set hI g1 g2 g3 g4 g5
    have fr1 : ∀ a, 74 ≤ a → n1 a = μ a := fun a ha => g4 a (by omega)
    have hn := g2.2.1
    have hor := fun k hk => (g2.2.2.1 k hk)
    refine tv_aload_n (pc := 14) 0 C dX7_sea_14 rfl rfl ?_
    refine tv_getr (pc := 15) (q := 29) C rfl rfl fl_X7_62 dX7_sea_15 ?_
    refine tv_getr (pc := 18) (q := 31) C rfl rfl fl_X7_128 dX7_sea_18 ?_
    refine tv_iload_n (pc := 21) 1 C dX7_sea_21 rfl rfl ?_
    refine tv_iald (pc := 22) (j := t.toNat) (z := n1 31 t.toNat) C rfl dX7_sea_22 (by omega) rfl rfl ?_
    refine tv_iret (pc := 23) C dX7_sea_23 ?_
    exact ⟨_, rfl, by unfold sa_z; rw [if_pos (by omega)]; exact (g2.1.2.1 t.toNat (by omega)).1, hI1, fr1⟩
  · skip
    refine tv_bipush (pc := 7) C dX7_sea_7 (by decide) ?_
    refine tv_iret (pc := 9) C dX7_sea_9 ?_
    exact ⟨_, rfl, by unfold sa_z; rw [if_neg (by omega)], hI, fun a _ => rfl⟩
theorem k7_order (E : tm_Ev) (l : Launch) (μ : tm_M) (d s : tm_M) (hd : dd_ok d) (hI : cl_I μ d s) (k w : Int) (hk : -2147483648 ≤ k ∧ k ≤ 2147483647) (hw : -2147483648 ≤ w ∧ w ≤ 2147483647) : tm_Met E l yX7_order cX7_order 3 (some .int) 6 [.ref (E.2.1 0), tm_i k, tm_i w] μ (tm_pi (fun z μ' => z = or_z d k w ∧ cl_I μ' d s ∧ ∀ a, 74 ≤ a → μ' a = μ a)) := by
  refine tm_intro [(0, .ref (E.2.1 0)), (1, tm_i k), (2, tm_i w)] rfl (by decide +kernel) (Nat.le_of_ble_eq_true rfl) ?_
  intro X hX C
  subst hX
  have h8 : dd_n d ≤ 8 := sp_no_bd _ (by have q := hd.2.1; omega)
  refine tv_aload_n (pc := 0) 0 C dX7_order_0 rfl rfl ?_
  refine tv_iload_n (pc := 1) 1 C dX7_order_1 rfl rfl ?_
  refine tv_callV (pc := 2) [tm_i k] [] C (k7_isOrder E _ μ d s hd hI k (by omega)) cv_X7_131 rfl rfl (by decide) rfl (Nat.le_of_ble_eq_true rfl) rfl dX7_order_2 (tm_ki ?_)
  rintro z1 n1 ⟨rfl, hI1, g2, g3, fr1⟩
  have hn := g2.2.1
  have hor := fun k hk => (g2.2.2.1 k hk)
  refine tv_ifeqB (pc := 5) 17 C dX7_order_5 (by decide) (fun h5 => ?_) (fun h5 => ?_)
  · skip
    refine tv_bipush (pc := 17) C dX7_order_17 (by decide) ?_
    refine tv_iret (pc := 19) C dX7_order_19 ?_
    exact ⟨_, rfl, by unfold or_z; rw [if_neg (by omega)], hI1, fr1⟩
  · skip
    refine tv_iload_n (pc := 8) 2 C dX7_order_8 rfl rfl ?_
    refine tv_iconst (pc := 9) C dX7_order_9 ?_
    refine tv_iconst (pc := 10) C dX7_order_10 ?_
    refine tv_callS (pc := 11) [tm_i w, tm_i 0, tm_i 3] [] C (c7_within E _ n1 w 0 3 (by omega) (by omega) (by omega)) cs_X7_97 (by decide) rfl (Nat.le_of_ble_eq_true rfl) rfl dX7_order_11 (tm_kp ?_)
    refine tv_ifneB (pc := 14) 20 C dX7_order_14 (by decide) (fun h14 => ?_) (fun h14 => ?_)
    · skip
      rcases (show w = 0 ∨ w = 1 ∨ w = 2 ∨ w = 3 by omega) with rfl | rfl | rfl | rfl
      · skip
        refine tv_iload_n (pc := 20) 2 C dX7_order_20 rfl rfl ?_
        refine tv_tabI (pc := 21) (off := 27) 48 C dX7_order_21 (by omega) (by omega) (by decide) (by decide) ?_
        refine tv_aload_n (pc := 48) 0 C dX7_order_48 rfl rfl ?_
        refine tv_getr (pc := 49) (q := 23) C rfl rfl fl_X7_41 dX7_order_49 ?_
        refine tv_getr (pc := 52) (q := 24) C rfl rfl fl_X7_134 dX7_order_52 ?_
        refine tv_iload_n (pc := 55) 1 C dX7_order_55 rfl rfl ?_
        refine tv_iald (pc := 56) (j := k.toNat) (z := n1 24 k.toNat) C rfl dX7_order_56 (by omega) rfl rfl ?_
        refine tv_iret (pc := 57) C dX7_order_57 ?_
        exact ⟨_, rfl, by unfold or_z; rw [if_pos (by omega)]; exact (hor k.toNat (by omega)).1, hI1, fr1⟩
      · skip
        refine tv_iload_n (pc := 20) 2 C dX7_order_20 rfl rfl ?_
        refine tv_tabI (pc := 21) (off := 37) 58 C dX7_order_21 (by omega) (by omega) (by decide) (by decide) ?_
        refine tv_aload_n (pc := 58) 0 C dX7_order_58 rfl rfl ?_
        refine tv_getr (pc := 59) (q := 23) C rfl rfl fl_X7_41 dX7_order_59 ?_
        refine tv_getr (pc := 62) (q := 25) C rfl rfl fl_X7_137 dX7_order_62 ?_
        refine tv_iload_n (pc := 65) 1 C dX7_order_65 rfl rfl ?_
        refine tv_iald (pc := 66) (j := k.toNat) (z := n1 25 k.toNat) C rfl dX7_order_66 (by omega) rfl rfl ?_
        refine tv_iret (pc := 67) C dX7_order_67 ?_
        exact ⟨_, rfl, by unfold or_z; rw [if_pos (by omega)]; exact (hor k.toNat (by omega)).2.1, hI1, fr1⟩
      · skip
        refine tv_iload_n (pc := 20) 2 C dX7_order_20 rfl rfl ?_
        refine tv_tabI (pc := 21) (off := 47) 68 C dX7_order_21 (by omega) (by omega) (by decide) (by decide) ?_
        refine tv_aload_n (pc := 68) 0 C dX7_order_68 rfl rfl ?_
        refine tv_getr (pc := 69) (q := 23) C rfl rfl fl_X7_41 dX7_order_69 ?_
        refine tv_getr (pc := 72) (q := 26) C rfl rfl fl_X7_140 dX7_order_72 ?_
        refine tv_iload_n (pc := 75) 1 C dX7_order_75 rfl rfl ?_
        refine tv_iald (pc := 76) (j := k.toNat) (z := n1 26 k.toNat) C rfl dX7_order_76 (by omega) rfl rfl ?_
        refine tv_iret (pc := 77) C dX7_order_77 ?_
        exact ⟨_, rfl, by unfold or_z; rw [if_pos (by omega)]; exact (hor k.toNat (by omega)).2.2.1, hI1, fr1⟩
      · skip
        refine tv_iload_n (pc := 20) 2 C dX7_order_20 rfl rfl ?_
        refine tv_tabO (pc := 21) 78 C dX7_order_21 (by omega) (by omega) (by decide) ?_
        refine tv_aload_n (pc := 78) 0 C dX7_order_78 rfl rfl ?_
        refine tv_getr (pc := 79) (q := 23) C rfl rfl fl_X7_41 dX7_order_79 ?_
        refine tv_getr (pc := 82) (q := 27) C rfl rfl fl_X7_143 dX7_order_82 ?_
        refine tv_iload_n (pc := 85) 1 C dX7_order_85 rfl rfl ?_
        refine tv_iald (pc := 86) (j := k.toNat) (z := n1 27 k.toNat) C rfl dX7_order_86 (by omega) rfl rfl ?_
        refine tv_iret (pc := 87) C dX7_order_87 ?_
        exact ⟨_, rfl, by unfold or_z; rw [if_pos (by omega)]; exact (hor k.toNat (by omega)).2.2.2, hI1, fr1⟩
    · skip
      refine tv_bipush (pc := 17) C dX7_order_17 (by decide) ?_
      refine tv_iret (pc := 19) C dX7_order_19 ?_
      exact ⟨_, rfl, by unfold or_z; rw [if_neg (by omega)], hI1, fr1⟩
theorem k7_at (E : tm_Ev) (l : Launch) (μ : tm_M) (d s : tm_M) (hd : dd_ok d) (hI : cl_I μ d s) (t w : Int) (ht : -2147483648 ≤ t ∧ t ≤ 2147483647) (hw : -2147483648 ≤ w ∧ w ≤ 2147483647) : tm_Met E l yX7_at cX7_at 3 (some .int) 5 [.ref (E.2.1 0), tm_i t, tm_i w] μ (tm_pi (fun z μ' => z = at_z d t w ∧ cl_I μ' d s ∧ ∀ a, 74 ≤ a → μ' a = μ a)) := by
  refine tm_intro [(0, .ref (E.2.1 0)), (1, tm_i t), (2, tm_i w)] rfl (by decide +kernel) (Nat.le_of_ble_eq_true rfl) ?_
  intro X hX C
  subst hX
  refine tv_iload_n (pc := 0) 1 C dX7_at_0 rfl rfl ?_
  refine tv_callS (pc := 1) [tm_i t] [] C (c7_isHour E _ μ t (by omega)) cs_X7_121 (by decide) rfl (Nat.le_of_ble_eq_true rfl) rfl dX7_at_1 (tm_kp ?_)
  refine tv_ifeqB (pc := 4) 16 C dX7_at_4 (by decide) (fun h4 => ?_) (fun h4 => ?_)
  · skip
    refine tv_bipush (pc := 16) C dX7_at_16 (by decide) ?_
    refine tv_iret (pc := 18) C dX7_at_18 ?_
    exact ⟨_, rfl, by unfold at_z; rw [if_neg (by omega)], hI, fun a _ => rfl⟩
  · skip
    refine tv_iload_n (pc := 7) 2 C dX7_at_7 rfl rfl ?_
    refine tv_iconst (pc := 8) C dX7_at_8 ?_
    refine tv_iconst (pc := 9) C dX7_at_9 ?_
    refine tv_callS (pc := 10) [tm_i w, tm_i 0, tm_i 4] [] C (c7_within E _ μ w 0 4 (by omega) (by omega) (by omega)) cs_X7_97 (by decide) rfl (Nat.le_of_ble_eq_true rfl) rfl dX7_at_10 (tm_kp ?_)
    refine tv_ifneB (pc := 13) 19 C dX7_at_13 (by decide) (fun h13 => ?_) (fun h13 => ?_)
    · skip
      refine tv_aload_n (pc := 19) 0 C dX7_at_19 rfl rfl ?_
      refine tv_callV (pc := 20) [] [] C (c7_settle E _ μ d hd hI.1 hI.2.2.1 hI.2.2.2.1) cv_X7_125 rfl rfl (by decide) rfl (Nat.le_of_ble_eq_true rfl) rfl dX7_at_20 (tm_kv ?_)
      rintro n1 ⟨g1, g2, g3, g4, g5⟩
      have hI1 := cl_I_set hI g1 g2 g3 g4 g5
      have fr1 : ∀ a, 74 ≤ a → n1 a = μ a := fun a ha => g4 a (by omega)
      have hn := g2.2.1
      have hor := fun k hk => (g2.2.2.1 k hk)
      rcases (show w = 0 ∨ w = 1 ∨ w = 2 ∨ w = 3 ∨ w = 4 by omega) with rfl | rfl | rfl | rfl | rfl
      · skip
        refine tv_iload_n (pc := 23) 2 C dX7_at_23 rfl rfl ?_
        refine tv_tabI (pc := 24) (off := 32) 56 C dX7_at_24 (by omega) (by omega) (by decide) (by decide) ?_
        refine tv_aload_n (pc := 56) 0 C dX7_at_56 rfl rfl ?_
        refine tv_getr (pc := 57) (q := 35) C rfl rfl fl_X7_69 dX7_at_57 ?_
        refine tv_getr (pc := 60) (q := 37) C rfl rfl fl_X7_173 dX7_at_60 ?_
        refine tv_iload_n (pc := 63) 1 C dX7_at_63 rfl rfl ?_
        refine tv_iald (pc := 64) (j := t.toNat) (z := n1 37 t.toNat) C rfl dX7_at_64 (by omega) rfl rfl ?_
        refine tv_iret (pc := 65) C dX7_at_65 ?_
        exact ⟨_, rfl, by unfold at_z; rw [if_pos (by omega)]; exact (g2.2.2.2.1 t.toNat (by omega)).1, hI1, fr1⟩
      · skip
        refine tv_iload_n (pc := 23) 2 C dX7_at_23 rfl rfl ?_
        refine tv_tabI (pc := 24) (off := 42) 66 C dX7_at_24 (by omega) (by omega) (by decide) (by decide) ?_
        refine tv_aload_n (pc := 66) 0 C dX7_at_66 rfl rfl ?_
        refine tv_getr (pc := 67) (q := 35) C rfl rfl fl_X7_69 dX7_at_67 ?_
        refine tv_getr (pc := 70) (q := 38) C rfl rfl fl_X7_176 dX7_at_70 ?_
        refine tv_iload_n (pc := 73) 1 C dX7_at_73 rfl rfl ?_
        refine tv_iald (pc := 74) (j := t.toNat) (z := n1 38 t.toNat) C rfl dX7_at_74 (by omega) rfl rfl ?_
        refine tv_iret (pc := 75) C dX7_at_75 ?_
        exact ⟨_, rfl, by unfold at_z; rw [if_pos (by omega)]; exact (g2.2.2.2.1 t.toNat (by omega)).2.1, hI1, fr1⟩
      · skip
        refine tv_iload_n (pc := 23) 2 C dX7_at_23 rfl rfl ?_
        refine tv_tabI (pc := 24) (off := 52) 76 C dX7_at_24 (by omega) (by omega) (by decide) (by decide) ?_
        refine tv_aload_n (pc := 76) 0 C dX7_at_76 rfl rfl ?_
        refine tv_getr (pc := 77) (q := 35) C rfl rfl fl_X7_69 dX7_at_77 ?_
        refine tv_getr (pc := 80) (q := 39) C rfl rfl fl_X7_177 dX7_at_80 ?_
        refine tv_iload_n (pc := 83) 1 C dX7_at_83 rfl rfl ?_
        refine tv_iald (pc := 84) (j := t.toNat) (z := n1 39 t.toNat) C rfl dX7_at_84 (by omega) rfl rfl ?_
        refine tv_iret (pc := 85) C dX7_at_85 ?_
        exact ⟨_, rfl, by unfold at_z; rw [if_pos (by omega)]; exact (g2.2.2.2.1 t.toNat (by omega)).2.2.1, hI1, fr1⟩
      · skip
        refine tv_iload_n (pc := 23) 2 C dX7_at_23 rfl rfl ?_
        refine tv_tabI (pc := 24) (off := 62) 86 C dX7_at_24 (by omega) (by omega) (by decide) (by decide) ?_
        refine tv_aload_n (pc := 86) 0 C dX7_at_86 rfl rfl ?_
        refine tv_getr (pc := 87) (q := 35) C rfl rfl fl_X7_69 dX7_at_87 ?_
        refine tv_getr (pc := 90) (q := 40) C rfl rfl fl_X7_180 dX7_at_90 ?_
        refine tv_iload_n (pc := 93) 1 C dX7_at_93 rfl rfl ?_
        refine tv_iald (pc := 94) (j := t.toNat) (z := n1 40 t.toNat) C rfl dX7_at_94 (by omega) rfl rfl ?_
        refine tv_iret (pc := 95) C dX7_at_95 ?_
        exact ⟨_, rfl, by unfold at_z; rw [if_pos (by omega)]; exact (g2.2.2.2.1 t.toNat (by omega)).2.2.2.1, hI1, fr1⟩
      · skip
        refine tv_iload_n (pc := 23) 2 C dX7_at_23 rfl rfl ?_
        refine tv_tabO (pc := 24) 96 C dX7_at_24 (by omega) (by omega) (by decide) ?_
        refine tv_aload_n (pc := 96) 0 C dX7_at_96 rfl rfl ?_
        refine tv_getr (pc := 97) (q := 35) C rfl rfl fl_X7_69 dX7_at_97 ?_
        refine tv_getr (pc := 100) (q := 41) C rfl rfl fl_X7_183 dX7_at_100 ?_
        refine tv_iload_n (pc := 103) 1 C dX7_at_103 rfl rfl ?_
        refine tv_iald (pc := 104) (j := t.toNat) (z := n1 41 t.toNat) C rfl dX7_at_104 (by omega) rfl rfl ?_
        refine tv_iret (pc := 105) C dX7_at_105 ?_
        exact ⟨_, rfl, by unfold at_z; rw [if_pos (by omega)]; exact (g2.2.2.2.1 t.toNat (by omega)).2.2.2.2, hI1, fr1⟩
    · skip
      refine tv_bipush (pc := 16) C dX7_at_16 (by decide) ?_
      refine tv_iret (pc := 18) C dX7_at_18 ?_
      exact ⟨_, rfl, by unfold at_z; rw [if_neg (by omega)], hI, fun a _ => rfl⟩
theorem k7_ends (E : tm_Ev) (l : Launch) (μ : tm_M) (d s : tm_M) (hd : dd_ok d) (hI : cl_I μ d s) (k : Int) (hk : -2147483648 ≤ k ∧ k ≤ 2147483647) : tm_Met E l yX7_ends cX7_ends 2 (some .int) 6 [.ref (E.2.1 0), tm_i k] μ (tm_pi (fun z μ' => z = en_z d k ∧ cl_I μ' d s ∧ ∀ a, 74 ≤ a → μ' a = μ a)) := by
  refine tm_intro [(0, .ref (E.2.1 0)), (1, tm_i k)] rfl (by decide +kernel) (Nat.le_of_ble_eq_true rfl) ?_
  intro X hX C
  subst hX
  have h8 : dd_n d ≤ 8 := sp_no_bd _ (by have q := hd.2.1; omega)
  refine tv_aload_n (pc := 0) 0 C dX7_ends_0 rfl rfl ?_
  refine tv_iload_n (pc := 1) 1 C dX7_ends_1 rfl rfl ?_
  refine tv_callV (pc := 2) [tm_i k] [] C (k7_isOrder E _ μ d s hd hI k (by omega)) cv_X7_131 rfl rfl (by decide) rfl (Nat.le_of_ble_eq_true rfl) rfl dX7_ends_2 (tm_ki ?_)
  rintro z1 n1 ⟨rfl, hI1, g2, g3, fr1⟩
  have hn := g2.2.1
  have hor := fun k hk => (g2.2.2.1 k hk)
  refine tv_ifeqB (pc := 5) 20 C dX7_ends_5 (by decide) (fun h5 => ?_) (fun h5 => ?_)
  · skip
    refine tv_bipush (pc := 20) C dX7_ends_20 (by decide) ?_
    refine tv_iret (pc := 22) C dX7_ends_22 ?_
    exact ⟨_, rfl, by unfold en_z; rw [if_neg (by omega)], hI1, fr1⟩
  · skip
    refine tv_aload_n (pc := 8) 0 C dX7_ends_8 rfl rfl ?_
    refine tv_getr (pc := 9) (q := 35) C rfl rfl fl_X7_69 dX7_ends_9 ?_
    refine tv_getr (pc := 12) (q := 42) C rfl rfl fl_X7_186 dX7_ends_12 ?_
    refine tv_iload_n (pc := 15) 1 C dX7_ends_15 rfl rfl ?_
    refine tv_iald (pc := 16) (j := k.toNat) (z := n1 42 k.toNat) C rfl dX7_ends_16 (by omega) rfl rfl ?_
    refine tv_goto (pc := 17) 22 C dX7_ends_17 (by decide) ?_
    refine tv_iret (pc := 22) C dX7_ends_22 ?_
    exact ⟨_, rfl, by unfold en_z; rw [if_pos (by omega)]; exact g2.2.2.2.2.1 k.toNat (by omega), hI1, fr1⟩
theorem k7_paid (E : tm_Ev) (l : Launch) (μ : tm_M) (d s : tm_M) (hd : dd_ok d) (hI : cl_I μ d s) : tm_Met E l yX7_paid cX7_paid 1 (some .int) 5 [.ref (E.2.1 0)] μ (tm_pi (fun z μ' => z = pa_z d ∧ cl_I μ' d s ∧ ∀ a, 74 ≤ a → μ' a = μ a)) := by
  refine tm_intro [(0, .ref (E.2.1 0))] rfl (by decide +kernel) (Nat.le_of_ble_eq_true rfl) ?_
  intro X hX C
  subst hX
  refine tv_aload_n (pc := 0) 0 C dX7_paid_0 rfl rfl ?_
  refine tv_callV (pc := 1) [] [] C (c7_settle E _ μ d hd hI.1 hI.2.2.1 hI.2.2.2.1) cv_X7_125 rfl rfl (by decide) rfl (Nat.le_of_ble_eq_true rfl) rfl dX7_paid_1 (tm_kv ?_)
  rintro n1 ⟨g1, g2, g3, g4, g5⟩
  have hI1 := cl_I_set hI g1 g2 g3 g4 g5
  have fr1 : ∀ a, 74 ≤ a → n1 a = μ a := fun a ha => g4 a (by omega)
  have hn := g2.2.1
  have hor := fun k hk => (g2.2.2.1 k hk)
  refine tv_aload_n (pc := 4) 0 C dX7_paid_4 rfl rfl ?_
  refine tv_getr (pc := 5) (q := 35) C rfl rfl fl_X7_69 dX7_paid_5 ?_
  refine tv_aload_n (pc := 8) 0 C dX7_paid_8 rfl rfl ?_
  refine tv_getr (pc := 9) (q := 23) C rfl rfl fl_X7_41 dX7_paid_9 ?_
  refine tv_callV (pc := 12) [.ref (E.2.1 23)] [] C (c5_sumPaid_a E _ n1 d _ hd hn (fun k hk => ⟨(hor k hk).2.2.1, (hor k hk).2.2.2⟩) g2.2.2.2.2.1 (sm_e_40 _)) cv_X7_189 rfl rfl (by decide) rfl (Nat.le_of_ble_eq_true rfl) rfl dX7_paid_12 (tm_kp ?_)
  refine tv_iret (pc := 15) C dX7_paid_15 ?_
  exact ⟨_, rfl, rfl, hI1, fr1⟩
theorem k7_spilt (E : tm_Ev) (l : Launch) (μ : tm_M) (d s : tm_M) (hd : dd_ok d) (hI : cl_I μ d s) : tm_Met E l yX7_spilt cX7_spilt 1 (some .int) 5 [.ref (E.2.1 0)] μ (tm_pi (fun z μ' => z = sm_s (dd_p d) 40 ∧ cl_I μ' d s ∧ ∀ a, 74 ≤ a → μ' a = μ a)) := by
  refine tm_intro [(0, .ref (E.2.1 0))] rfl (by decide +kernel) (Nat.le_of_ble_eq_true rfl) ?_
  intro X hX C
  subst hX
  refine tv_aload_n (pc := 0) 0 C dX7_spilt_0 rfl rfl ?_
  refine tv_callV (pc := 1) [] [] C (c7_settle E _ μ d hd hI.1 hI.2.2.1 hI.2.2.2.1) cv_X7_125 rfl rfl (by decide) rfl (Nat.le_of_ble_eq_true rfl) rfl dX7_spilt_1 (tm_kv ?_)
  rintro n1 ⟨g1, g2, g3, g4, g5⟩
  have hI1 := cl_I_set hI g1 g2 g3 g4 g5
  have fr1 : ∀ a, 74 ≤ a → n1 a = μ a := fun a ha => g4 a (by omega)
  have hn := g2.2.1
  have hor := fun k hk => (g2.2.2.1 k hk)
  refine tv_aload_n (pc := 4) 0 C dX7_spilt_4 rfl rfl ?_
  refine tv_getr (pc := 5) (q := 35) C rfl rfl fl_X7_69 dX7_spilt_5 ?_
  refine tv_getr (pc := 8) (q := 36) C rfl rfl fl_X7_193 dX7_spilt_8 ?_
  refine tv_geti (pc := 11) (z := n1 36 3) C rfl rfl fl_X7_197 dX7_spilt_11 rfl ?_
  refine tv_iret (pc := 14) C dX7_spilt_14 ?_
  exact ⟨_, rfl, g2.2.2.2.2.2.1, hI1, fr1⟩
theorem k7_idle (E : tm_Ev) (l : Launch) (μ : tm_M) (d s : tm_M) (hd : dd_ok d) (hI : cl_I μ d s) : tm_Met E l yX7_idle cX7_idle 1 (some .int) 5 [.ref (E.2.1 0)] μ (tm_pi (fun z μ' => z = sm_i (dd_p d) 40 ∧ cl_I μ' d s ∧ ∀ a, 74 ≤ a → μ' a = μ a)) := by
  refine tm_intro [(0, .ref (E.2.1 0))] rfl (by decide +kernel) (Nat.le_of_ble_eq_true rfl) ?_
  intro X hX C
  subst hX
  refine tv_aload_n (pc := 0) 0 C dX7_idle_0 rfl rfl ?_
  refine tv_callV (pc := 1) [] [] C (c7_settle E _ μ d hd hI.1 hI.2.2.1 hI.2.2.2.1) cv_X7_125 rfl rfl (by decide) rfl (Nat.le_of_ble_eq_true rfl) rfl dX7_idle_1 (tm_kv ?_)
  rintro n1 ⟨g1, g2, g3, g4, g5⟩
  have hI1 := cl_I_set hI g1 g2 g3 g4 g5
  have fr1 : ∀ a, 74 ≤ a → n1 a = μ a := fun a ha => g4 a (by omega)
  have hn := g2.2.1
  have hor := fun k hk => (g2.2.2.1 k hk)
  refine tv_aload_n (pc := 4) 0 C dX7_idle_4 rfl rfl ?_
  refine tv_getr (pc := 5) (q := 35) C rfl rfl fl_X7_69 dX7_idle_5 ?_
  refine tv_geti (pc := 8) (z := n1 35 7) C rfl rfl fl_X7_202 dX7_idle_8 rfl ?_
  refine tv_iret (pc := 11) C dX7_idle_11 ?_
  exact ⟨_, rfl, g2.2.2.2.2.2.2, hI1, fr1⟩
theorem l_late {E : tm_Ev} {X : tm_X} (C : tm_C E X yX7_late.cls cX7_late 3 (some .int) 5) (n1 d : tm_M) (hd : dd_ok d) (hn : n1 23 4 = (dd_n d : Int)) (hor : ∀ k, k < dd_n d → n1 26 k = od_d (d 2) k ∧ n1 27 k = od_p (d 2) k) (he : ∀ k, k < 8 → n1 42 k = sm_e (dd_p d) 40 k) (h8 : dd_n d ≤ 8) (post : Option Value → tm_M → Prop) (hpost : post (some (tm_i (la_z d))) n1) : ∀ (f k : Nat) (x y : Int), x = k → k ≤ dd_n d → dd_n d - k < f → y = bi_n (fun k => !(py_b d (sm_e (dd_p d) 40) k)) k → tm_V E X (tm_Q E X post) 3 8 [(2, tm_i x), (1, tm_i y), (0, .ref (E.2.1 0))] [] n1 := by
  intro f
  induction f with
  | zero => intro k x y hx hj hf hy; omega
  | succ f ih =>
    intro k x y hx hj hf hy
    refine tv_iload_n (pc := 8) 0 C dX7_late_8 rfl rfl ?_
    refine tv_aload_n (pc := 9) 2 C dX7_late_9 rfl rfl ?_
    refine tv_getr (pc := 10) (q := 23) C rfl rfl fl_X7_41 dX7_late_10 ?_
    refine tv_geti (pc := 13) (z := (dd_n d : Int)) C rfl rfl fl_X7_205 dX7_late_13 hn ?_
    refine tv_icmp_ge (pc := 16) 46 C dX7_late_16 (by decide) (by omega) (by omega) (fun h16 => ?_) (fun h16 => ?_)
    · skip
      refine tv_iload_n (pc := 46) 1 C dX7_late_46 rfl rfl ?_
      refine tv_iret (pc := 47) C dX7_late_47 ?_
      have hin : k = dd_n d := by omega
      subst hin
      rw [hy]
      exact hpost
    · skip
      refine tv_aload_n (pc := 19) 2 C dX7_late_19 rfl rfl ?_
      refine tv_getr (pc := 20) (q := 35) C rfl rfl fl_X7_69 dX7_late_20 ?_
      refine tv_aload_n (pc := 23) 2 C dX7_late_23 rfl rfl ?_
      refine tv_getr (pc := 24) (q := 23) C rfl rfl fl_X7_41 dX7_late_24 ?_
      refine tv_iload_n (pc := 27) 0 C dX7_late_27 rfl rfl ?_
      refine tv_callV (pc := 28) [.ref (E.2.1 23), tm_i x] [] C (c5_pays_a E _ n1 d (sm_e (dd_p d) 40) hd hn hor he (sm_e_40 _) k _ hx (by omega)) cv_X7_206 rfl rfl (by decide) rfl (Nat.le_of_ble_eq_true rfl) rfl dX7_late_28 (tm_kp ?_)
      refine tv_ifneB (pc := 31) 40 C dX7_late_31 (by decide) (fun h31 => ?_) (fun h31 => ?_)
      · skip
        refine tv_iinc (pc := 40) 0 [(2, tm_i (x + 1)), (1, tm_i y), (0, .ref (E.2.1 0))] C dX7_late_40 rfl (by decide) rfl ?_
        refine tv_goto (pc := 43) 8 C dX7_late_43 (by decide) ?_
        refine tv_sub (lv1 := [(2, tm_i (x + 1)), (1, tm_i y), (0, .ref (E.2.1 0))]) [0, 1, 2] rfl ?_
        exact ih (k + 1) (x + 1) _ (by omega) (by omega) (by omega) (by rw [bi_s, if_neg (by simp [h31])]; omega)
      · skip
        refine tv_iload_n (pc := 34) 1 C dX7_late_34 rfl rfl ?_
        refine tv_iconst (pc := 35) C dX7_late_35 ?_
        refine tv_iload_n (pc := 36) 0 C dX7_late_36 rfl rfl ?_
        refine tv_ishl (pc := 37) (z := (2 ^ k)) C dX7_late_37 (by rw [hx]; exact tb_shl (by omega)) ?_
        refine tv_ior (pc := 38) (z := (y + 2 ^ k)) C dX7_late_38 (by rw [hy]; exact tb_or (by omega) (bi_bd _ k)) ?_
        refine tv_istore_n (pc := 39) [(1, tm_i (y + 2 ^ k)), (2, tm_i x), (0, .ref (E.2.1 0))] C dX7_late_39 rfl (by decide) rfl ?_
        refine tv_iinc (pc := 40) 1 [(2, tm_i (x + 1)), (1, tm_i (y + 2 ^ k)), (0, .ref (E.2.1 0))] C dX7_late_40 rfl (by decide) rfl ?_
        refine tv_goto (pc := 43) 8 C dX7_late_43 (by decide) ?_
        refine tv_sub (lv1 := [(2, tm_i (x + 1)), (1, tm_i (y + 2 ^ k)), (0, .ref (E.2.1 0))]) [0, 1, 2] rfl ?_
        exact ih (k + 1) (x + 1) _ (by omega) (by omega) (by omega) (by rw [bi_s, if_pos (by simp [h31])]; omega)
theorem k7_late (E : tm_Ev) (l : Launch) (μ : tm_M) (d s : tm_M) (hd : dd_ok d) (hI : cl_I μ d s) : tm_Met E l yX7_late cX7_late 3 (some .int) 5 [.ref (E.2.1 0)] μ (tm_pi (fun z μ' => z = la_z d ∧ cl_I μ' d s ∧ ∀ a, 74 ≤ a → μ' a = μ a)) := by
  refine tm_intro [(0, .ref (E.2.1 0))] rfl (by decide +kernel) (Nat.le_of_ble_eq_true rfl) ?_
  intro X hX C
  subst hX
  have h8 : dd_n d ≤ 8 := sp_no_bd _ (by have q := hd.2.1; omega)
  refine tv_aload_n (pc := 0) 0 C dX7_late_0 rfl rfl ?_
  refine tv_callV (pc := 1) [] [] C (c7_settle E _ μ d hd hI.1 hI.2.2.1 hI.2.2.2.1) cv_X7_125 rfl rfl (by decide) rfl (Nat.le_of_ble_eq_true rfl) rfl dX7_late_1 (tm_kv ?_)
  rintro n1 ⟨g1, g2, g3, g4, g5⟩
  have hI1 := cl_I_set hI g1 g2 g3 g4 g5
  have fr1 : ∀ a, 74 ≤ a → n1 a = μ a := fun a ha => g4 a (by omega)
  have hn := g2.2.1
  have hor := fun k hk => (g2.2.2.1 k hk)
  refine tv_iconst (pc := 4) C dX7_late_4 ?_
  refine tv_istore_n (pc := 5) [(1, tm_i 0), (0, .ref (E.2.1 0))] C dX7_late_5 rfl (by decide) rfl ?_
  refine tv_iconst (pc := 6) C dX7_late_6 ?_
  refine tv_istore_n (pc := 7) [(2, tm_i 0), (1, tm_i 0), (0, .ref (E.2.1 0))] C dX7_late_7 rfl (by decide) rfl ?_
  refine tv_sub (lv1 := [(2, tm_i 0), (1, tm_i 0), (0, .ref (E.2.1 0))]) [0, 1, 2] rfl ?_
  exact l_late C n1 d hd hn (fun k hk => ⟨(hor k hk).2.2.1, (hor k hk).2.2.2⟩) g2.2.2.2.2.1 h8 _ ⟨_, rfl, rfl, hI1, fr1⟩ (dd_n d + 1) 0 0 0 rfl (by omega) (by omega) rfl
theorem k7_count (E : tm_Ev) (l : Launch) (μ : tm_M) (d s : tm_M) (hd : dd_ok d) (hI : cl_I μ d s) (w : Int) (hw : -2147483648 ≤ w ∧ w ≤ 2147483647) : tm_Met E l yX7_count cX7_count 2 (some .int) 5 [.ref (E.2.1 0), tm_i w] μ (tm_pi (fun z μ' => z = co_z d s w ∧ cl_I μ' d s ∧ ∀ a, 74 ≤ a → μ' a = μ a)) := by
  refine tm_intro [(0, .ref (E.2.1 0)), (1, tm_i w)] rfl (by decide +kernel) (Nat.le_of_ble_eq_true rfl) ?_
  intro X hX C
  subst hX
  refine tv_aload_n (pc := 0) 0 C dX7_count_0 rfl rfl ?_
  refine tv_callV (pc := 1) [] [] C (c7_settle E _ μ d hd hI.1 hI.2.2.1 hI.2.2.2.1) cv_X7_125 rfl rfl (by decide) rfl (Nat.le_of_ble_eq_true rfl) rfl dX7_count_1 (tm_kv ?_)
  rintro n1 ⟨g1, g2, g3, g4, g5⟩
  have hI1 := cl_I_set hI g1 g2 g3 g4 g5
  have fr1 : ∀ a, 74 ≤ a → n1 a = μ a := fun a ha => g4 a (by omega)
  have hn := g2.2.1
  have hor := fun k hk => (g2.2.2.1 k hk)
  rcases (show w = 0 ∨ w = 1 ∨ w = 2 ∨ w = 3 ∨ w = 4 ∨ w = 5 ∨ w = 6 ∨ w = 7 ∨ w = 8 ∨ (w < 0 ∨ 8 < w) by omega) with rfl | rfl | rfl | rfl | rfl | rfl | rfl | rfl | rfl | hw9
  · skip
    refine tv_iload_n (pc := 4) 1 C dX7_count_4 rfl rfl ?_
    refine tv_tabI (pc := 5) (off := 51) 56 C dX7_count_5 (by omega) (by omega) (by decide) (by decide) ?_
    refine tv_aload_n (pc := 56) 0 C dX7_count_56 rfl rfl ?_
    refine tv_getr (pc := 57) (q := 1) C rfl rfl fl_X7_14 dX7_count_57 ?_
    refine tv_iconst (pc := 60) C dX7_count_60 ?_
    refine tv_aald (pc := 61) (q := 2) (j := 0) RX2 C rfl rfl dX7_count_61 (by omega) rfl rfl ?_
    refine tv_callS (pc := 62) [.ref (E.2.1 2)] [] C (c7_tideFault E _ n1 (by rw [g1.1]; exact hd.1) (fun j hj => by rw [g1.1] at hj; rw [g1.2.2.1 j hj]; exact hd.2.2.1 j hj)) cs_X7_115 (by decide) rfl (Nat.le_of_ble_eq_true rfl) rfl dX7_count_62 (tm_ki ?_)
    rintro zf n2 ⟨hzf, h9⟩
    have h9 := h9.symm
    subst h9
    rw [sp_tf_congr (g := d 1) (fun j hj => g1.2.2.1 j (by have q := g1.1; omega)), g1.1] at hzf
    have hzr : -1 ≤ zf ∧ zf ≤ 40 := by
      rw [hzf]
      have q := hd.1
      rcases fi_bd (ok := ok_t (d 1)) (d 0 0).toNat 0 with q2 | q2
      · unfold sp_tf; omega
      · unfold sp_tf; omega
    refine tv_iconst (pc := 65) C dX7_count_65 ?_
    refine tv_icmp_ne (pc := 66) 81 C dX7_count_66 (by decide) (by omega) (by omega) (fun h66 => ?_) (fun h66 => ?_)
    · skip
      refine tv_iconst (pc := 81) C dX7_count_81 ?_
      refine tv_iret (pc := 82) C dX7_count_82 ?_
      exact ⟨_, rfl, by show _ = (if sp_tf (d 1) (d 0 0).toNat = -1 then d 0 0 else 0); rw [if_neg (by omega)], hI1, fr1⟩
    · skip
      refine tv_aload_n (pc := 69) 0 C dX7_count_69 rfl rfl ?_
      refine tv_getr (pc := 70) (q := 1) C rfl rfl fl_X7_14 dX7_count_70 ?_
      refine tv_iconst (pc := 73) C dX7_count_73 ?_
      refine tv_aald (pc := 74) (q := 2) (j := 0) RX2 C rfl rfl dX7_count_74 (by omega) rfl rfl ?_
      refine tv_geti (pc := 75) (z := n1 2 1) C rfl rfl fl_X7_105 dX7_count_75 rfl ?_
      refine tv_goto (pc := 78) 82 C dX7_count_78 (by decide) ?_
      refine tv_iret (pc := 82) C dX7_count_82 ?_
      exact ⟨_, rfl, by show _ = (if sp_tf (d 1) (d 0 0).toNat = -1 then d 0 0 else 0); rw [if_pos (by omega), g1.1], hI1, fr1⟩
  · skip
    refine tv_iload_n (pc := 4) 1 C dX7_count_4 rfl rfl ?_
    refine tv_tabI (pc := 5) (off := 78) 83 C dX7_count_5 (by omega) (by omega) (by decide) (by decide) ?_
    refine tv_aload_n (pc := 83) 0 C dX7_count_83 rfl rfl ?_
    refine tv_getr (pc := 84) (q := 23) C rfl rfl fl_X7_41 dX7_count_84 ?_
    refine tv_geti (pc := 87) (z := n1 23 4) C rfl rfl fl_X7_205 dX7_count_87 rfl ?_
    refine tv_iret (pc := 90) C dX7_count_90 ?_
    exact ⟨_, rfl, hn, hI1, fr1⟩
  · skip
    refine tv_iload_n (pc := 4) 1 C dX7_count_4 rfl rfl ?_
    refine tv_tabI (pc := 5) (off := 86) 91 C dX7_count_5 (by omega) (by omega) (by decide) (by decide) ?_
    refine tv_aload_n (pc := 91) 0 C dX7_count_91 rfl rfl ?_
    refine tv_getr (pc := 92) (q := 1) C rfl rfl fl_X7_14 dX7_count_92 ?_
    refine tv_iconst (pc := 95) C dX7_count_95 ?_
    refine tv_aald (pc := 96) (q := 2) (j := 0) RX2 C rfl rfl dX7_count_96 (by omega) rfl rfl ?_
    refine tv_geti (pc := 97) (z := n1 2 1) C rfl rfl fl_X7_105 dX7_count_97 rfl ?_
    refine tv_iret (pc := 100) C dX7_count_100 ?_
    exact ⟨_, rfl, g1.1, hI1, fr1⟩
  · skip
    refine tv_iload_n (pc := 4) 1 C dX7_count_4 rfl rfl ?_
    refine tv_tabI (pc := 5) (off := 96) 101 C dX7_count_5 (by omega) (by omega) (by decide) (by decide) ?_
    refine tv_aload_n (pc := 101) 0 C dX7_count_101 rfl rfl ?_
    refine tv_getr (pc := 102) (q := 1) C rfl rfl fl_X7_14 dX7_count_102 ?_
    refine tv_iconst (pc := 105) C dX7_count_105 ?_
    refine tv_aald (pc := 106) (q := 4) (j := 1) RX2 C rfl rfl dX7_count_106 (by omega) rfl rfl ?_
    refine tv_geti (pc := 107) (z := n1 4 1) C rfl rfl fl_X7_105 dX7_count_107 rfl ?_
    refine tv_iret (pc := 110) C dX7_count_110 ?_
    exact ⟨_, rfl, g1.2.1, hI1, fr1⟩
  · skip
    refine tv_iload_n (pc := 4) 1 C dX7_count_4 rfl rfl ?_
    refine tv_tabI (pc := 5) (off := 106) 111 C dX7_count_5 (by omega) (by omega) (by decide) (by decide) ?_
    refine tv_aload_n (pc := 111) 0 C dX7_count_111 rfl rfl ?_
    refine tv_getr (pc := 112) (q := 6) C rfl rfl fl_X7_18 dX7_count_112 ?_
    refine tv_geti (pc := 115) (z := n1 6 1) C rfl rfl fl_X7_105 dX7_count_115 rfl ?_
    refine tv_iret (pc := 118) C dX7_count_118 ?_
    exact ⟨_, rfl, g1.2.2.2.2.1, hI1, fr1⟩
  · skip
    refine tv_iload_n (pc := 4) 1 C dX7_count_4 rfl rfl ?_
    refine tv_tabI (pc := 5) (off := 114) 119 C dX7_count_5 (by omega) (by omega) (by decide) (by decide) ?_
    refine tv_aload_n (pc := 119) 0 C dX7_count_119 rfl rfl ?_
    refine tv_getr (pc := 120) (q := 8) C rfl rfl fl_X7_22 dX7_count_120 ?_
    refine tv_geti (pc := 123) (z := n1 8 1) C rfl rfl fl_X7_105 dX7_count_123 rfl ?_
    refine tv_iret (pc := 126) C dX7_count_126 ?_
    exact ⟨_, rfl, g1.2.2.2.2.2.1, hI1, fr1⟩
  · skip
    refine tv_iload_n (pc := 4) 1 C dX7_count_4 rfl rfl ?_
    refine tv_tabI (pc := 5) (off := 122) 127 C dX7_count_5 (by omega) (by omega) (by decide) (by decide) ?_
    refine tv_aload_n (pc := 127) 0 C dX7_count_127 rfl rfl ?_
    refine tv_getr (pc := 128) (q := 35) C rfl rfl fl_X7_69 dX7_count_128 ?_
    refine tv_callV (pc := 131) [] [] C (c5_allSacks_a E _ n1) cv_X7_232 rfl rfl (by decide) rfl (Nat.le_of_ble_eq_true rfl) rfl dX7_count_131 (tm_kp ?_)
    refine tv_iret (pc := 134) C dX7_count_134 ?_
    exact ⟨_, rfl, (g2.2.2.2.1 39 (by omega)).2.1, hI1, fr1⟩
  · skip
    refine tv_iload_n (pc := 4) 1 C dX7_count_4 rfl rfl ?_
    refine tv_tabI (pc := 5) (off := 130) 135 C dX7_count_5 (by omega) (by omega) (by decide) (by decide) ?_
    refine tv_aload_n (pc := 135) 0 C dX7_count_135 rfl rfl ?_
    refine tv_getr (pc := 136) (q := 10) C rfl rfl fl_X7_25 dX7_count_136 ?_
    refine tv_geti (pc := 139) (z := n1 10 1) C rfl rfl fl_X7_105 dX7_count_139 rfl ?_
    refine tv_iret (pc := 142) C dX7_count_142 ?_
    exact ⟨_, rfl, hI1.2.1.1, hI1, fr1⟩
  · skip
    refine tv_iload_n (pc := 4) 1 C dX7_count_4 rfl rfl ?_
    refine tv_tabI (pc := 5) (off := 138) 143 C dX7_count_5 (by omega) (by omega) (by decide) (by decide) ?_
    refine tv_aload_n (pc := 143) 0 C dX7_count_143 rfl rfl ?_
    refine tv_geti (pc := 144) (z := n1 0 6) C rfl rfl fl_X7_283 dX7_count_144 rfl ?_
    refine tv_iret (pc := 147) C dX7_count_147 ?_
    exact ⟨_, rfl, hI1.2.1.2.2.2.1, hI1, fr1⟩
  · skip
    refine tv_iload_n (pc := 4) 1 C dX7_count_4 rfl rfl ?_
    refine tv_tabO (pc := 5) 148 C dX7_count_5 (by omega) (by omega) (by decide) ?_
    refine tv_bipush (pc := 148) C dX7_count_148 (by decide) ?_
    refine tv_iret (pc := 150) C dX7_count_150 ?_
    exact ⟨_, rfl, by unfold co_z; rw [if_neg (by omega), if_neg (by omega), if_neg (by omega), if_neg (by omega), if_neg (by omega), if_neg (by omega), if_neg (by omega), if_neg (by omega), if_neg (by omega)], hI1, fr1⟩
