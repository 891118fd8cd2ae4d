theorem k8_type (E : tm_Ev) (l : Launch) (μ : tm_M) (d s : tm_M) (hd : dd_ok d) (hI : rf_I μ d s) (t b : Int) (ht : -2147483648 ≤ t ∧ t ≤ 2147483647) (hb : -2147483648 ≤ b ∧ b ≤ 2147483647) : tm_Met E l yX8_type cX8_type 3 (some .int) 2 [.ref (E.2.1 74), tm_i t, tm_i b] μ (tm_pi (fun z μ' => z = ty_z d t b ∧ rf_I μ' (ty_d d t b) s ∧ ∀ a, a < 74 → μ' a = μ a)) := by
  refine tm_intro [(0, .ref (E.2.1 74)), (1, tm_i t), (2, tm_i b)] rfl (by decide +kernel) (Nat.le_of_ble_eq_true rfl) ?_
  intro X hX C
  subst hX
  have m1 := hI.1.1
  have m2 := hI.1.2.1
  have m5 := hI.1.2.2.2.2.1
  have m6 := hI.1.2.2.2.2.2.1
  have z1 := hd.1
  have z2 := hd.2.1
  have z3 := hd.2.2.2.2.1
  have z4 := hd.2.2.2.2.2.1
  refine tv_iload_n (pc := 0) 1 C dX8_type_0 rfl rfl ?_
  refine tv_callS (pc := 1) [tm_i t] [] C (c8_isText E _ μ t (by omega)) cs_X8_98 (by decide) rfl (Nat.le_of_ble_eq_true rfl) rfl dX8_type_1 (tm_kp ?_)
  refine tv_ifeqB (pc := 4) 18 C dX8_type_4 (by decide) (fun h4 => ?_) (fun h4 => ?_)
  · skip
    refine tv_bipush (pc := 18) C dX8_type_18 (by decide) ?_
    refine tv_iret (pc := 20) C dX8_type_20 ?_
    exact ⟨_, rfl, by unfold ty_z; rw [if_neg (by omega)], by unfold ty_d; rw [if_neg (by omega)]; exact hI, fun a _ => rfl⟩
  · skip
    refine tv_iload_n (pc := 7) 2 C dX8_type_7 rfl rfl ?_
    refine tv_iconst (pc := 8) C dX8_type_8 ?_
    refine tv_sipush (pc := 9) C dX8_type_9 (by decide) ?_
    refine tv_callS (pc := 12) [tm_i b, tm_i 0, tm_i 255] [] C (c8_in E _ μ b 0 255 (by omega) (by omega) (by omega)) cs_X8_94 (by decide) rfl (Nat.le_of_ble_eq_true rfl) rfl dX8_type_12 (tm_kp ?_)
    refine tv_ifneB (pc := 15) 21 C dX8_type_15 (by decide) (fun h15 => ?_) (fun h15 => ?_)
    · skip
      rcases (show t = 0 ∨ t = 1 by omega) with rfl | rfl
      · skip
        refine tv_aload_n (pc := 21) 0 C dX8_type_21 rfl rfl ?_
        refine tv_getr (pc := 22) (q := 75) C rfl rfl fl_X8_7 dX8_type_22 ?_
        refine tv_iload_n (pc := 25) 1 C dX8_type_25 rfl rfl ?_
        refine tv_iald (pc := 26) (j := 0) (z := d 0 0) C rfl dX8_type_26 (by omega) rfl m1 ?_
        refine tv_iload_n (pc := 27) 1 C dX8_type_27 rfl rfl ?_
        refine tv_if_ne (pc := 28) 36 C dX8_type_28 (by decide) (by omega) (fun q => absurd q (by decide)) (fun _ => ?_)
        refine tv_bipush (pc := 31) C dX8_type_31 (by decide) ?_
        refine tv_goto (pc := 33) 38 C dX8_type_33 (by decide) ?_
        refine tv_icmp_ne (pc := 38) 44 C dX8_type_38 (by decide) (by omega) (by omega) (fun h38 => ?_) (fun h38 => ?_)
        · skip
          refine tv_aload_n (pc := 44) 0 C dX8_type_44 rfl rfl ?_
          refine tv_getr (pc := 45) (q := 76) C rfl rfl fl_X8_13 dX8_type_45 ?_
          refine tv_bipush (pc := 48) C dX8_type_48 (by decide) ?_
          refine tv_iload_n (pc := 50) 1 C dX8_type_50 rfl rfl ?_
          refine tv_imul (pc := 51) C dX8_type_51 ?_
          refine tv_aload_n (pc := 52) 0 C dX8_type_52 rfl rfl ?_
          refine tv_getr (pc := 53) (q := 75) C rfl rfl fl_X8_7 dX8_type_53 ?_
          refine tv_iload_n (pc := 56) 1 C dX8_type_56 rfl rfl ?_
          refine tv_iald (pc := 57) (j := 0) (z := d 0 0) C rfl dX8_type_57 (by omega) rfl m1 ?_
          refine tv_iadd (pc := 58) C dX8_type_58 ?_
          refine tv_iload_n (pc := 59) 2 C dX8_type_59 rfl rfl ?_
          refine tv_iast (pc := 60) (j := (d 0 0).toNat) C rfl dX8_type_60 (by omega) (by omega) ?_
          refine tv_aload_n (pc := 61) 0 C dX8_type_61 rfl rfl ?_
          refine tv_getr (pc := 62) (q := 75) C rfl rfl fl_X8_7 dX8_type_62 ?_
          refine tv_iload_n (pc := 65) 1 C dX8_type_65 rfl rfl ?_
          refine tv_dup2 (pc := 66) C dX8_type_66 rfl rfl ?_
          refine tv_iald (pc := 67) (j := 0) (z := d 0 0) C rfl dX8_type_67 (by omega) rfl ((tm_uk (by decide)).trans (m1)) ?_
          refine tv_iconst (pc := 68) C dX8_type_68 ?_
          refine tv_iadd (pc := 69) C dX8_type_69 ?_
          refine tv_iast (pc := 70) (j := 0) C rfl dX8_type_70 (by omega) rfl ?_
          refine tv_aload_n (pc := 71) 0 C dX8_type_71 rfl rfl ?_
          refine tv_getr (pc := 72) (q := 75) C rfl rfl fl_X8_7 dX8_type_72 ?_
          refine tv_iload_n (pc := 75) 1 C dX8_type_75 rfl rfl ?_
          refine tv_iald (pc := 76) (j := 0) (z := (d 0 0) + 1) C rfl dX8_type_76 (by omega) rfl tm_us ?_
          refine tv_iret (pc := 77) C dX8_type_77 ?_
          refine ⟨_, rfl, by rw [ty_z_0 (by omega), if_neg (by omega)], ?_, fun a ha => by rw [tm_uf (by omega), tm_uf (by omega)]⟩
          rw [ty_d_0 (by omega), if_neg (by omega)]
          exact rf_push0 hI hd b
        · skip
          refine tv_bipush (pc := 41) C dX8_type_41 (by decide) ?_
          refine tv_iret (pc := 43) C dX8_type_43 ?_
          exact ⟨_, rfl, by rw [ty_z_0 (by omega), if_pos (by omega)], by rw [ty_d_0 (by omega), if_pos (by omega)]; exact hI, fun a _ => rfl⟩
      · skip
        refine tv_aload_n (pc := 21) 0 C dX8_type_21 rfl rfl ?_
        refine tv_getr (pc := 22) (q := 75) C rfl rfl fl_X8_7 dX8_type_22 ?_
        refine tv_iload_n (pc := 25) 1 C dX8_type_25 rfl rfl ?_
        refine tv_iald (pc := 26) (j := 1) (z := d 0 1) C rfl dX8_type_26 (by omega) rfl m2 ?_
        refine tv_iload_n (pc := 27) 1 C dX8_type_27 rfl rfl ?_
        refine tv_if_ne (pc := 28) 36 C dX8_type_28 (by decide) (by omega) (fun _ => ?_) (fun q => absurd q (by decide))
        refine tv_bipush (pc := 36) C dX8_type_36 (by decide) ?_
        refine tv_icmp_ne (pc := 38) 44 C dX8_type_38 (by decide) (by omega) (by omega) (fun h38 => ?_) (fun h38 => ?_)
        · skip
          refine tv_aload_n (pc := 44) 0 C dX8_type_44 rfl rfl ?_
          refine tv_getr (pc := 45) (q := 76) C rfl rfl fl_X8_13 dX8_type_45 ?_
          refine tv_bipush (pc := 48) C dX8_type_48 (by decide) ?_
          refine tv_iload_n (pc := 50) 1 C dX8_type_50 rfl rfl ?_
          refine tv_imul (pc := 51) C dX8_type_51 ?_
          refine tv_aload_n (pc := 52) 0 C dX8_type_52 rfl rfl ?_
          refine tv_getr (pc := 53) (q := 75) C rfl rfl fl_X8_7 dX8_type_53 ?_
          refine tv_iload_n (pc := 56) 1 C dX8_type_56 rfl rfl ?_
          refine tv_iald (pc := 57) (j := 1) (z := d 0 1) C rfl dX8_type_57 (by omega) rfl m2 ?_
          refine tv_iadd (pc := 58) C dX8_type_58 ?_
          refine tv_iload_n (pc := 59) 2 C dX8_type_59 rfl rfl ?_
          refine tv_iast (pc := 60) (j := (47 + (d 0 1).toNat)) C rfl dX8_type_60 (by omega) (by omega) ?_
          refine tv_aload_n (pc := 61) 0 C dX8_type_61 rfl rfl ?_
          refine tv_getr (pc := 62) (q := 75) C rfl rfl fl_X8_7 dX8_type_62 ?_
          refine tv_iload_n (pc := 65) 1 C dX8_type_65 rfl rfl ?_
          refine tv_dup2 (pc := 66) C dX8_type_66 rfl rfl ?_
          refine tv_iald (pc := 67) (j := 1) (z := d 0 1) C rfl dX8_type_67 (by omega) rfl ((tm_uk (by decide)).trans (m2)) ?_
          refine tv_iconst (pc := 68) C dX8_type_68 ?_
          refine tv_iadd (pc := 69) C dX8_type_69 ?_
          refine tv_iast (pc := 70) (j := 1) C rfl dX8_type_70 (by omega) rfl ?_
          refine tv_aload_n (pc := 71) 0 C dX8_type_71 rfl rfl ?_
          refine tv_getr (pc := 72) (q := 75) C rfl rfl fl_X8_7 dX8_type_72 ?_
          refine tv_iload_n (pc := 75) 1 C dX8_type_75 rfl rfl ?_
          refine tv_iald (pc := 76) (j := 1) (z := (d 0 1) + 1) C rfl dX8_type_76 (by omega) rfl tm_us ?_
          refine tv_iret (pc := 77) C dX8_type_77 ?_
          refine ⟨_, rfl, by rw [ty_z_1 (by omega), if_neg (by omega)], ?_, fun a ha => by rw [tm_uf (by omega), tm_uf (by omega)]⟩
          rw [ty_d_1 (by omega), if_neg (by omega)]
          exact rf_push1 hI hd b
        · skip
          refine tv_bipush (pc := 41) C dX8_type_41 (by decide) ?_
          refine tv_iret (pc := 43) C dX8_type_43 ?_
          exact ⟨_, rfl, by rw [ty_z_1 (by omega), if_pos (by omega)], by rw [ty_d_1 (by omega), if_pos (by omega)]; exact hI, fun a _ => rfl⟩
    · skip
      refine tv_bipush (pc := 18) C dX8_type_18 (by decide) ?_
      refine tv_iret (pc := 20) C dX8_type_20 ?_
      exact ⟨_, rfl, by unfold ty_z; rw [if_neg (by omega)], by unfold ty_d; rw [if_neg (by omega)]; exact hI, fun a _ => rfl⟩
theorem k8_wipe (E : tm_Ev) (l : Launch) (μ : tm_M) (d s : tm_M) (hd : dd_ok d) (hI : rf_I μ d s) (t : Int) (ht : -2147483648 ≤ t ∧ t ≤ 2147483647) : tm_Met E l yX8_wipe cX8_wipe 3 (some .int) 2 [.ref (E.2.1 74), tm_i t] μ (tm_pi (fun z μ' => z = wi_z d t ∧ rf_I μ' (wi_d d t) s ∧ ∀ a, a < 74 → μ' a = μ a)) := by
  refine tm_intro [(0, .ref (E.2.1 74)), (1, tm_i t)] rfl (by decide +kernel) (Nat.le_of_ble_eq_true rfl) ?_
  intro X hX C
  subst hX
  have m1 := hI.1.1
  have m2 := hI.1.2.1
  have m5 := hI.1.2.2.2.2.1
  have m6 := hI.1.2.2.2.2.2.1
  have z1 := hd.1
  have z2 := hd.2.1
  have z3 := hd.2.2.2.2.1
  have z4 := hd.2.2.2.2.2.1
  refine tv_iload_n (pc := 0) 1 C dX8_wipe_0 rfl rfl ?_
  refine tv_callS (pc := 1) [tm_i t] [] C (c8_isText E _ μ t (by omega)) cs_X8_98 (by decide) rfl (Nat.le_of_ble_eq_true rfl) rfl dX8_wipe_1 (tm_kp ?_)
  refine tv_ifneB (pc := 4) 10 C dX8_wipe_4 (by decide) (fun h4 => ?_) (fun h4 => ?_)
  · skip
    rcases (show t = 0 ∨ t = 1 by omega) with rfl | rfl
    · skip
      refine tv_aload_n (pc := 10) 0 C dX8_wipe_10 rfl rfl ?_
      refine tv_getr (pc := 11) (q := 75) C rfl rfl fl_X8_7 dX8_wipe_11 ?_
      refine tv_iload_n (pc := 14) 1 C dX8_wipe_14 rfl rfl ?_
      refine tv_iald (pc := 15) (j := 0) (z := d 0 0) C rfl dX8_wipe_15 (by omega) rfl m1 ?_
      refine tv_istore_n (pc := 16) [(2, tm_i (d 0 0)), (0, .ref (E.2.1 74)), (1, tm_i 0)] C dX8_wipe_16 rfl (by decide) rfl ?_
      refine tv_aload_n (pc := 17) 1 C dX8_wipe_17 rfl rfl ?_
      refine tv_getr (pc := 18) (q := 75) C rfl rfl fl_X8_7 dX8_wipe_18 ?_
      refine tv_iload_n (pc := 21) 2 C dX8_wipe_21 rfl rfl ?_
      refine tv_iconst (pc := 22) C dX8_wipe_22 ?_
      refine tv_iast (pc := 23) (j := 0) C rfl dX8_wipe_23 (by omega) rfl ?_
      refine tv_iload_n (pc := 24) 0 C dX8_wipe_24 rfl rfl ?_
      refine tv_iret (pc := 25) C dX8_wipe_25 ?_
      refine ⟨_, rfl, by rw [wi_z_0], ?_, fun a ha => by rw [tm_uf (by omega)]⟩
      rw [wi_d_0]
      exact rf_size0 hI hd 0 (by omega)
    · skip
      refine tv_aload_n (pc := 10) 0 C dX8_wipe_10 rfl rfl ?_
      refine tv_getr (pc := 11) (q := 75) C rfl rfl fl_X8_7 dX8_wipe_11 ?_
      refine tv_iload_n (pc := 14) 1 C dX8_wipe_14 rfl rfl ?_
      refine tv_iald (pc := 15) (j := 1) (z := d 0 1) C rfl dX8_wipe_15 (by omega) rfl m2 ?_
      refine tv_istore_n (pc := 16) [(2, tm_i (d 0 1)), (0, .ref (E.2.1 74)), (1, tm_i 1)] C dX8_wipe_16 rfl (by decide) rfl ?_
      refine tv_aload_n (pc := 17) 1 C dX8_wipe_17 rfl rfl ?_
      refine tv_getr (pc := 18) (q := 75) C rfl rfl fl_X8_7 dX8_wipe_18 ?_
      refine tv_iload_n (pc := 21) 2 C dX8_wipe_21 rfl rfl ?_
      refine tv_iconst (pc := 22) C dX8_wipe_22 ?_
      refine tv_iast (pc := 23) (j := 1) C rfl dX8_wipe_23 (by omega) rfl ?_
      refine tv_iload_n (pc := 24) 0 C dX8_wipe_24 rfl rfl ?_
      refine tv_iret (pc := 25) C dX8_wipe_25 ?_
      refine ⟨_, rfl, by rw [wi_z_1], ?_, fun a ha => by rw [tm_uf (by omega)]⟩
      rw [wi_d_1]
      exact rf_size1 hI hd 0 (by omega)
  · skip
    refine tv_bipush (pc := 7) C dX8_wipe_7 (by decide) ?_
    refine tv_iret (pc := 9) C dX8_wipe_9 ?_
    exact ⟨_, rfl, by unfold wi_z; rw [if_neg (by omega)], by unfold wi_d; rw [if_neg (by omega)]; exact hI, fun a _ => rfl⟩
theorem k8_undo (E : tm_Ev) (l : Launch) (μ : tm_M) (d s : tm_M) (hd : dd_ok d) (hI : rf_I μ d s) (t : Int) (ht : -2147483648 ≤ t ∧ t ≤ 2147483647) : tm_Met E l yX8_undo cX8_undo 2 (some .int) 2 [.ref (E.2.1 74), tm_i t] μ (tm_pi (fun z μ' => z = un_z d t ∧ rf_I μ' (un_d d t) s ∧ ∀ a, a < 74 → μ' a = μ a)) := by
  refine tm_intro [(0, .ref (E.2.1 74)), (1, tm_i t)] rfl (by decide +kernel) (Nat.le_of_ble_eq_true rfl) ?_
  intro X hX C
  subst hX
  have m1 := hI.1.1
  have m2 := hI.1.2.1
  have m5 := hI.1.2.2.2.2.1
  have m6 := hI.1.2.2.2.2.2.1
  have z1 := hd.1
  have z2 := hd.2.1
  have z3 := hd.2.2.2.2.1
  have z4 := hd.2.2.2.2.2.1
  refine tv_iload_n (pc := 0) 1 C dX8_undo_0 rfl rfl ?_
  refine tv_callS (pc := 1) [tm_i t] [] C (c8_isText E _ μ t (by omega)) cs_X8_98 (by decide) rfl (Nat.le_of_ble_eq_true rfl) rfl dX8_undo_1 (tm_kp ?_)
  refine tv_ifneB (pc := 4) 10 C dX8_undo_4 (by decide) (fun h4 => ?_) (fun h4 => ?_)
  · skip
    rcases (show t = 0 ∨ t = 1 by omega) with rfl | rfl
    · skip
      refine tv_aload_n (pc := 10) 0 C dX8_undo_10 rfl rfl ?_
      refine tv_getr (pc := 11) (q := 75) C rfl rfl fl_X8_7 dX8_undo_11 ?_
      refine tv_iload_n (pc := 14) 1 C dX8_undo_14 rfl rfl ?_
      refine tv_iald (pc := 15) (j := 0) (z := d 0 0) C rfl dX8_undo_15 (by omega) rfl m1 ?_
      refine tv_if_ne (pc := 16) 22 C dX8_undo_16 (by decide) (by omega) (fun h16 => ?_) (fun h16 => ?_)
      · skip
        refine tv_aload_n (pc := 22) 0 C dX8_undo_22 rfl rfl ?_
        refine tv_getr (pc := 23) (q := 75) C rfl rfl fl_X8_7 dX8_undo_23 ?_
        refine tv_iload_n (pc := 26) 1 C dX8_undo_26 rfl rfl ?_
        refine tv_dup2 (pc := 27) C dX8_undo_27 rfl rfl ?_
        refine tv_iald (pc := 28) (j := 0) (z := d 0 0) C rfl dX8_undo_28 (by omega) rfl m1 ?_
        refine tv_iconst (pc := 29) C dX8_undo_29 ?_
        refine tv_isub (pc := 30) C dX8_undo_30 ?_
        refine tv_iast (pc := 31) (j := 0) C rfl dX8_undo_31 (by omega) rfl ?_
        refine tv_aload_n (pc := 32) 0 C dX8_undo_32 rfl rfl ?_
        refine tv_getr (pc := 33) (q := 75) C rfl rfl fl_X8_7 dX8_undo_33 ?_
        refine tv_iload_n (pc := 36) 1 C dX8_undo_36 rfl rfl ?_
        refine tv_iald (pc := 37) (j := 0) (z := (d 0 0) - 1) C rfl dX8_undo_37 (by omega) rfl tm_us ?_
        refine tv_iret (pc := 38) C dX8_undo_38 ?_
        refine ⟨_, rfl, by rw [un_z_0, if_neg (by omega)], ?_, fun a ha => by rw [tm_uf (by omega)]⟩
        rw [un_d_0, if_neg (by omega)]
        exact rf_size0 hI hd _ (by omega)
      · skip
        refine tv_bipush (pc := 19) C dX8_undo_19 (by decide) ?_
        refine tv_iret (pc := 21) C dX8_undo_21 ?_
        exact ⟨_, rfl, by rw [un_z_0, if_pos (by omega)], by rw [un_d_0, if_pos (by omega)]; exact hI, fun a _ => rfl⟩
    · skip
      refine tv_aload_n (pc := 10) 0 C dX8_undo_10 rfl rfl ?_
      refine tv_getr (pc := 11) (q := 75) C rfl rfl fl_X8_7 dX8_undo_11 ?_
      refine tv_iload_n (pc := 14) 1 C dX8_undo_14 rfl rfl ?_
      refine tv_iald (pc := 15) (j := 1) (z := d 0 1) C rfl dX8_undo_15 (by omega) rfl m2 ?_
      refine tv_if_ne (pc := 16) 22 C dX8_undo_16 (by decide) (by omega) (fun h16 => ?_) (fun h16 => ?_)
      · skip
        refine tv_aload_n (pc := 22) 0 C dX8_undo_22 rfl rfl ?_
        refine tv_getr (pc := 23) (q := 75) C rfl rfl fl_X8_7 dX8_undo_23 ?_
        refine tv_iload_n (pc := 26) 1 C dX8_undo_26 rfl rfl ?_
        refine tv_dup2 (pc := 27) C dX8_undo_27 rfl rfl ?_
        refine tv_iald (pc := 28) (j := 1) (z := d 0 1) C rfl dX8_undo_28 (by omega) rfl m2 ?_
        refine tv_iconst (pc := 29) C dX8_undo_29 ?_
        refine tv_isub (pc := 30) C dX8_undo_30 ?_
        refine tv_iast (pc := 31) (j := 1) C rfl dX8_undo_31 (by omega) rfl ?_
        refine tv_aload_n (pc := 32) 0 C dX8_undo_32 rfl rfl ?_
        refine tv_getr (pc := 33) (q := 75) C rfl rfl fl_X8_7 dX8_undo_33 ?_
        refine tv_iload_n (pc := 36) 1 C dX8_undo_36 rfl rfl ?_
        refine tv_iald (pc := 37) (j := 1) (z := (d 0 1) - 1) C rfl dX8_undo_37 (by omega) rfl tm_us ?_
        refine tv_iret (pc := 38) C dX8_undo_38 ?_
        refine ⟨_, rfl, by rw [un_z_1, if_neg (by omega)], ?_, fun a ha => by rw [tm_uf (by omega)]⟩
        rw [un_d_1, if_neg (by omega)]
        exact rf_size1 hI hd _ (by omega)
      · skip
        refine tv_bipush (pc := 19) C dX8_undo_19 (by decide) ?_
        refine tv_iret (pc := 21) C dX8_undo_21 ?_
        exact ⟨_, rfl, by rw [un_z_1, if_pos (by omega)], by rw [un_d_1, if_pos (by omega)]; exact hI, fun a _ => rfl⟩
  · skip
    refine tv_bipush (pc := 7) C dX8_undo_7 (by decide) ?_
    refine tv_iret (pc := 9) C dX8_undo_9 ?_
    exact ⟨_, rfl, by unfold un_z; rw [if_neg (by omega)], by unfold un_d; rw [if_neg (by omega)]; exact hI, fun a _ => rfl⟩
theorem k8_rain (E : tm_Ev) (l : Launch) (μ : tm_M) (d s : tm_M) (hd : dd_ok d) (hI : rf_I μ d s) (t : Int) (ht : -2147483648 ≤ t ∧ t ≤ 2147483647) : tm_Met E l yX8_rain cX8_rain 2 (some .int) 2 [.ref (E.2.1 74), tm_i t] μ (tm_pi (fun z μ' => z = ra_z d 0 t ∧ rf_I μ' (ra_d d 0 t) s ∧ ∀ a, a < 74 → μ' a = μ a)) := by
  refine tm_intro [(0, .ref (E.2.1 74)), (1, tm_i t)] rfl (by decide +kernel) (Nat.le_of_ble_eq_true rfl) ?_
  intro X hX C
  subst hX
  have m1 := hI.1.1
  have m2 := hI.1.2.1
  have m5 := hI.1.2.2.2.2.1
  have m6 := hI.1.2.2.2.2.2.1
  have z1 := hd.1
  have z2 := hd.2.1
  have z3 := hd.2.2.2.2.1
  have z4 := hd.2.2.2.2.2.1
  refine tv_iload_n (pc := 0) 1 C dX8_rain_0 rfl rfl ?_
  refine tv_callS (pc := 1) [tm_i t] [] C (c8_isHour E _ μ t (by omega)) cs_X8_134 (by decide) rfl (Nat.le_of_ble_eq_true rfl) rfl dX8_rain_1 (tm_kp ?_)
  refine tv_ifneB (pc := 4) 10 C dX8_rain_4 (by decide) (fun h4 => ?_) (fun h4 => ?_)
  · skip
    refine tv_aload_n (pc := 10) 0 C dX8_rain_10 rfl rfl ?_
    refine tv_geti (pc := 11) (z := d 3 0) C rfl rfl fl_X8_146 dX8_rain_11 m5 ?_
    refine tv_bipush (pc := 14) C dX8_rain_14 (by decide) ?_
    refine tv_icmp_ne (pc := 16) 22 C dX8_rain_16 (by decide) (by omega) (by omega) (fun h16 => ?_) (fun h16 => ?_)
    · skip
      refine tv_aload_n (pc := 22) 0 C dX8_rain_22 rfl rfl ?_
      refine tv_getr (pc := 23) (q := 83) C rfl rfl fl_X8_34 dX8_rain_23 ?_
      refine tv_aload_n (pc := 26) 0 C dX8_rain_26 rfl rfl ?_
      refine tv_geti (pc := 27) (z := d 3 0) C rfl rfl fl_X8_146 dX8_rain_27 m5 ?_
      refine tv_iload_n (pc := 30) 1 C dX8_rain_30 rfl rfl ?_
      refine tv_iast (pc := 31) (j := (d 3 0).toNat) C rfl dX8_rain_31 (by omega) rfl ?_
      refine tv_aload_n (pc := 32) 0 C dX8_rain_32 rfl rfl ?_
      refine tv_dup (pc := 33) C dX8_rain_33 rfl ?_
      refine tv_geti (pc := 34) (z := d 3 0) C rfl rfl fl_X8_146 dX8_rain_34 ((tm_uk (by decide)).trans (m5)) ?_
      refine tv_iconst (pc := 37) C dX8_rain_37 ?_
      refine tv_iadd (pc := 38) C dX8_rain_38 ?_
      refine tv_puti (pc := 39) C rfl rfl fp_X8_146 dX8_rain_39 ?_
      refine tv_aload_n (pc := 42) 0 C dX8_rain_42 rfl rfl ?_
      refine tv_geti (pc := 43) (z := (d 3 0) + 1) C rfl rfl fl_X8_146 dX8_rain_43 tm_us ?_
      refine tv_iret (pc := 46) C dX8_rain_46 ?_
      refine ⟨_, rfl, by unfold ra_z; rw [if_pos (by omega), if_neg (by omega)], ?_, fun a ha => by rw [tm_uf (by omega), tm_uf (by omega)]⟩
      unfold ra_d
      rw [if_pos (by omega), if_neg (by omega)]
      exact rf_push2 hI hd t
    · skip
      refine tv_bipush (pc := 19) C dX8_rain_19 (by decide) ?_
      refine tv_iret (pc := 21) C dX8_rain_21 ?_
      exact ⟨_, rfl, by unfold ra_z; rw [if_pos (by omega), if_pos (by omega)], by unfold ra_d; rw [if_pos (by omega), if_pos (by omega)]; exact hI, fun a _ => rfl⟩
  · skip
    refine tv_bipush (pc := 7) C dX8_rain_7 (by decide) ?_
    refine tv_iret (pc := 9) C dX8_rain_9 ?_
    exact ⟨_, rfl, by unfold ra_z; rw [if_neg (by omega)], by unfold ra_d; rw [if_neg (by omega)]; exact hI, fun a _ => rfl⟩
theorem k8_dressing (E : tm_Ev) (l : Launch) (μ : tm_M) (d s : tm_M) (hd : dd_ok d) (hI : rf_I μ d s) (t : Int) (ht : -2147483648 ≤ t ∧ t ≤ 2147483647) : tm_Met E l yX8_dressing cX8_dressing 2 (some .int) 2 [.ref (E.2.1 74), tm_i t] μ (tm_pi (fun z μ' => z = ra_z d 1 t ∧ rf_I μ' (ra_d d 1 t) s ∧ ∀ a, a < 74 → μ' a = μ a)) := by
  refine tm_intro [(0, .ref (E.2.1 74)), (1, tm_i t)] rfl (by decide +kernel) (Nat.le_of_ble_eq_true rfl) ?_
  intro X hX C
  subst hX
  have m1 := hI.1.1
  have m2 := hI.1.2.1
  have m5 := hI.1.2.2.2.2.1
  have m6 := hI.1.2.2.2.2.2.1
  have z1 := hd.1
  have z2 := hd.2.1
  have z3 := hd.2.2.2.2.1
  have z4 := hd.2.2.2.2.2.1
  refine tv_iload_n (pc := 0) 1 C dX8_dressing_0 rfl rfl ?_
  refine tv_callS (pc := 1) [tm_i t] [] C (c8_isHour E _ μ t (by omega)) cs_X8_134 (by decide) rfl (Nat.le_of_ble_eq_true rfl) rfl dX8_dressing_1 (tm_kp ?_)
  refine tv_ifneB (pc := 4) 10 C dX8_dressing_4 (by decide) (fun h4 => ?_) (fun h4 => ?_)
  · skip
    refine tv_aload_n (pc := 10) 0 C dX8_dressing_10 rfl rfl ?_
    refine tv_geti (pc := 11) (z := d 3 1) C rfl rfl fl_X8_149 dX8_dressing_11 m6 ?_
    refine tv_bipush (pc := 14) C dX8_dressing_14 (by decide) ?_
    refine tv_icmp_ne (pc := 16) 22 C dX8_dressing_16 (by decide) (by omega) (by omega) (fun h16 => ?_) (fun h16 => ?_)
    · skip
      refine tv_aload_n (pc := 22) 0 C dX8_dressing_22 rfl rfl ?_
      refine tv_getr (pc := 23) (q := 84) C rfl rfl fl_X8_37 dX8_dressing_23 ?_
      refine tv_aload_n (pc := 26) 0 C dX8_dressing_26 rfl rfl ?_
      refine tv_geti (pc := 27) (z := d 3 1) C rfl rfl fl_X8_149 dX8_dressing_27 m6 ?_
      refine tv_iload_n (pc := 30) 1 C dX8_dressing_30 rfl rfl ?_
      refine tv_iast (pc := 31) (j := (d 3 1).toNat) C rfl dX8_dressing_31 (by omega) rfl ?_
      refine tv_aload_n (pc := 32) 0 C dX8_dressing_32 rfl rfl ?_
      refine tv_dup (pc := 33) C dX8_dressing_33 rfl ?_
      refine tv_geti (pc := 34) (z := d 3 1) C rfl rfl fl_X8_149 dX8_dressing_34 ((tm_uk (by decide)).trans (m6)) ?_
      refine tv_iconst (pc := 37) C dX8_dressing_37 ?_
      refine tv_iadd (pc := 38) C dX8_dressing_38 ?_
      refine tv_puti (pc := 39) C rfl rfl fp_X8_149 dX8_dressing_39 ?_
      refine tv_aload_n (pc := 42) 0 C dX8_dressing_42 rfl rfl ?_
      refine tv_geti (pc := 43) (z := (d 3 1) + 1) C rfl rfl fl_X8_149 dX8_dressing_43 tm_us ?_
      refine tv_iret (pc := 46) C dX8_dressing_46 ?_
      refine ⟨_, rfl, by unfold ra_z; rw [if_pos (by omega), if_neg (by omega)], ?_, fun a ha => by rw [tm_uf (by omega), tm_uf (by omega)]⟩
      unfold ra_d
      rw [if_pos (by omega), if_neg (by omega)]
      exact rf_push3 hI hd t
    · skip
      refine tv_bipush (pc := 19) C dX8_dressing_19 (by decide) ?_
      refine tv_iret (pc := 21) C dX8_dressing_21 ?_
      exact ⟨_, rfl, by unfold ra_z; rw [if_pos (by omega), if_pos (by omega)], by unfold ra_d; rw [if_pos (by omega), if_pos (by omega)]; exact hI, fun a _ => rfl⟩
  · skip
    refine tv_bipush (pc := 7) C dX8_dressing_7 (by decide) ?_
    refine tv_iret (pc := 9) C dX8_dressing_9 ?_
    exact ⟨_, rfl, by unfold ra_z; rw [if_neg (by omega)], by unfold ra_d; rw [if_neg (by omega)]; exact hI, fun a _ => rfl⟩
theorem tm_id {μ : tm_M} {k j : Nat} {z : Int} (h : μ k j = z) : tm_up μ k j z = μ := by
  funext a b
  unfold tm_up
  by_cases ha : a = k
  · by_cases hb : b = j
    · subst ha; subst hb; simp [h]
    · simp [ha, hb]
  · simp [ha]
theorem k8_back (E : tm_Ev) (l : Launch) (μ : tm_M) (d s : tm_M) (hd : dd_ok d) (hI : rf_I μ d s) (t : Int) (ht : -2147483648 ≤ t ∧ t ≤ 2147483647) : tm_Met E l yX8_back cX8_back 3 (some .int) 1 [.ref (E.2.1 74), tm_i t] μ (tm_pi (fun z μ' => z = ba_z d t ∧ rf_I μ' (ba_d d t) s ∧ ∀ a, a < 74 → μ' a = μ a)) := by
  refine tm_intro [(0, .ref (E.2.1 74)), (1, tm_i t)] rfl (by decide +kernel) (Nat.le_of_ble_eq_true rfl) ?_
  intro X hX C
  subst hX
  have m1 := hI.1.1
  have m2 := hI.1.2.1
  have m5 := hI.1.2.2.2.2.1
  have m6 := hI.1.2.2.2.2.2.1
  have z1 := hd.1
  have z2 := hd.2.1
  have z3 := hd.2.2.2.2.1
  have z4 := hd.2.2.2.2.2.1
  refine tv_iload_n (pc := 0) 1 C dX8_back_0 rfl rfl ?_
  refine tv_iconst (pc := 1) C dX8_back_1 ?_
  refine tv_iconst (pc := 2) C dX8_back_2 ?_
  refine tv_callS (pc := 3) [tm_i t, tm_i 0, tm_i 1] [] C (c8_in E _ μ t 0 1 (by omega) (by omega) (by omega)) cs_X8_94 (by decide) rfl (Nat.le_of_ble_eq_true rfl) rfl dX8_back_3 (tm_kp ?_)
  refine tv_ifneB (pc := 6) 12 C dX8_back_6 (by decide) (fun h6 => ?_) (fun h6 => ?_)
  · skip
    rcases (show t = 0 ∨ t = 1 by omega) with rfl | rfl
    · skip
      refine tv_iload_n (pc := 12) 1 C dX8_back_12 rfl rfl ?_
      refine tv_if_ne (pc := 13) 23 C dX8_back_13 (by decide) (by omega) (fun q => absurd q (by decide)) (fun _ => ?_)
      refine tv_aload_n (pc := 16) 0 C dX8_back_16 rfl rfl ?_
      refine tv_geti (pc := 17) (z := d 3 0) C rfl rfl fl_X8_146 dX8_back_17 m5 ?_
      refine tv_goto (pc := 20) 27 C dX8_back_20 (by decide) ?_
      refine tv_istore_n (pc := 27) [(2, tm_i (d 3 0)), (0, .ref (E.2.1 74)), (1, tm_i 0)] C dX8_back_27 rfl (by decide) rfl ?_
      refine tv_iload_n (pc := 28) 0 C dX8_back_28 rfl rfl ?_
      refine tv_if_ne (pc := 29) 35 C dX8_back_29 (by decide) (by omega) (fun h29 => ?_) (fun h29 => ?_)
      · skip
        refine tv_aload_n (pc := 35) 1 C dX8_back_35 rfl rfl ?_
        refine tv_dup (pc := 36) C dX8_back_36 rfl ?_
        refine tv_geti (pc := 37) (z := d 3 0) C rfl rfl fl_X8_146 dX8_back_37 m5 ?_
        refine tv_iload_n (pc := 40) 2 C dX8_back_40 rfl rfl ?_
        refine tv_if_ne (pc := 41) 48 C dX8_back_41 (by decide) (by omega) (fun q => absurd q (by decide)) (fun _ => ?_)
        refine tv_iconst (pc := 44) C dX8_back_44 ?_
        refine tv_goto (pc := 45) 49 C dX8_back_45 (by decide) ?_
        refine tv_isub (pc := 49) C dX8_back_49 ?_
        refine tv_puti (pc := 50) C rfl rfl fp_X8_146 dX8_back_50 ?_
        refine tv_aload_n (pc := 53) 1 C dX8_back_53 rfl rfl ?_
        refine tv_dup (pc := 54) C dX8_back_54 rfl ?_
        refine tv_geti (pc := 55) (z := d 3 1) C rfl rfl fl_X8_149 dX8_back_55 ((tm_uj (by decide)).trans (m6)) ?_
        refine tv_iload_n (pc := 58) 2 C dX8_back_58 rfl rfl ?_
        refine tv_iconst (pc := 59) C dX8_back_59 ?_
        refine tv_icmp_ne (pc := 60) 67 C dX8_back_60 (by decide) (by omega) (by omega) (fun _ => ?_) (fun q => absurd q (by decide))
        refine tv_iconst (pc := 67) C dX8_back_67 ?_
        refine tv_isub (pc := 68) C dX8_back_68 ?_
        refine tv_puti (pc := 69) C rfl rfl fp_X8_149 dX8_back_69 ?_
        refine tv_iload_n (pc := 72) 0 C dX8_back_72 rfl rfl ?_
        refine tv_iconst (pc := 73) C dX8_back_73 ?_
        refine tv_isub (pc := 74) C dX8_back_74 ?_
        refine tv_iret (pc := 75) C dX8_back_75 ?_
        refine ⟨_, rfl, by rw [ba_z_0, if_neg (by omega)], ?_, fun a ha => by rw [tm_uf (by omega), tm_uf (by omega)]⟩
        rw [ba_d_0, if_neg (by omega), show tm_up (tm_up μ 74 10 (d 3 0 - 1)) 74 12 (d 3 1 - 0) = tm_up μ 74 10 (d 3 0 - 1) from tm_id ((tm_uj (by decide)).trans (by omega))]
        exact rf_size2 hI hd _ (by omega)
      · skip
        refine tv_bipush (pc := 32) C dX8_back_32 (by decide) ?_
        refine tv_iret (pc := 34) C dX8_back_34 ?_
        exact ⟨_, rfl, by rw [ba_z_0, if_pos (by omega)], by rw [ba_d_0, if_pos (by omega)]; exact hI, fun a _ => rfl⟩
    · skip
      refine tv_iload_n (pc := 12) 1 C dX8_back_12 rfl rfl ?_
      refine tv_if_ne (pc := 13) 23 C dX8_back_13 (by decide) (by omega) (fun _ => ?_) (fun q => absurd q (by decide))
      refine tv_aload_n (pc := 23) 0 C dX8_back_23 rfl rfl ?_
      refine tv_geti (pc := 24) (z := d 3 1) C rfl rfl fl_X8_149 dX8_back_24 m6 ?_
      refine tv_istore_n (pc := 27) [(2, tm_i (d 3 1)), (0, .ref (E.2.1 74)), (1, tm_i 1)] C dX8_back_27 rfl (by decide) rfl ?_
      refine tv_iload_n (pc := 28) 0 C dX8_back_28 rfl rfl ?_
      refine tv_if_ne (pc := 29) 35 C dX8_back_29 (by decide) (by omega) (fun h29 => ?_) (fun h29 => ?_)
      · skip
        refine tv_aload_n (pc := 35) 1 C dX8_back_35 rfl rfl ?_
        refine tv_dup (pc := 36) C dX8_back_36 rfl ?_
        refine tv_geti (pc := 37) (z := d 3 0) C rfl rfl fl_X8_146 dX8_back_37 m5 ?_
        refine tv_iload_n (pc := 40) 2 C dX8_back_40 rfl rfl ?_
        refine tv_if_ne (pc := 41) 48 C dX8_back_41 (by decide) (by omega) (fun _ => ?_) (fun q => absurd q (by decide))
        refine tv_iconst (pc := 48) C dX8_back_48 ?_
        refine tv_isub (pc := 49) C dX8_back_49 ?_
        refine tv_puti (pc := 50) C rfl rfl fp_X8_146 dX8_back_50 ?_
        refine tv_aload_n (pc := 53) 1 C dX8_back_53 rfl rfl ?_
        refine tv_dup (pc := 54) C dX8_back_54 rfl ?_
        refine tv_geti (pc := 55) (z := d 3 1) C rfl rfl fl_X8_149 dX8_back_55 ((tm_uj (by decide)).trans (m6)) ?_
        refine tv_iload_n (pc := 58) 2 C dX8_back_58 rfl rfl ?_
        refine tv_iconst (pc := 59) C dX8_back_59 ?_
        refine tv_icmp_ne (pc := 60) 67 C dX8_back_60 (by decide) (by omega) (by omega) (fun q => absurd q (by decide)) (fun _ => ?_)
        refine tv_iconst (pc := 63) C dX8_back_63 ?_
        refine tv_goto (pc := 64) 68 C dX8_back_64 (by decide) ?_
        refine tv_isub (pc := 68) C dX8_back_68 ?_
        refine tv_puti (pc := 69) C rfl rfl fp_X8_149 dX8_back_69 ?_
        refine tv_iload_n (pc := 72) 0 C dX8_back_72 rfl rfl ?_
        refine tv_iconst (pc := 73) C dX8_back_73 ?_
        refine tv_isub (pc := 74) C dX8_back_74 ?_
        refine tv_iret (pc := 75) C dX8_back_75 ?_
        refine ⟨_, rfl, by rw [ba_z_1, if_neg (by omega)], ?_, fun a ha => by rw [tm_uf (by omega), tm_uf (by omega)]⟩
        rw [ba_d_1, if_neg (by omega), show tm_up (tm_up μ 74 10 (d 3 0 - 0)) 74 12 (d 3 1 - 1) = tm_up μ 74 12 (d 3 1 - 1) from by rw [tm_id (μ := μ) (k := 74) (j := 10) (z := d 3 0 - 0) (by omega)]]
        exact rf_size3 hI hd _ (by omega)
      · skip
        refine tv_bipush (pc := 32) C dX8_back_32 (by decide) ?_
        refine tv_iret (pc := 34) C dX8_back_34 ?_
        exact ⟨_, rfl, by rw [ba_z_1, if_pos (by omega)], by rw [ba_d_1, if_pos (by omega)]; exact hI, fun a _ => rfl⟩
  · skip
    refine tv_bipush (pc := 9) C dX8_back_9 (by decide) ?_
    refine tv_iret (pc := 11) C dX8_back_11 ?_
    exact ⟨_, rfl, by unfold ba_z; rw [if_neg (by omega)], by unfold ba_d; rw [if_neg (by omega)]; exact hI, fun a _ => rfl⟩
theorem k8_set (E : tm_Ev) (l : Launch) (μ : tm_M) (d s : tm_M) (hd : dd_ok d) (hI : rf_I μ d s) (t v : Int) (ht : -2147483648 ≤ t ∧ t ≤ 2147483647) (hv : -2147483648 ≤ v ∧ v ≤ 2147483647) : tm_Met E l yX8_set cX8_set 4 (some .int) 1 [.ref (E.2.1 74), tm_i t, tm_i v] μ (tm_pi (fun z μ' => z = se_z d t v ∧ rf_I μ' (se_d d t v) s ∧ ∀ a, a < 74 → μ' a = μ a)) := by
  refine tm_intro [(0, .ref (E.2.1 74)), (1, tm_i t), (2, tm_i v)] rfl (by decide +kernel) (Nat.le_of_ble_eq_true rfl) ?_
  intro X hX C
  subst hX
  have m1 := hI.1.1
  have m2 := hI.1.2.1
  have m5 := hI.1.2.2.2.2.1
  have m6 := hI.1.2.2.2.2.2.1
  have z1 := hd.1
  have z2 := hd.2.1
  have z3 := hd.2.2.2.2.1
  have z4 := hd.2.2.2.2.2.1
  have hlo : 0 ≤ se_lo t ∧ se_lo t ≤ 1 := by unfold se_lo; split <;> omega
  have hhi : 9 ≤ se_hi t ∧ se_hi t ≤ 20 := by unfold se_hi; split <;> omega
  refine tv_iload_n (pc := 0) 1 C dX8_set_0 rfl rfl ?_
  refine tv_iconst (pc := 1) C dX8_set_1 ?_
  refine tv_iconst (pc := 2) C dX8_set_2 ?_
  refine tv_callS (pc := 3) [tm_i t, tm_i 0, tm_i 4] [] C (c8_in E _ μ t 0 4 (by omega) (by omega) (by omega)) cs_X8_94 (by decide) rfl (Nat.le_of_ble_eq_true rfl) rfl dX8_set_3 (tm_kp ?_)
  refine tv_ifeqB (pc := 6) 42 C dX8_set_6 (by decide) (fun h6 => ?_) (fun h6 => ?_)
  · skip
    refine tv_bipush (pc := 42) C dX8_set_42 (by decide) ?_
    refine tv_iret (pc := 44) C dX8_set_44 ?_
    exact ⟨_, rfl, by unfold se_z; rw [if_neg (by omega)], by unfold se_d; rw [if_neg (by omega)]; exact hI, fun a _ => rfl⟩
  · skip
    refine tv_iload_n (pc := 9) 2 C dX8_set_9 rfl rfl ?_
    refine tv_iload_n (pc := 10) 1 C dX8_set_10 rfl rfl ?_
    refine tv_iconst (pc := 11) C dX8_set_11 ?_
    refine tv_icmp_eq (pc := 12) 20 C dX8_set_12 (by decide) (by omega) (by omega) (fun h12 => ?_) (fun h12 => ?_)
    · skip
      refine tv_iconst (pc := 20) C dX8_set_20 ?_
      refine tv_goto (pc := 21) 25 C dX8_set_21 (by decide) ?_
      refine tv_top (se_lo t) (by unfold se_lo; rw [if_pos (by omega)]) ?_
      refine tv_iload_n (pc := 25) 1 C dX8_set_25 rfl rfl ?_
      refine tv_if_ne (pc := 26) 34 C dX8_set_26 (by decide) (by omega) (fun h26 => ?_) (fun h26 => ?_)
      · skip
        refine tv_bipush (pc := 34) C dX8_set_34 (by decide) ?_
        refine tv_top (se_hi t) (by unfold se_hi; rw [if_neg (by omega)]) ?_
        refine tv_callS (pc := 36) [tm_i v, tm_i (se_lo t), tm_i (se_hi t)] [] C (c8_in E _ μ v (se_lo t) (se_hi t) (by omega) (by omega) (by omega)) cs_X8_94 (by decide) rfl (Nat.le_of_ble_eq_true rfl) rfl dX8_set_36 (tm_kp ?_)
        refine tv_ifneB (pc := 39) 45 C dX8_set_39 (by decide) (fun h39 => ?_) (fun h39 => ?_)
        · skip
          refine tv_aload_n (pc := 45) 0 C dX8_set_45 rfl rfl ?_
          refine tv_getr (pc := 46) (q := 82) C rfl rfl fl_X8_31 dX8_set_46 ?_
          refine tv_iload_n (pc := 49) 1 C dX8_set_49 rfl rfl ?_
          have m9 := hI.1.2.2.2.2.2.2.2.2 t.toNat (by omega)
          refine tv_iald (pc := 50) (j := t.toNat) (z := μ 82 t.toNat) C rfl dX8_set_50 (by omega) rfl rfl ?_
          refine tv_istore_n (pc := 51) [(3, tm_i (μ 82 t.toNat)), (0, .ref (E.2.1 74)), (1, tm_i t), (2, tm_i v)] C dX8_set_51 rfl (by decide) rfl ?_
          refine tv_aload_n (pc := 52) 1 C dX8_set_52 rfl rfl ?_
          refine tv_getr (pc := 53) (q := 82) C rfl rfl fl_X8_31 dX8_set_53 ?_
          refine tv_iload_n (pc := 56) 2 C dX8_set_56 rfl rfl ?_
          refine tv_iload_n (pc := 57) 3 C dX8_set_57 rfl rfl ?_
          refine tv_iast (pc := 58) (j := t.toNat) C rfl dX8_set_58 (by omega) rfl ?_
          refine tv_iload_n (pc := 59) 0 C dX8_set_59 rfl rfl ?_
          refine tv_iret (pc := 60) C dX8_set_60 ?_
          refine ⟨_, rfl, by unfold se_z; rw [if_pos (by omega), m9], ?_, fun a ha => by rw [tm_uf (by omega)]⟩
          unfold se_d
          rw [if_pos (by omega)]
          exact rf_dial hI hd t.toNat v (by omega)
        · skip
          refine tv_bipush (pc := 42) C dX8_set_42 (by decide) ?_
          refine tv_iret (pc := 44) C dX8_set_44 ?_
          exact ⟨_, rfl, by unfold se_z; rw [if_neg (by omega)], by unfold se_d; rw [if_neg (by omega)]; exact hI, fun a _ => rfl⟩
      · skip
        refine tv_bipush (pc := 29) C dX8_set_29 (by decide) ?_
        refine tv_goto (pc := 31) 36 C dX8_set_31 (by decide) ?_
        refine tv_top (se_hi t) (by unfold se_hi; rw [if_pos (by omega)]) ?_
        refine tv_callS (pc := 36) [tm_i v, tm_i (se_lo t), tm_i (se_hi t)] [] C (c8_in E _ μ v (se_lo t) (se_hi t) (by omega) (by omega) (by omega)) cs_X8_94 (by decide) rfl (Nat.le_of_ble_eq_true rfl) rfl dX8_set_36 (tm_kp ?_)
        refine tv_ifneB (pc := 39) 45 C dX8_set_39 (by decide) (fun h39 => ?_) (fun h39 => ?_)
        · skip
          refine tv_aload_n (pc := 45) 0 C dX8_set_45 rfl rfl ?_
          refine tv_getr (pc := 46) (q := 82) C rfl rfl fl_X8_31 dX8_set_46 ?_
          refine tv_iload_n (pc := 49) 1 C dX8_set_49 rfl rfl ?_
          have m9 := hI.1.2.2.2.2.2.2.2.2 t.toNat (by omega)
          refine tv_iald (pc := 50) (j := t.toNat) (z := μ 82 t.toNat) C rfl dX8_set_50 (by omega) rfl rfl ?_
          refine tv_istore_n (pc := 51) [(3, tm_i (μ 82 t.toNat)), (0, .ref (E.2.1 74)), (1, tm_i t), (2, tm_i v)] C dX8_set_51 rfl (by decide) rfl ?_
          refine tv_aload_n (pc := 52) 1 C dX8_set_52 rfl rfl ?_
          refine tv_getr (pc := 53) (q := 82) C rfl rfl fl_X8_31 dX8_set_53 ?_
          refine tv_iload_n (pc := 56) 2 C dX8_set_56 rfl rfl ?_
          refine tv_iload_n (pc := 57) 3 C dX8_set_57 rfl rfl ?_
          refine tv_iast (pc := 58) (j := t.toNat) C rfl dX8_set_58 (by omega) rfl ?_
          refine tv_iload_n (pc := 59) 0 C dX8_set_59 rfl rfl ?_
          refine tv_iret (pc := 60) C dX8_set_60 ?_
          refine ⟨_, rfl, by unfold se_z; rw [if_pos (by omega), m9], ?_, fun a ha => by rw [tm_uf (by omega)]⟩
          unfold se_d
          rw [if_pos (by omega)]
          exact rf_dial hI hd t.toNat v (by omega)
        · skip
          refine tv_bipush (pc := 42) C dX8_set_42 (by decide) ?_
          refine tv_iret (pc := 44) C dX8_set_44 ?_
          exact ⟨_, rfl, by unfold se_z; rw [if_neg (by omega)], by unfold se_d; rw [if_neg (by omega)]; exact hI, fun a _ => rfl⟩
    · skip
      refine tv_iload_n (pc := 15) 1 C dX8_set_15 rfl rfl ?_
      refine tv_iconst (pc := 16) C dX8_set_16 ?_
      refine tv_icmp_ne (pc := 17) 24 C dX8_set_17 (by decide) (by omega) (by omega) (fun h17 => ?_) (fun h17 => ?_)
      · skip
        refine tv_iconst (pc := 24) C dX8_set_24 ?_
        refine tv_top (se_lo t) (by unfold se_lo; rw [if_neg (by omega)]) ?_
        refine tv_iload_n (pc := 25) 1 C dX8_set_25 rfl rfl ?_
        refine tv_if_ne (pc := 26) 34 C dX8_set_26 (by decide) (by omega) (fun h26 => ?_) (fun h26 => ?_)
        · skip
          refine tv_bipush (pc := 34) C dX8_set_34 (by decide) ?_
          refine tv_top (se_hi t) (by unfold se_hi; rw [if_neg (by omega)]) ?_
          refine tv_callS (pc := 36) [tm_i v, tm_i (se_lo t), tm_i (se_hi t)] [] C (c8_in E _ μ v (se_lo t) (se_hi t) (by omega) (by omega) (by omega)) cs_X8_94 (by decide) rfl (Nat.le_of_ble_eq_true rfl) rfl dX8_set_36 (tm_kp ?_)
          refine tv_ifneB (pc := 39) 45 C dX8_set_39 (by decide) (fun h39 => ?_) (fun h39 => ?_)
          · skip
            refine tv_aload_n (pc := 45) 0 C dX8_set_45 rfl rfl ?_
            refine tv_getr (pc := 46) (q := 82) C rfl rfl fl_X8_31 dX8_set_46 ?_
            refine tv_iload_n (pc := 49) 1 C dX8_set_49 rfl rfl ?_
            have m9 := hI.1.2.2.2.2.2.2.2.2 t.toNat (by omega)
            refine tv_iald (pc := 50) (j := t.toNat) (z := μ 82 t.toNat) C rfl dX8_set_50 (by omega) rfl rfl ?_
            refine tv_istore_n (pc := 51) [(3, tm_i (μ 82 t.toNat)), (0, .ref (E.2.1 74)), (1, tm_i t), (2, tm_i v)] C dX8_set_51 rfl (by decide) rfl ?_
            refine tv_aload_n (pc := 52) 1 C dX8_set_52 rfl rfl ?_
            refine tv_getr (pc := 53) (q := 82) C rfl rfl fl_X8_31 dX8_set_53 ?_
            refine tv_iload_n (pc := 56) 2 C dX8_set_56 rfl rfl ?_
            refine tv_iload_n (pc := 57) 3 C dX8_set_57 rfl rfl ?_
            refine tv_iast (pc := 58) (j := t.toNat) C rfl dX8_set_58 (by omega) rfl ?_
            refine tv_iload_n (pc := 59) 0 C dX8_set_59 rfl rfl ?_
            refine tv_iret (pc := 60) C dX8_set_60 ?_
            refine ⟨_, rfl, by unfold se_z; rw [if_pos (by omega), m9], ?_, fun a ha => by rw [tm_uf (by omega)]⟩
            unfold se_d
            rw [if_pos (by omega)]
            exact rf_dial hI hd t.toNat v (by omega)
          · skip
            refine tv_bipush (pc := 42) C dX8_set_42 (by decide) ?_
            refine tv_iret (pc := 44) C dX8_set_44 ?_
            exact ⟨_, rfl, by unfold se_z; rw [if_neg (by omega)], by unfold se_d; rw [if_neg (by omega)]; exact hI, fun a _ => rfl⟩
        · skip
          refine tv_bipush (pc := 29) C dX8_set_29 (by decide) ?_
          refine tv_goto (pc := 31) 36 C dX8_set_31 (by decide) ?_
          refine tv_top (se_hi t) (by unfold se_hi; rw [if_pos (by omega)]) ?_
          refine tv_callS (pc := 36) [tm_i v, tm_i (se_lo t), tm_i (se_hi t)] [] C (c8_in E _ μ v (se_lo t) (se_hi t) (by omega) (by omega) (by omega)) cs_X8_94 (by decide) rfl (Nat.le_of_ble_eq_true rfl) rfl dX8_set_36 (tm_kp ?_)
          refine tv_ifneB (pc := 39) 45 C dX8_set_39 (by decide) (fun h39 => ?_) (fun h39 => ?_)
          · skip
            refine tv_aload_n (pc := 45) 0 C dX8_set_45 rfl rfl ?_
            refine tv_getr (pc := 46) (q := 82) C rfl rfl fl_X8_31 dX8_set_46 ?_
            refine tv_iload_n (pc := 49) 1 C dX8_set_49 rfl rfl ?_
            have m9 := hI.1.2.2.2.2.2.2.2.2 t.toNat (by omega)
            refine tv_iald (pc := 50) (j := t.toNat) (z := μ 82 t.toNat) C rfl dX8_set_50 (by omega) rfl rfl ?_
            refine tv_istore_n (pc := 51) [(3, tm_i (μ 82 t.toNat)), (0, .ref (E.2.1 74)), (1, tm_i t), (2, tm_i v)] C dX8_set_51 rfl (by decide) rfl ?_
            refine tv_aload_n (pc := 52) 1 C dX8_set_52 rfl rfl ?_
            refine tv_getr (pc := 53) (q := 82) C rfl rfl fl_X8_31 dX8_set_53 ?_
            refine tv_iload_n (pc := 56) 2 C dX8_set_56 rfl rfl ?_
            refine tv_iload_n (pc := 57) 3 C dX8_set_57 rfl rfl ?_
            refine tv_iast (pc := 58) (j := t.toNat) C rfl dX8_set_58 (by omega) rfl ?_
            refine tv_iload_n (pc := 59) 0 C dX8_set_59 rfl rfl ?_
            refine tv_iret (pc := 60) C dX8_set_60 ?_
            refine ⟨_, rfl, by unfold se_z; rw [if_pos (by omega), m9], ?_, fun a ha => by rw [tm_uf (by omega)]⟩
            unfold se_d
            rw [if_pos (by omega)]
            exact rf_dial hI hd t.toNat v (by omega)
          · skip
            refine tv_bipush (pc := 42) C dX8_set_42 (by decide) ?_
            refine tv_iret (pc := 44) C dX8_set_44 ?_
            exact ⟨_, rfl, by unfold se_z; rw [if_neg (by omega)], by unfold se_d; rw [if_neg (by omega)]; exact hI, fun a _ => rfl⟩
      · skip
        refine tv_iconst (pc := 20) C dX8_set_20 ?_
        refine tv_goto (pc := 21) 25 C dX8_set_21 (by decide) ?_
        refine tv_top (se_lo t) (by unfold se_lo; rw [if_pos (by omega)]) ?_
        refine tv_iload_n (pc := 25) 1 C dX8_set_25 rfl rfl ?_
        refine tv_if_ne (pc := 26) 34 C dX8_set_26 (by decide) (by omega) (fun h26 => ?_) (fun h26 => ?_)
        · skip
          refine tv_bipush (pc := 34) C dX8_set_34 (by decide) ?_
          refine tv_top (se_hi t) (by unfold se_hi; rw [if_neg (by omega)]) ?_
          refine tv_callS (pc := 36) [tm_i v, tm_i (se_lo t), tm_i (se_hi t)] [] C (c8_in E _ μ v (se_lo t) (se_hi t) (by omega) (by omega) (by omega)) cs_X8_94 (by decide) rfl (Nat.le_of_ble_eq_true rfl) rfl dX8_set_36 (tm_kp ?_)
          refine tv_ifneB (pc := 39) 45 C dX8_set_39 (by decide) (fun h39 => ?_) (fun h39 => ?_)
          · skip
            refine tv_aload_n (pc := 45) 0 C dX8_set_45 rfl rfl ?_
            refine tv_getr (pc := 46) (q := 82) C rfl rfl fl_X8_31 dX8_set_46 ?_
            refine tv_iload_n (pc := 49) 1 C dX8_set_49 rfl rfl ?_
            have m9 := hI.1.2.2.2.2.2.2.2.2 t.toNat (by omega)
            refine tv_iald (pc := 50) (j := t.toNat) (z := μ 82 t.toNat) C rfl dX8_set_50 (by omega) rfl rfl ?_
            refine tv_istore_n (pc := 51) [(3, tm_i (μ 82 t.toNat)), (0, .ref (E.2.1 74)), (1, tm_i t), (2, tm_i v)] C dX8_set_51 rfl (by decide) rfl ?_
            refine tv_aload_n (pc := 52) 1 C dX8_set_52 rfl rfl ?_
            refine tv_getr (pc := 53) (q := 82) C rfl rfl fl_X8_31 dX8_set_53 ?_
            refine tv_iload_n (pc := 56) 2 C dX8_set_56 rfl rfl ?_
            refine tv_iload_n (pc := 57) 3 C dX8_set_57 rfl rfl ?_
            refine tv_iast (pc := 58) (j := t.toNat) C rfl dX8_set_58 (by omega) rfl ?_
            refine tv_iload_n (pc := 59) 0 C dX8_set_59 rfl rfl ?_
            refine tv_iret (pc := 60) C dX8_set_60 ?_
            refine ⟨_, rfl, by unfold se_z; rw [if_pos (by omega), m9], ?_, fun a ha => by rw [tm_uf (by omega)]⟩
            unfold se_d
            rw [if_pos (by omega)]
            exact rf_dial hI hd t.toNat v (by omega)
          · skip
            refine tv_bipush (pc := 42) C dX8_set_42 (by decide) ?_
            refine tv_iret (pc := 44) C dX8_set_44 ?_
            exact ⟨_, rfl, by unfold se_z; rw [if_neg (by omega)], by unfold se_d; rw [if_neg (by omega)]; exact hI, fun a _ => rfl⟩
        · skip
          refine tv_bipush (pc := 29) C dX8_set_29 (by decide) ?_
          refine tv_goto (pc := 31) 36 C dX8_set_31 (by decide) ?_
          refine tv_top (se_hi t) (by unfold se_hi; rw [if_pos (by omega)]) ?_
          refine tv_callS (pc := 36) [tm_i v, tm_i (se_lo t), tm_i (se_hi t)] [] C (c8_in E _ μ v (se_lo t) (se_hi t) (by omega) (by omega) (by omega)) cs_X8_94 (by decide) rfl (Nat.le_of_ble_eq_true rfl) rfl dX8_set_36 (tm_kp ?_)
          refine tv_ifneB (pc := 39) 45 C dX8_set_39 (by decide) (fun h39 => ?_) (fun h39 => ?_)
          · skip
            refine tv_aload_n (pc := 45) 0 C dX8_set_45 rfl rfl ?_
            refine tv_getr (pc := 46) (q := 82) C rfl rfl fl_X8_31 dX8_set_46 ?_
            refine tv_iload_n (pc := 49) 1 C dX8_set_49 rfl rfl ?_
            have m9 := hI.1.2.2.2.2.2.2.2.2 t.toNat (by omega)
            refine tv_iald (pc := 50) (j := t.toNat) (z := μ 82 t.toNat) C rfl dX8_set_50 (by omega) rfl rfl ?_
            refine tv_istore_n (pc := 51) [(3, tm_i (μ 82 t.toNat)), (0, .ref (E.2.1 74)), (1, tm_i t), (2, tm_i v)] C dX8_set_51 rfl (by decide) rfl ?_
            refine tv_aload_n (pc := 52) 1 C dX8_set_52 rfl rfl ?_
            refine tv_getr (pc := 53) (q := 82) C rfl rfl fl_X8_31 dX8_set_53 ?_
            refine tv_iload_n (pc := 56) 2 C dX8_set_56 rfl rfl ?_
            refine tv_iload_n (pc := 57) 3 C dX8_set_57 rfl rfl ?_
            refine tv_iast (pc := 58) (j := t.toNat) C rfl dX8_set_58 (by omega) rfl ?_
            refine tv_iload_n (pc := 59) 0 C dX8_set_59 rfl rfl ?_
            refine tv_iret (pc := 60) C dX8_set_60 ?_
            refine ⟨_, rfl, by unfold se_z; rw [if_pos (by omega), m9], ?_, fun a ha => by rw [tm_uf (by omega)]⟩
            unfold se_d
            rw [if_pos (by omega)]
            exact rf_dial hI hd t.toNat v (by omega)
          · skip
            refine tv_bipush (pc := 42) C dX8_set_42 (by decide) ?_
            refine tv_iret (pc := 44) C dX8_set_44 ?_
            exact ⟨_, rfl, by unfold se_z; rw [if_neg (by omega)], by unfold se_d; rw [if_neg (by omega)]; exact hI, fun a _ => rfl⟩
theorem rf_I_f {μ ν d s : tm_M} (h : rf_I μ d s) (q1 : rf_m ν d) (q3 : rf_f μ ν) : rf_I ν d s := ⟨q1, rf_d_same h.2 (fun a ha => q3.1 a (by omega) (by omega)) (q3.2 35 (by omega) (by omega)) (q3.2 44 (by omega) (by omega))⟩
theorem k8_fault (E : tm_Ev) (l : Launch) (μ : tm_M) (d s : tm_M) (hd : dd_ok d) (hI : rf_I μ d s) (t : Int) (ht : -2147483648 ≤ t ∧ t ≤ 2147483647) : tm_Met E l yX8_fault cX8_fault 2 (some .int) 5 [.ref (E.2.1 74), tm_i t] μ (tm_pi (fun z μ' => z = fa_z d t ∧ rf_I μ' d s ∧ ∀ a, a < 74 → μ' a = μ a)) := by
  refine tm_intro [(0, .ref (E.2.1 74)), (1, tm_i t)] rfl (by decide +kernel) (Nat.le_of_ble_eq_true rfl) ?_
  intro X hX C
  subst hX
  have m1 := hI.1.1
  have m2 := hI.1.2.1
  have m5 := hI.1.2.2.2.2.1
  have m6 := hI.1.2.2.2.2.2.1
  have z1 := hd.1
  have z2 := hd.2.1
  have z3 := hd.2.2.2.2.1
  have z4 := hd.2.2.2.2.2.1
  refine tv_iload_n (pc := 0) 1 C dX8_fault_0 rfl rfl ?_
  refine tv_callS (pc := 1) [tm_i t] [] C (c8_isText E _ μ t (by omega)) cs_X8_98 (by decide) rfl (Nat.le_of_ble_eq_true rfl) rfl dX8_fault_1 (tm_kp ?_)
  refine tv_ifeqB (pc := 4) 15 C dX8_fault_4 (by decide) (fun h4 => ?_) (fun h4 => ?_)
  · skip
    refine tv_bipush (pc := 15) C dX8_fault_15 (by decide) ?_
    refine tv_iret (pc := 17) C dX8_fault_17 ?_
    exact ⟨_, rfl, by unfold fa_z; rw [if_neg (by omega)], hI, fun a _ => rfl⟩
  · skip
    refine tv_aload_n (pc := 7) 0 C dX8_fault_7 rfl rfl ?_
    refine tv_iload_n (pc := 8) 1 C dX8_fault_8 rfl rfl ?_
    refine tv_callV (pc := 9) [tm_i t] [] C (c8_faultOf E _ μ d hd hI.1 t (by omega)) cv_X8_128 rfl rfl (by decide) rfl (Nat.le_of_ble_eq_true rfl) rfl dX8_fault_9 (tm_ki ?_)
    rintro zz n1 ⟨hz, q1, q2, q3⟩
    refine tv_goto (pc := 12) 17 C dX8_fault_12 (by decide) ?_
    refine tv_iret (pc := 17) C dX8_fault_17 ?_
    exact ⟨_, rfl, by unfold fa_z; rw [if_pos (by omega)]; exact hz, rf_I_f hI q1 q3, fun a ha => q3.1 a (by omega) (by omega)⟩
