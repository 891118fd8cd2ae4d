theorem c4_begin_a (E : tm_Ev) (l : Launch) (μ : tm_M) (P : Nat) (hP : P = 36 ∨ (63 ≤ P ∧ P ≤ 71)) (hkP : tm_tm[P]? = some (0, 4, [none, none, none, none])) : tm_Met E l yX4_begin cX4_begin 2 none 0 [.ref (E.2.1 P), .ref (E.2.1 29)] μ (tm_pv (fun μ' => μ' = tm_pd μ P 0 (μ 30 0) 0 0)) := by
  refine tm_intro [(0, .ref (E.2.1 P)), (1, .ref (E.2.1 29))] rfl (by decide +kernel) (Nat.le_of_ble_eq_true rfl) ?_
  intro X hX C
  subst hX
  refine tv_aload_n (pc := 0) 0 C dX4_begin_0 rfl rfl ?_
  refine tv_iconst (pc := 1) C dX4_begin_1 ?_
  refine tv_puti (pc := 2) C hkP rfl fp_X4_9 dX4_begin_2 ?_
  refine tv_aload_n (pc := 5) 0 C dX4_begin_5 rfl rfl ?_
  refine tv_aload_n (pc := 6) 1 C dX4_begin_6 rfl rfl ?_
  refine tv_getr (pc := 7) (q := 30) C rfl rfl fl_X4_15 dX4_begin_7 ?_
  refine tv_iconst (pc := 10) C dX4_begin_10 ?_
  refine tv_iald (pc := 11) (j := 0) (z := μ 30 0) C rfl dX4_begin_11 (by omega) rfl ((tm_uk (by omega)).trans (rfl)) ?_
  refine tv_puti (pc := 12) C hkP rfl fp_X4_21 dX4_begin_12 ?_
  refine tv_aload_n (pc := 15) 0 C dX4_begin_15 rfl rfl ?_
  refine tv_iconst (pc := 16) C dX4_begin_16 ?_
  refine tv_puti (pc := 17) C hkP rfl fp_X4_24 dX4_begin_17 ?_
  refine tv_aload_n (pc := 20) 0 C dX4_begin_20 rfl rfl ?_
  refine tv_iconst (pc := 21) C dX4_begin_21 ?_
  refine tv_puti (pc := 22) C hkP rfl fp_X4_27 dX4_begin_22 ?_
  refine tv_vret (pc := 25) C dX4_begin_25 ?_
  exact ⟨rfl, rfl⟩
theorem c4_dull_a (E : tm_Ev) (l : Launch) (μ : tm_M) (P : Nat) (hP : P = 36 ∨ (63 ≤ P ∧ P ≤ 71)) (hkP : tm_tm[P]? = some (0, 4, [none, none, none, none])) (hw : 0 ≤ μ P 2 ∧ μ P 2 ≤ 1000) (hs : 1 ≤ μ 30 4 ∧ μ 30 4 ≤ 9) : tm_Met E l yX4_dullness cX4_dullness 3 (some .int) 0 [.ref (E.2.1 P), .ref (E.2.1 29)] μ (tm_pi (fun z μ' => z = μ P 2 / μ 30 4 ∧ μ' = μ)) := by
  refine tm_intro [(0, .ref (E.2.1 P)), (1, .ref (E.2.1 29))] rfl (by decide +kernel) (Nat.le_of_ble_eq_true rfl) ?_
  intro X hX C
  subst hX
  refine tv_aload_n (pc := 0) 1 C dX4_dullness_0 rfl rfl ?_
  refine tv_getr (pc := 1) (q := 30) C rfl rfl fl_X4_15 dX4_dullness_1 ?_
  refine tv_iconst (pc := 4) C dX4_dullness_4 ?_
  refine tv_iald (pc := 5) (j := 4) (z := μ 30 4) C rfl dX4_dullness_5 (by omega) rfl rfl ?_
  refine tv_istore_n (pc := 6) [(2, tm_i (μ 30 4)), (0, .ref (E.2.1 P)), (1, .ref (E.2.1 29))] C dX4_dullness_6 rfl (by decide) rfl ?_
  refine tv_iload_n (pc := 7) 0 C dX4_dullness_7 rfl rfl ?_
  refine tv_if_le (pc := 8) 20 C dX4_dullness_8 (by decide) (by omega) (fun h8 => ?_) (fun h8 => ?_)
  · skip
    exfalso; omega
  · skip
    refine tv_aload_n (pc := 11) 1 C dX4_dullness_11 rfl rfl ?_
    refine tv_geti (pc := 12) (z := μ P 2) C hkP rfl fl_X4_24 dX4_dullness_12 rfl ?_
    refine tv_iload_n (pc := 15) 0 C dX4_dullness_15 rfl rfl ?_
    refine tv_idiv (pc := 16) C dX4_dullness_16 (by omega) (by omega) ?_
    refine tv_goto (pc := 17) 21 C dX4_dullness_17 (by decide) ?_
    refine tv_iret (pc := 21) C dX4_dullness_21 ?_
    exact ⟨_, rfl, rfl, rfl⟩
set_option maxHeartbeats 4000000 in
theorem c4_pass_a (E : tm_Ev) (l : Launch) (μ : tm_M) (P : Nat) (hP : P = 36 ∨ (63 ≤ P ∧ P ≤ 71)) (hkP : tm_tm[P]? = some (0, 4, [none, none, none, none])) (h : Nat) (g : Int) (hh : μ P 0 = (h : Int)) (hh2 : h < 40) (hg : g = -1 ∨ (0 ≤ g ∧ g ≤ 2)) (h1 : 0 ≤ μ P 1 ∧ μ P 1 ≤ 20) (h2 : 0 ≤ μ P 2 ∧ μ P 2 ≤ 1000) (h3 : 0 ≤ μ P 3 ∧ μ P 3 ≤ 100000) (hs : 0 ≤ μ 31 h ∧ μ 31 h ≤ 18) (hf : 1 ≤ μ 30 1 ∧ μ 30 1 ≤ 9) (hl : 0 ≤ μ 30 2 ∧ μ 30 2 ≤ 9) (hd : 0 ≤ μ 30 3 ∧ μ 30 3 ≤ 9) (hs4 : 1 ≤ μ 30 4 ∧ μ 30 4 ≤ 9) (hr : 0 ≤ μ 32 h ∧ μ 32 h ≤ 10) (hdr : 0 ≤ μ 33 h ∧ μ 33 h ≤ 10) : tm_Met E l yX4_pass cX4_pass 5 (some .boolean) 2 [.ref (E.2.1 P), .ref (E.2.1 29), tm_i g] μ (tm_pi (fun z μ' => z = sp_g (μ 33 h) g (sp_wet (μ 31 h) (μ P 1) (μ 30 1) (μ 32 h) (μ 30 2)) (μ 31 h) (μ 30 3) (μ P 2) (μ 30 4) ∧ μ' = tm_pd μ P ((h : Int) + 1) (sp_wet (μ 31 h) (μ P 1) (μ 30 1) (μ 32 h) (μ 30 2) - (sp_g (μ 33 h) g (sp_wet (μ 31 h) (μ P 1) (μ 30 1) (μ 32 h) (μ 30 2)) (μ 31 h) (μ 30 3) (μ P 2) (μ 30 4)) * min (sp_wet (μ 31 h) (μ P 1) (μ 30 1) (μ 32 h) (μ 30 2)) (3 - g)) (if 0 < μ 33 h then 0 else μ P 2 + (sp_g (μ 33 h) g (sp_wet (μ 31 h) (μ P 1) (μ 30 1) (μ 32 h) (μ 30 2)) (μ 31 h) (μ 30 3) (μ P 2) (μ 30 4))) (μ P 3 + sp_spl (μ 31 h) (μ P 1) (μ 30 1) (μ 32 h)))) := by
  refine tm_intro [(0, .ref (E.2.1 P)), (1, .ref (E.2.1 29)), (2, tm_i g)] rfl (by decide +kernel) (Nat.le_of_ble_eq_true rfl) ?_
  intro X hX C
  subst hX
  have hq4 : 0 ≤ μ P 2 / μ 30 4 ∧ μ P 2 / μ 30 4 ≤ 1000 := ⟨Int.ediv_nonneg h2.1 (by omega), Int.le_trans (Int.ediv_le_self _ h2.1) h2.2⟩
  refine tv_aload_n (pc := 0) 0 C dX4_pass_0 rfl rfl ?_
  refine tv_geti (pc := 1) (z := (h : Int)) C hkP rfl fl_X4_9 dX4_pass_1 hh ?_
  refine tv_if_lt (pc := 4) 16 C dX4_pass_4 (by decide) (by omega) (fun h4 => ?_) (fun h4 => ?_)
  · skip
    exfalso; omega
  · skip
    refine tv_aload_n (pc := 7) 0 C dX4_pass_7 rfl rfl ?_
    refine tv_geti (pc := 8) (z := (h : Int)) C hkP rfl fl_X4_9 dX4_pass_8 hh ?_
    refine tv_bipush (pc := 11) C dX4_pass_11 (by decide) ?_
    refine tv_icmp_lt (pc := 13) 18 C dX4_pass_13 (by decide) (by omega) (by omega) (fun h13 => ?_) (fun h13 => ?_)
    · skip
      refine tv_aload_n (pc := 18) 1 C dX4_pass_18 rfl rfl ?_
      refine tv_getr (pc := 19) (q := 31) C rfl rfl fl_X4_30 dX4_pass_19 ?_
      refine tv_aload_n (pc := 22) 0 C dX4_pass_22 rfl rfl ?_
      refine tv_geti (pc := 23) (z := (h : Int)) C hkP rfl fl_X4_9 dX4_pass_23 hh ?_
      refine tv_iald (pc := 26) (j := h) (z := μ 31 h) C rfl dX4_pass_26 (by omega) (Int.toNat_natCast _) rfl ?_
      refine tv_istore_n (pc := 27) [(3, tm_i (μ 31 h)), (0, .ref (E.2.1 P)), (1, .ref (E.2.1 29)), (2, tm_i g)] C dX4_pass_27 rfl (by decide) rfl ?_
      refine tv_aload_n (pc := 28) 1 C dX4_pass_28 rfl rfl ?_
      refine tv_dup (pc := 29) C dX4_pass_29 rfl ?_
      refine tv_geti (pc := 30) (z := μ P 1) C hkP rfl fl_X4_21 dX4_pass_30 rfl ?_
      refine tv_iload_n (pc := 33) 0 C dX4_pass_33 rfl rfl ?_
      refine tv_aload_n (pc := 34) 1 C dX4_pass_34 rfl rfl ?_
      refine tv_geti (pc := 35) (z := μ P 1) C hkP rfl fl_X4_21 dX4_pass_35 rfl ?_
      refine tv_isub (pc := 38) C dX4_pass_38 ?_
      refine tv_iconst (pc := 39) C dX4_pass_39 ?_
      refine tv_mmax (pc := 40) C mx_X4_33 (by omega) (by omega) dX4_pass_40 (Nat.le_of_ble_eq_true rfl) ?_
      refine tv_aload_n (pc := 43) 2 C dX4_pass_43 rfl rfl ?_
      refine tv_getr (pc := 44) (q := 30) C rfl rfl fl_X4_15 dX4_pass_44 ?_
      refine tv_iconst (pc := 47) C dX4_pass_47 ?_
      refine tv_iald (pc := 48) (j := 1) (z := μ 30 1) C rfl dX4_pass_48 (by omega) rfl rfl ?_
      refine tv_mmin (pc := 49) C mx_X4_39 (by omega) (by omega) dX4_pass_49 (Nat.le_of_ble_eq_true rfl) ?_
      refine tv_iconst (pc := 52) C dX4_pass_52 ?_
      refine tv_aload_n (pc := 53) 2 C dX4_pass_53 rfl rfl ?_
      refine tv_getr (pc := 54) (q := 32) C rfl rfl fl_X4_42 dX4_pass_54 ?_
      refine tv_aload_n (pc := 57) 1 C dX4_pass_57 rfl rfl ?_
      refine tv_geti (pc := 58) (z := (h : Int)) C hkP rfl fl_X4_9 dX4_pass_58 hh ?_
      refine tv_iald (pc := 61) (j := h) (z := μ 32 h) C rfl dX4_pass_61 (by omega) (Int.toNat_natCast _) rfl ?_
      refine tv_imul (pc := 62) C dX4_pass_62 ?_
      refine tv_iadd (pc := 63) C dX4_pass_63 ?_
      refine tv_iadd (pc := 64) C dX4_pass_64 ?_
      refine tv_puti (pc := 65) C hkP rfl fp_X4_21 dX4_pass_65 ?_
      refine tv_aload_n (pc := 68) 1 C dX4_pass_68 rfl rfl ?_
      refine tv_geti (pc := 69) (z := (μ P 1) + ((min (max ((μ 31 h) - (μ P 1)) 0) (μ 30 1)) + (3 * (μ 32 h)))) C hkP rfl fl_X4_21 dX4_pass_69 tm_us ?_
      refine tv_bipush (pc := 72) C dX4_pass_72 (by decide) ?_
      refine tv_icmp_le (pc := 74) 99 C dX4_pass_74 (by decide) (by omega) (by omega) (fun h74 => ?_) (fun h74 => ?_)
      · skip
        refine tv_aload_n (pc := 99) 1 C dX4_pass_99 rfl rfl ?_
        refine tv_aload_n (pc := 100) 1 C dX4_pass_100 rfl rfl ?_
        refine tv_geti (pc := 101) (z := (μ P 1) + ((min (max ((μ 31 h) - (μ P 1)) 0) (μ 30 1)) + (3 * (μ 32 h)))) C hkP rfl fl_X4_21 dX4_pass_101 tm_us ?_
        refine tv_aload_n (pc := 104) 2 C dX4_pass_104 rfl rfl ?_
        refine tv_getr (pc := 105) (q := 30) C rfl rfl fl_X4_15 dX4_pass_105 ?_
        refine tv_iconst (pc := 108) C dX4_pass_108 ?_
        refine tv_iald (pc := 109) (j := 2) (z := μ 30 2) C rfl dX4_pass_109 (by omega) rfl ((tm_uk (by omega)).trans (rfl)) ?_
        refine tv_isub (pc := 110) C dX4_pass_110 ?_
        refine tv_iconst (pc := 111) C dX4_pass_111 ?_
        refine tv_mmax (pc := 112) C mx_X4_33 (by omega) (by omega) dX4_pass_112 (Nat.le_of_ble_eq_true rfl) ?_
        refine tv_puti (pc := 115) C hkP rfl fp_X4_21 dX4_pass_115 ?_
        refine tv_aload_n (pc := 118) 2 C dX4_pass_118 rfl rfl ?_
        refine tv_getr (pc := 119) (q := 33) C rfl rfl fl_X4_45 dX4_pass_119 ?_
        refine tv_aload_n (pc := 122) 1 C dX4_pass_122 rfl rfl ?_
        refine tv_geti (pc := 123) (z := (h : Int)) C hkP rfl fl_X4_9 dX4_pass_123 ((tm_uj (by decide)).trans ((tm_uj (by decide)).trans (hh))) ?_
        refine tv_iald (pc := 126) (j := h) (z := μ 33 h) C rfl dX4_pass_126 (by omega) (Int.toNat_natCast _) ((tm_uk (by omega)).trans ((tm_uk (by omega)).trans (rfl))) ?_
        refine tv_if_le (pc := 127) 134 C dX4_pass_127 (by decide) (by omega) (fun h127 => ?_) (fun h127 => ?_)
        · skip
          refine tv_iconst (pc := 134) C dX4_pass_134 ?_
          refine tv_istore (pc := 135) [(4, tm_i 0), (3, tm_i (μ 31 h)), (0, .ref (E.2.1 P)), (1, .ref (E.2.1 29)), (2, tm_i g)] C dX4_pass_135 (by decide) rfl ?_
          refine tv_aload_n (pc := 137) 2 C dX4_pass_137 rfl rfl ?_
          refine tv_dup (pc := 138) C dX4_pass_138 rfl ?_
          refine tv_geti (pc := 139) (z := (h : Int)) C hkP rfl fl_X4_9 dX4_pass_139 ((tm_uj (by decide)).trans ((tm_uj (by decide)).trans (hh))) ?_
          refine tv_iconst (pc := 142) C dX4_pass_142 ?_
          refine tv_iadd (pc := 143) C dX4_pass_143 ?_
          refine tv_puti (pc := 144) C hkP rfl fp_X4_9 dX4_pass_144 ?_
          refine tv_iload (pc := 147) 0 C dX4_pass_147 rfl ?_
          refine tv_if_eq (pc := 149) 159 C dX4_pass_149 (by decide) (by omega) (fun _ => ?_) (fun q => absurd q (by decide))
          refine tv_iload_n (pc := 159) 4 C dX4_pass_159 rfl rfl ?_
          refine tv_iconst (pc := 160) C dX4_pass_160 ?_
          refine tv_icmp_eq (pc := 161) 191 C dX4_pass_161 (by decide) (by omega) (by omega) (fun h161 => ?_) (fun h161 => ?_)
          · skip
            refine tv_iconst (pc := 191) C dX4_pass_191 ?_
            refine tv_zret (pc := 192) C dX4_pass_192 (by omega) ?_
            have hg9 : sp_g (μ 33 h) g (sp_wet (μ 31 h) (μ P 1) (μ 30 1) (μ 32 h) (μ 30 2)) (μ 31 h) (μ 30 3) (μ P 2) (μ 30 4) = 0 := by unfold sp_g; first | (rw [if_pos (by omega)]; done) | (rw [if_neg (by omega), if_pos (by omega)]; done) | (rw [if_neg (by omega), if_neg (by omega), if_pos (by unfold sp_wet sp_fill; omega)]; done) | (rw [if_neg (by omega), if_neg (by omega), if_neg (by unfold sp_wet sp_fill; omega)]; done)
            refine ⟨_, rfl, hg9.symm, ?_⟩
            rw [hg9]
            refine tm_pd_of (tm_us) (((tm_uj (by decide)).trans (tm_us)).trans (by unfold sp_wet sp_fill; omega)) (((tm_uj (by decide)).trans ((tm_uj (by decide)).trans ((tm_uj (by decide)).trans (rfl)))).trans (by first | (rw [if_pos (by omega)]; done) | (rw [if_neg (by omega)]; done) | (rw [if_neg (by omega)]; omega))) (((tm_uj (by decide)).trans ((tm_uj (by decide)).trans ((tm_uj (by decide)).trans (rfl)))).trans (by unfold sp_spl sp_fill; omega)) (fun x hx => by simp only [tm_uf hx]) (fun j hj => by simp only [tm_uj (show j ≠ 0 by omega), tm_uj (show j ≠ 1 by omega), tm_uj (show j ≠ 2 by omega), tm_uj (show j ≠ 3 by omega)])
          · skip
            refine tv_aload_n (pc := 164) 2 C dX4_pass_164 rfl rfl ?_
            refine tv_geti (pc := 165) (z := max (((μ P 1) + ((min (max ((μ 31 h) - (μ P 1)) 0) (μ 30 1)) + (3 * (μ 32 h)))) - (μ 30 2)) 0) C hkP rfl fl_X4_21 dX4_pass_165 ((tm_uj (by decide)).trans (tm_us)) ?_
            refine tv_iload_n (pc := 168) 1 C dX4_pass_168 rfl rfl ?_
            refine tv_isub (pc := 169) C dX4_pass_169 ?_
            refine tv_aload_n (pc := 170) 3 C dX4_pass_170 rfl rfl ?_
            refine tv_getr (pc := 171) (q := 30) C rfl rfl fl_X4_15 dX4_pass_171 ?_
            refine tv_iconst (pc := 174) C dX4_pass_174 ?_
            refine tv_iald (pc := 175) (j := 3) (z := μ 30 3) C rfl dX4_pass_175 (by omega) rfl ((tm_uk (by omega)).trans ((tm_uk (by omega)).trans ((tm_uk (by omega)).trans (rfl)))) ?_
            refine tv_getsN (pc := 176) 3 C (by decide) gs_X4_48 dX4_pass_176 ?_
            refine tv_iload_n (pc := 179) 4 C dX4_pass_179 rfl rfl ?_
            refine tv_sald (pc := 180) (z := 2 - g) 3 C (by decide) dX4_pass_180 (show 0 ≤ g ∧ g < ((3 : Nat) : Int) by omega) (by rcases (show g = 0 ∨ g = 1 ∨ g = 2 by omega) with rfl | rfl | rfl <;> rfl) ?_
            refine tv_iadd (pc := 181) C dX4_pass_181 ?_
            refine tv_aload_n (pc := 182) 2 C dX4_pass_182 rfl rfl ?_
            refine tv_aload_n (pc := 183) 3 C dX4_pass_183 rfl rfl ?_
            refine tv_callV (pc := 184) [.ref (E.2.1 29)] [tm_i ((μ 30 3) + (2 - g)), tm_i ((max (((μ P 1) + ((min (max ((μ 31 h) - (μ P 1)) 0) (μ 30 1)) + (3 * (μ 32 h)))) - (μ 30 2)) 0) - (μ 31 h))] C (c4_dull_a E _ (tm_up (tm_up (tm_up μ P 1 ((μ P 1) + ((min (max ((μ 31 h) - (μ P 1)) 0) (μ 30 1)) + (3 * (μ 32 h))))) P 1 (max (((μ P 1) + ((min (max ((μ 31 h) - (μ P 1)) 0) (μ 30 1)) + (3 * (μ 32 h)))) - (μ 30 2)) 0)) P 0 ((h : Int) + 1)) P hP hkP (by rw [show (tm_up (tm_up (tm_up μ P 1 ((μ P 1) + ((min (max ((μ 31 h) - (μ P 1)) 0) (μ 30 1)) + (3 * (μ 32 h))))) P 1 (max (((μ P 1) + ((min (max ((μ 31 h) - (μ P 1)) 0) (μ 30 1)) + (3 * (μ 32 h)))) - (μ 30 2)) 0)) P 0 ((h : Int) + 1)) P 2 = μ P 2 from (tm_uj (by decide)).trans ((tm_uj (by decide)).trans ((tm_uj (by decide)).trans (rfl)))]; omega) (by rw [show (tm_up (tm_up (tm_up μ P 1 ((μ P 1) + ((min (max ((μ 31 h) - (μ P 1)) 0) (μ 30 1)) + (3 * (μ 32 h))))) P 1 (max (((μ P 1) + ((min (max ((μ 31 h) - (μ P 1)) 0) (μ 30 1)) + (3 * (μ 32 h)))) - (μ 30 2)) 0)) P 0 ((h : Int) + 1)) 30 4 = μ 30 4 from (tm_uk (by omega)).trans ((tm_uk (by omega)).trans ((tm_uk (by omega)).trans (rfl)))]; omega)) cv_X4_51 hkP rfl (by decide) rfl (Nat.le_of_ble_eq_true rfl) rfl dX4_pass_184 (tm_ki ?_)
            rintro z9 μ9 ⟨hz9, rfl⟩
            have hz9 : z9 = μ P 2 / μ 30 4 := by rw [hz9, show (tm_up (tm_up (tm_up μ P 1 ((μ P 1) + ((min (max ((μ 31 h) - (μ P 1)) 0) (μ 30 1)) + (3 * (μ 32 h))))) P 1 (max (((μ P 1) + ((min (max ((μ 31 h) - (μ P 1)) 0) (μ 30 1)) + (3 * (μ 32 h)))) - (μ 30 2)) 0)) P 0 ((h : Int) + 1)) P 2 = μ P 2 from (tm_uj (by decide)).trans ((tm_uj (by decide)).trans ((tm_uj (by decide)).trans (rfl))), show (tm_up (tm_up (tm_up μ P 1 ((μ P 1) + ((min (max ((μ 31 h) - (μ P 1)) 0) (μ 30 1)) + (3 * (μ 32 h))))) P 1 (max (((μ P 1) + ((min (max ((μ 31 h) - (μ P 1)) 0) (μ 30 1)) + (3 * (μ 32 h)))) - (μ 30 2)) 0)) P 0 ((h : Int) + 1)) 30 4 = μ 30 4 from (tm_uk (by omega)).trans ((tm_uk (by omega)).trans ((tm_uk (by omega)).trans (rfl)))]
            subst hz9
            refine tv_iadd (pc := 187) C dX4_pass_187 ?_
            refine tv_icmp_ge (pc := 188) 193 C dX4_pass_188 (by decide) (by omega) (by omega) (fun h188 => ?_) (fun h188 => ?_)
            · skip
              refine tv_aload_n (pc := 193) 2 C dX4_pass_193 rfl rfl ?_
              refine tv_aload_n (pc := 194) 2 C dX4_pass_194 rfl rfl ?_
              refine tv_geti (pc := 195) (z := max (((μ P 1) + ((min (max ((μ 31 h) - (μ P 1)) 0) (μ 30 1)) + (3 * (μ 32 h)))) - (μ 30 2)) 0) C hkP rfl fl_X4_21 dX4_pass_195 ((tm_uj (by decide)).trans (tm_us)) ?_
              refine tv_getsN (pc := 198) 4 C (by decide) gs_X4_55 dX4_pass_198 ?_
              refine tv_iload_n (pc := 201) 4 C dX4_pass_201 rfl rfl ?_
              refine tv_sald (pc := 202) (z := 3 - g) 4 C (by decide) dX4_pass_202 (show 0 ≤ g ∧ g < ((3 : Nat) : Int) by omega) (by rcases (show g = 0 ∨ g = 1 ∨ g = 2 by omega) with rfl | rfl | rfl <;> rfl) ?_
              refine tv_isub (pc := 203) C dX4_pass_203 ?_
              refine tv_iconst (pc := 204) C dX4_pass_204 ?_
              refine tv_mmax (pc := 205) C mx_X4_33 (by omega) (by omega) dX4_pass_205 (Nat.le_of_ble_eq_true rfl) ?_
              refine tv_puti (pc := 208) C hkP rfl fp_X4_21 dX4_pass_208 ?_
              refine tv_aload_n (pc := 211) 2 C dX4_pass_211 rfl rfl ?_
              refine tv_dup (pc := 212) C dX4_pass_212 rfl ?_
              refine tv_geti (pc := 213) (z := μ P 2) C hkP rfl fl_X4_24 dX4_pass_213 ((tm_uj (by decide)).trans ((tm_uj (by decide)).trans ((tm_uj (by decide)).trans ((tm_uj (by decide)).trans (rfl))))) ?_
              refine tv_iconst (pc := 216) C dX4_pass_216 ?_
              refine tv_iadd (pc := 217) C dX4_pass_217 ?_
              refine tv_puti (pc := 218) C hkP rfl fp_X4_24 dX4_pass_218 ?_
              refine tv_iconst (pc := 221) C dX4_pass_221 ?_
              refine tv_zret (pc := 222) C dX4_pass_222 (by omega) ?_
              have hg9 : sp_g (μ 33 h) g (sp_wet (μ 31 h) (μ P 1) (μ 30 1) (μ 32 h) (μ 30 2)) (μ 31 h) (μ 30 3) (μ P 2) (μ 30 4) = 1 := by unfold sp_g; first | (rw [if_pos (by omega)]; done) | (rw [if_neg (by omega), if_pos (by omega)]; done) | (rw [if_neg (by omega), if_neg (by omega), if_pos (by unfold sp_wet sp_fill; omega)]; done) | (rw [if_neg (by omega), if_neg (by omega), if_neg (by unfold sp_wet sp_fill; omega)]; done)
              refine ⟨_, rfl, hg9.symm, ?_⟩
              rw [hg9]
              refine tm_pd_of ((tm_uj (by decide)).trans ((tm_uj (by decide)).trans (tm_us))) (((tm_uj (by decide)).trans (tm_us)).trans (by unfold sp_wet sp_fill; omega)) ((tm_us).trans (by first | (rw [if_pos (by omega)]; done) | (rw [if_neg (by omega)]; done) | (rw [if_neg (by omega)]; omega))) (((tm_uj (by decide)).trans ((tm_uj (by decide)).trans ((tm_uj (by decide)).trans ((tm_uj (by decide)).trans ((tm_uj (by decide)).trans (rfl)))))).trans (by unfold sp_spl sp_fill; omega)) (fun x hx => by simp only [tm_uf hx]) (fun j hj => by simp only [tm_uj (show j ≠ 0 by omega), tm_uj (show j ≠ 1 by omega), tm_uj (show j ≠ 2 by omega), tm_uj (show j ≠ 3 by omega)])
            · skip
              refine tv_iconst (pc := 191) C dX4_pass_191 ?_
              refine tv_zret (pc := 192) C dX4_pass_192 (by omega) ?_
              have hg9 : sp_g (μ 33 h) g (sp_wet (μ 31 h) (μ P 1) (μ 30 1) (μ 32 h) (μ 30 2)) (μ 31 h) (μ 30 3) (μ P 2) (μ 30 4) = 0 := by unfold sp_g; first | (rw [if_pos (by omega)]; done) | (rw [if_neg (by omega), if_pos (by omega)]; done) | (rw [if_neg (by omega), if_neg (by omega), if_pos (by unfold sp_wet sp_fill; omega)]; done) | (rw [if_neg (by omega), if_neg (by omega), if_neg (by unfold sp_wet sp_fill; omega)]; done)
              refine ⟨_, rfl, hg9.symm, ?_⟩
              rw [hg9]
              refine tm_pd_of (tm_us) (((tm_uj (by decide)).trans (tm_us)).trans (by unfold sp_wet sp_fill; omega)) (((tm_uj (by decide)).trans ((tm_uj (by decide)).trans ((tm_uj (by decide)).trans (rfl)))).trans (by first | (rw [if_pos (by omega)]; done) | (rw [if_neg (by omega)]; done) | (rw [if_neg (by omega)]; omega))) (((tm_uj (by decide)).trans ((tm_uj (by decide)).trans ((tm_uj (by decide)).trans (rfl)))).trans (by unfold sp_spl sp_fill; omega)) (fun x hx => by simp only [tm_uf hx]) (fun j hj => by simp only [tm_uj (show j ≠ 0 by omega), tm_uj (show j ≠ 1 by omega), tm_uj (show j ≠ 2 by omega), tm_uj (show j ≠ 3 by omega)])
        · skip
          refine tv_iconst (pc := 130) C dX4_pass_130 ?_
          refine tv_goto (pc := 131) 135 C dX4_pass_131 (by decide) ?_
          refine tv_istore (pc := 135) [(4, tm_i 1), (3, tm_i (μ 31 h)), (0, .ref (E.2.1 P)), (1, .ref (E.2.1 29)), (2, tm_i g)] C dX4_pass_135 (by decide) rfl ?_
          refine tv_aload_n (pc := 137) 2 C dX4_pass_137 rfl rfl ?_
          refine tv_dup (pc := 138) C dX4_pass_138 rfl ?_
          refine tv_geti (pc := 139) (z := (h : Int)) C hkP rfl fl_X4_9 dX4_pass_139 ((tm_uj (by decide)).trans ((tm_uj (by decide)).trans (hh))) ?_
          refine tv_iconst (pc := 142) C dX4_pass_142 ?_
          refine tv_iadd (pc := 143) C dX4_pass_143 ?_
          refine tv_puti (pc := 144) C hkP rfl fp_X4_9 dX4_pass_144 ?_
          refine tv_iload (pc := 147) 0 C dX4_pass_147 rfl ?_
          refine tv_if_eq (pc := 149) 159 C dX4_pass_149 (by decide) (by omega) (fun q => absurd q (by decide)) (fun _ => ?_)
          refine tv_aload_n (pc := 152) 2 C dX4_pass_152 rfl rfl ?_
          refine tv_iconst (pc := 153) C dX4_pass_153 ?_
          refine tv_puti (pc := 154) C hkP rfl fp_X4_24 dX4_pass_154 ?_
          refine tv_iconst (pc := 157) C dX4_pass_157 ?_
          refine tv_zret (pc := 158) C dX4_pass_158 (by omega) ?_
          have hg9 : sp_g (μ 33 h) g (sp_wet (μ 31 h) (μ P 1) (μ 30 1) (μ 32 h) (μ 30 2)) (μ 31 h) (μ 30 3) (μ P 2) (μ 30 4) = 0 := by unfold sp_g; first | (rw [if_pos (by omega)]; done) | (rw [if_neg (by omega), if_pos (by omega)]; done) | (rw [if_neg (by omega), if_neg (by omega), if_pos (by unfold sp_wet sp_fill; omega)]; done) | (rw [if_neg (by omega), if_neg (by omega), if_neg (by unfold sp_wet sp_fill; omega)]; done)
          refine ⟨_, rfl, hg9.symm, ?_⟩
          rw [hg9]
          refine tm_pd_of ((tm_uj (by decide)).trans (tm_us)) (((tm_uj (by decide)).trans ((tm_uj (by decide)).trans (tm_us))).trans (by unfold sp_wet sp_fill; omega)) ((tm_us).trans (by first | (rw [if_pos (by omega)]; done) | (rw [if_neg (by omega)]; done) | (rw [if_neg (by omega)]; omega))) (((tm_uj (by decide)).trans ((tm_uj (by decide)).trans ((tm_uj (by decide)).trans ((tm_uj (by decide)).trans (rfl))))).trans (by unfold sp_spl sp_fill; omega)) (fun x hx => by simp only [tm_uf hx]) (fun j hj => by simp only [tm_uj (show j ≠ 0 by omega), tm_uj (show j ≠ 1 by omega), tm_uj (show j ≠ 2 by omega), tm_uj (show j ≠ 3 by omega)])
      · skip
        refine tv_aload_n (pc := 77) 1 C dX4_pass_77 rfl rfl ?_
        refine tv_dup (pc := 78) C dX4_pass_78 rfl ?_
        refine tv_geti (pc := 79) (z := μ P 3) C hkP rfl fl_X4_27 dX4_pass_79 ((tm_uj (by decide)).trans (rfl)) ?_
        refine tv_aload_n (pc := 82) 1 C dX4_pass_82 rfl rfl ?_
        refine tv_geti (pc := 83) (z := (μ P 1) + ((min (max ((μ 31 h) - (μ P 1)) 0) (μ 30 1)) + (3 * (μ 32 h)))) C hkP rfl fl_X4_21 dX4_pass_83 tm_us ?_
        refine tv_bipush (pc := 86) C dX4_pass_86 (by decide) ?_
        refine tv_isub (pc := 88) C dX4_pass_88 ?_
        refine tv_iadd (pc := 89) C dX4_pass_89 ?_
        refine tv_puti (pc := 90) C hkP rfl fp_X4_27 dX4_pass_90 ?_
        refine tv_aload_n (pc := 93) 1 C dX4_pass_93 rfl rfl ?_
        refine tv_bipush (pc := 94) C dX4_pass_94 (by decide) ?_
        refine tv_puti (pc := 96) C hkP rfl fp_X4_21 dX4_pass_96 ?_
        refine tv_aload_n (pc := 99) 1 C dX4_pass_99 rfl rfl ?_
        refine tv_aload_n (pc := 100) 1 C dX4_pass_100 rfl rfl ?_
        refine tv_geti (pc := 101) (z := 20) C hkP rfl fl_X4_21 dX4_pass_101 tm_us ?_
        refine tv_aload_n (pc := 104) 2 C dX4_pass_104 rfl rfl ?_
        refine tv_getr (pc := 105) (q := 30) C rfl rfl fl_X4_15 dX4_pass_105 ?_
        refine tv_iconst (pc := 108) C dX4_pass_108 ?_
        refine tv_iald (pc := 109) (j := 2) (z := μ 30 2) C rfl dX4_pass_109 (by omega) rfl ((tm_uk (by omega)).trans ((tm_uk (by omega)).trans ((tm_uk (by omega)).trans (rfl)))) ?_
        refine tv_isub (pc := 110) C dX4_pass_110 ?_
        refine tv_iconst (pc := 111) C dX4_pass_111 ?_
        refine tv_mmax (pc := 112) C mx_X4_33 (by omega) (by omega) dX4_pass_112 (Nat.le_of_ble_eq_true rfl) ?_
        refine tv_puti (pc := 115) C hkP rfl fp_X4_21 dX4_pass_115 ?_
        refine tv_aload_n (pc := 118) 2 C dX4_pass_118 rfl rfl ?_
        refine tv_getr (pc := 119) (q := 33) C rfl rfl fl_X4_45 dX4_pass_119 ?_
        refine tv_aload_n (pc := 122) 1 C dX4_pass_122 rfl rfl ?_
        refine tv_geti (pc := 123) (z := (h : Int)) C hkP rfl fl_X4_9 dX4_pass_123 ((tm_uj (by decide)).trans ((tm_uj (by decide)).trans ((tm_uj (by decide)).trans ((tm_uj (by decide)).trans (hh))))) ?_
        refine tv_iald (pc := 126) (j := h) (z := μ 33 h) C rfl dX4_pass_126 (by omega) (Int.toNat_natCast _) ((tm_uk (by omega)).trans ((tm_uk (by omega)).trans ((tm_uk (by omega)).trans ((tm_uk (by omega)).trans (rfl))))) ?_
        refine tv_if_le (pc := 127) 134 C dX4_pass_127 (by decide) (by omega) (fun h127 => ?_) (fun h127 => ?_)
        · skip
          refine tv_iconst (pc := 134) C dX4_pass_134 ?_
          refine tv_istore (pc := 135) [(4, tm_i 0), (3, tm_i (μ 31 h)), (0, .ref (E.2.1 P)), (1, .ref (E.2.1 29)), (2, tm_i g)] C dX4_pass_135 (by decide) rfl ?_
          refine tv_aload_n (pc := 137) 2 C dX4_pass_137 rfl rfl ?_
          refine tv_dup (pc := 138) C dX4_pass_138 rfl ?_
          refine tv_geti (pc := 139) (z := (h : Int)) C hkP rfl fl_X4_9 dX4_pass_139 ((tm_uj (by decide)).trans ((tm_uj (by decide)).trans ((tm_uj (by decide)).trans ((tm_uj (by decide)).trans (hh))))) ?_
          refine tv_iconst (pc := 142) C dX4_pass_142 ?_
          refine tv_iadd (pc := 143) C dX4_pass_143 ?_
          refine tv_puti (pc := 144) C hkP rfl fp_X4_9 dX4_pass_144 ?_
          refine tv_iload (pc := 147) 0 C dX4_pass_147 rfl ?_
          refine tv_if_eq (pc := 149) 159 C dX4_pass_149 (by decide) (by omega) (fun _ => ?_) (fun q => absurd q (by decide))
          refine tv_iload_n (pc := 159) 4 C dX4_pass_159 rfl rfl ?_
          refine tv_iconst (pc := 160) C dX4_pass_160 ?_
          refine tv_icmp_eq (pc := 161) 191 C dX4_pass_161 (by decide) (by omega) (by omega) (fun h161 => ?_) (fun h161 => ?_)
          · skip
            refine tv_iconst (pc := 191) C dX4_pass_191 ?_
            refine tv_zret (pc := 192) C dX4_pass_192 (by omega) ?_
            have hg9 : sp_g (μ 33 h) g (sp_wet (μ 31 h) (μ P 1) (μ 30 1) (μ 32 h) (μ 30 2)) (μ 31 h) (μ 30 3) (μ P 2) (μ 30 4) = 0 := by unfold sp_g; first | (rw [if_pos (by omega)]; done) | (rw [if_neg (by omega), if_pos (by omega)]; done) | (rw [if_neg (by omega), if_neg (by omega), if_pos (by unfold sp_wet sp_fill; omega)]; done) | (rw [if_neg (by omega), if_neg (by omega), if_neg (by unfold sp_wet sp_fill; omega)]; done)
            refine ⟨_, rfl, hg9.symm, ?_⟩
            rw [hg9]
            refine tm_pd_of (tm_us) (((tm_uj (by decide)).trans (tm_us)).trans (by unfold sp_wet sp_fill; omega)) (((tm_uj (by decide)).trans ((tm_uj (by decide)).trans ((tm_uj (by decide)).trans ((tm_uj (by decide)).trans ((tm_uj (by decide)).trans (rfl)))))).trans (by first | (rw [if_pos (by omega)]; done) | (rw [if_neg (by omega)]; done) | (rw [if_neg (by omega)]; omega))) (((tm_uj (by decide)).trans ((tm_uj (by decide)).trans ((tm_uj (by decide)).trans (tm_us)))).trans (by unfold sp_spl sp_fill; omega)) (fun x hx => by simp only [tm_uf hx]) (fun j hj => by simp only [tm_uj (show j ≠ 0 by omega), tm_uj (show j ≠ 1 by omega), tm_uj (show j ≠ 2 by omega), tm_uj (show j ≠ 3 by omega)])
          · skip
            refine tv_aload_n (pc := 164) 2 C dX4_pass_164 rfl rfl ?_
            refine tv_geti (pc := 165) (z := max (20 - (μ 30 2)) 0) C hkP rfl fl_X4_21 dX4_pass_165 ((tm_uj (by decide)).trans (tm_us)) ?_
            refine tv_iload_n (pc := 168) 1 C dX4_pass_168 rfl rfl ?_
            refine tv_isub (pc := 169) C dX4_pass_169 ?_
            refine tv_aload_n (pc := 170) 3 C dX4_pass_170 rfl rfl ?_
            refine tv_getr (pc := 171) (q := 30) C rfl rfl fl_X4_15 dX4_pass_171 ?_
            refine tv_iconst (pc := 174) C dX4_pass_174 ?_
            refine tv_iald (pc := 175) (j := 3) (z := μ 30 3) C rfl dX4_pass_175 (by omega) rfl ((tm_uk (by omega)).trans ((tm_uk (by omega)).trans ((tm_uk (by omega)).trans ((tm_uk (by omega)).trans ((tm_uk (by omega)).trans (rfl)))))) ?_
            refine tv_getsN (pc := 176) 3 C (by decide) gs_X4_48 dX4_pass_176 ?_
            refine tv_iload_n (pc := 179) 4 C dX4_pass_179 rfl rfl ?_
            refine tv_sald (pc := 180) (z := 2 - g) 3 C (by decide) dX4_pass_180 (show 0 ≤ g ∧ g < ((3 : Nat) : Int) by omega) (by rcases (show g = 0 ∨ g = 1 ∨ g = 2 by omega) with rfl | rfl | rfl <;> rfl) ?_
            refine tv_iadd (pc := 181) C dX4_pass_181 ?_
            refine tv_aload_n (pc := 182) 2 C dX4_pass_182 rfl rfl ?_
            refine tv_aload_n (pc := 183) 3 C dX4_pass_183 rfl rfl ?_
            refine tv_callV (pc := 184) [.ref (E.2.1 29)] [tm_i ((μ 30 3) + (2 - g)), tm_i ((max (20 - (μ 30 2)) 0) - (μ 31 h))] C (c4_dull_a E _ (tm_up (tm_up (tm_up (tm_up (tm_up μ P 1 ((μ P 1) + ((min (max ((μ 31 h) - (μ P 1)) 0) (μ 30 1)) + (3 * (μ 32 h))))) P 3 ((μ P 3) + (((μ P 1) + ((min (max ((μ 31 h) - (μ P 1)) 0) (μ 30 1)) + (3 * (μ 32 h)))) - 20))) P 1 20) P 1 (max (20 - (μ 30 2)) 0)) P 0 ((h : Int) + 1)) P hP hkP (by rw [show (tm_up (tm_up (tm_up (tm_up (tm_up μ P 1 ((μ P 1) + ((min (max ((μ 31 h) - (μ P 1)) 0) (μ 30 1)) + (3 * (μ 32 h))))) P 3 ((μ P 3) + (((μ P 1) + ((min (max ((μ 31 h) - (μ P 1)) 0) (μ 30 1)) + (3 * (μ 32 h)))) - 20))) P 1 20) P 1 (max (20 - (μ 30 2)) 0)) P 0 ((h : Int) + 1)) P 2 = μ P 2 from (tm_uj (by decide)).trans ((tm_uj (by decide)).trans ((tm_uj (by decide)).trans ((tm_uj (by decide)).trans ((tm_uj (by decide)).trans (rfl)))))]; omega) (by rw [show (tm_up (tm_up (tm_up (tm_up (tm_up μ P 1 ((μ P 1) + ((min (max ((μ 31 h) - (μ P 1)) 0) (μ 30 1)) + (3 * (μ 32 h))))) P 3 ((μ P 3) + (((μ P 1) + ((min (max ((μ 31 h) - (μ P 1)) 0) (μ 30 1)) + (3 * (μ 32 h)))) - 20))) P 1 20) P 1 (max (20 - (μ 30 2)) 0)) P 0 ((h : Int) + 1)) 30 4 = μ 30 4 from (tm_uk (by omega)).trans ((tm_uk (by omega)).trans ((tm_uk (by omega)).trans ((tm_uk (by omega)).trans ((tm_uk (by omega)).trans (rfl)))))]; omega)) cv_X4_51 hkP rfl (by decide) rfl (Nat.le_of_ble_eq_true rfl) rfl dX4_pass_184 (tm_ki ?_)
            rintro z9 μ9 ⟨hz9, rfl⟩
            have hz9 : z9 = μ P 2 / μ 30 4 := by rw [hz9, show (tm_up (tm_up (tm_up (tm_up (tm_up μ P 1 ((μ P 1) + ((min (max ((μ 31 h) - (μ P 1)) 0) (μ 30 1)) + (3 * (μ 32 h))))) P 3 ((μ P 3) + (((μ P 1) + ((min (max ((μ 31 h) - (μ P 1)) 0) (μ 30 1)) + (3 * (μ 32 h)))) - 20))) P 1 20) P 1 (max (20 - (μ 30 2)) 0)) P 0 ((h : Int) + 1)) P 2 = μ P 2 from (tm_uj (by decide)).trans ((tm_uj (by decide)).trans ((tm_uj (by decide)).trans ((tm_uj (by decide)).trans ((tm_uj (by decide)).trans (rfl))))), show (tm_up (tm_up (tm_up (tm_up (tm_up μ P 1 ((μ P 1) + ((min (max ((μ 31 h) - (μ P 1)) 0) (μ 30 1)) + (3 * (μ 32 h))))) P 3 ((μ P 3) + (((μ P 1) + ((min (max ((μ 31 h) - (μ P 1)) 0) (μ 30 1)) + (3 * (μ 32 h)))) - 20))) P 1 20) P 1 (max (20 - (μ 30 2)) 0)) P 0 ((h : Int) + 1)) 30 4 = μ 30 4 from (tm_uk (by omega)).trans ((tm_uk (by omega)).trans ((tm_uk (by omega)).trans ((tm_uk (by omega)).trans ((tm_uk (by omega)).trans (rfl)))))]
            subst hz9
            refine tv_iadd (pc := 187) C dX4_pass_187 ?_
            refine tv_icmp_ge (pc := 188) 193 C dX4_pass_188 (by decide) (by omega) (by omega) (fun h188 => ?_) (fun h188 => ?_)
            · skip
              refine tv_aload_n (pc := 193) 2 C dX4_pass_193 rfl rfl ?_
              refine tv_aload_n (pc := 194) 2 C dX4_pass_194 rfl rfl ?_
              refine tv_geti (pc := 195) (z := max (20 - (μ 30 2)) 0) C hkP rfl fl_X4_21 dX4_pass_195 ((tm_uj (by decide)).trans (tm_us)) ?_
              refine tv_getsN (pc := 198) 4 C (by decide) gs_X4_55 dX4_pass_198 ?_
              refine tv_iload_n (pc := 201) 4 C dX4_pass_201 rfl rfl ?_
              refine tv_sald (pc := 202) (z := 3 - g) 4 C (by decide) dX4_pass_202 (show 0 ≤ g ∧ g < ((3 : Nat) : Int) by omega) (by rcases (show g = 0 ∨ g = 1 ∨ g = 2 by omega) with rfl | rfl | rfl <;> rfl) ?_
              refine tv_isub (pc := 203) C dX4_pass_203 ?_
              refine tv_iconst (pc := 204) C dX4_pass_204 ?_
              refine tv_mmax (pc := 205) C mx_X4_33 (by omega) (by omega) dX4_pass_205 (Nat.le_of_ble_eq_true rfl) ?_
              refine tv_puti (pc := 208) C hkP rfl fp_X4_21 dX4_pass_208 ?_
              refine tv_aload_n (pc := 211) 2 C dX4_pass_211 rfl rfl ?_
              refine tv_dup (pc := 212) C dX4_pass_212 rfl ?_
              refine tv_geti (pc := 213) (z := μ P 2) C hkP rfl fl_X4_24 dX4_pass_213 ((tm_uj (by decide)).trans ((tm_uj (by decide)).trans ((tm_uj (by decide)).trans ((tm_uj (by decide)).trans ((tm_uj (by decide)).trans ((tm_uj (by decide)).trans (rfl))))))) ?_
              refine tv_iconst (pc := 216) C dX4_pass_216 ?_
              refine tv_iadd (pc := 217) C dX4_pass_217 ?_
              refine tv_puti (pc := 218) C hkP rfl fp_X4_24 dX4_pass_218 ?_
              refine tv_iconst (pc := 221) C dX4_pass_221 ?_
              refine tv_zret (pc := 222) C dX4_pass_222 (by omega) ?_
              have hg9 : sp_g (μ 33 h) g (sp_wet (μ 31 h) (μ P 1) (μ 30 1) (μ 32 h) (μ 30 2)) (μ 31 h) (μ 30 3) (μ P 2) (μ 30 4) = 1 := by unfold sp_g; first | (rw [if_pos (by omega)]; done) | (rw [if_neg (by omega), if_pos (by omega)]; done) | (rw [if_neg (by omega), if_neg (by omega), if_pos (by unfold sp_wet sp_fill; omega)]; done) | (rw [if_neg (by omega), if_neg (by omega), if_neg (by unfold sp_wet sp_fill; omega)]; done)
              refine ⟨_, rfl, hg9.symm, ?_⟩
              rw [hg9]
              refine tm_pd_of ((tm_uj (by decide)).trans ((tm_uj (by decide)).trans (tm_us))) (((tm_uj (by decide)).trans (tm_us)).trans (by unfold sp_wet sp_fill; omega)) ((tm_us).trans (by first | (rw [if_pos (by omega)]; done) | (rw [if_neg (by omega)]; done) | (rw [if_neg (by omega)]; omega))) (((tm_uj (by decide)).trans ((tm_uj (by decide)).trans ((tm_uj (by decide)).trans ((tm_uj (by decide)).trans ((tm_uj (by decide)).trans (tm_us)))))).trans (by unfold sp_spl sp_fill; omega)) (fun x hx => by simp only [tm_uf hx]) (fun j hj => by simp only [tm_uj (show j ≠ 0 by omega), tm_uj (show j ≠ 1 by omega), tm_uj (show j ≠ 2 by omega), tm_uj (show j ≠ 3 by omega)])
            · skip
              refine tv_iconst (pc := 191) C dX4_pass_191 ?_
              refine tv_zret (pc := 192) C dX4_pass_192 (by omega) ?_
              have hg9 : sp_g (μ 33 h) g (sp_wet (μ 31 h) (μ P 1) (μ 30 1) (μ 32 h) (μ 30 2)) (μ 31 h) (μ 30 3) (μ P 2) (μ 30 4) = 0 := by unfold sp_g; first | (rw [if_pos (by omega)]; done) | (rw [if_neg (by omega), if_pos (by omega)]; done) | (rw [if_neg (by omega), if_neg (by omega), if_pos (by unfold sp_wet sp_fill; omega)]; done) | (rw [if_neg (by omega), if_neg (by omega), if_neg (by unfold sp_wet sp_fill; omega)]; done)
              refine ⟨_, rfl, hg9.symm, ?_⟩
              rw [hg9]
              refine tm_pd_of (tm_us) (((tm_uj (by decide)).trans (tm_us)).trans (by unfold sp_wet sp_fill; omega)) (((tm_uj (by decide)).trans ((tm_uj (by decide)).trans ((tm_uj (by decide)).trans ((tm_uj (by decide)).trans ((tm_uj (by decide)).trans (rfl)))))).trans (by first | (rw [if_pos (by omega)]; done) | (rw [if_neg (by omega)]; done) | (rw [if_neg (by omega)]; omega))) (((tm_uj (by decide)).trans ((tm_uj (by decide)).trans ((tm_uj (by decide)).trans (tm_us)))).trans (by unfold sp_spl sp_fill; omega)) (fun x hx => by simp only [tm_uf hx]) (fun j hj => by simp only [tm_uj (show j ≠ 0 by omega), tm_uj (show j ≠ 1 by omega), tm_uj (show j ≠ 2 by omega), tm_uj (show j ≠ 3 by omega)])
        · skip
          refine tv_iconst (pc := 130) C dX4_pass_130 ?_
          refine tv_goto (pc := 131) 135 C dX4_pass_131 (by decide) ?_
          refine tv_istore (pc := 135) [(4, tm_i 1), (3, tm_i (μ 31 h)), (0, .ref (E.2.1 P)), (1, .ref (E.2.1 29)), (2, tm_i g)] C dX4_pass_135 (by decide) rfl ?_
          refine tv_aload_n (pc := 137) 2 C dX4_pass_137 rfl rfl ?_
          refine tv_dup (pc := 138) C dX4_pass_138 rfl ?_
          refine tv_geti (pc := 139) (z := (h : Int)) C hkP rfl fl_X4_9 dX4_pass_139 ((tm_uj (by decide)).trans ((tm_uj (by decide)).trans ((tm_uj (by decide)).trans ((tm_uj (by decide)).trans (hh))))) ?_
          refine tv_iconst (pc := 142) C dX4_pass_142 ?_
          refine tv_iadd (pc := 143) C dX4_pass_143 ?_
          refine tv_puti (pc := 144) C hkP rfl fp_X4_9 dX4_pass_144 ?_
          refine tv_iload (pc := 147) 0 C dX4_pass_147 rfl ?_
          refine tv_if_eq (pc := 149) 159 C dX4_pass_149 (by decide) (by omega) (fun q => absurd q (by decide)) (fun _ => ?_)
          refine tv_aload_n (pc := 152) 2 C dX4_pass_152 rfl rfl ?_
          refine tv_iconst (pc := 153) C dX4_pass_153 ?_
          refine tv_puti (pc := 154) C hkP rfl fp_X4_24 dX4_pass_154 ?_
          refine tv_iconst (pc := 157) C dX4_pass_157 ?_
          refine tv_zret (pc := 158) C dX4_pass_158 (by omega) ?_
          have hg9 : sp_g (μ 33 h) g (sp_wet (μ 31 h) (μ P 1) (μ 30 1) (μ 32 h) (μ 30 2)) (μ 31 h) (μ 30 3) (μ P 2) (μ 30 4) = 0 := by unfold sp_g; first | (rw [if_pos (by omega)]; done) | (rw [if_neg (by omega), if_pos (by omega)]; done) | (rw [if_neg (by omega), if_neg (by omega), if_pos (by unfold sp_wet sp_fill; omega)]; done) | (rw [if_neg (by omega), if_neg (by omega), if_neg (by unfold sp_wet sp_fill; omega)]; done)
          refine ⟨_, rfl, hg9.symm, ?_⟩
          rw [hg9]
          refine tm_pd_of ((tm_uj (by decide)).trans (tm_us)) (((tm_uj (by decide)).trans ((tm_uj (by decide)).trans (tm_us))).trans (by unfold sp_wet sp_fill; omega)) ((tm_us).trans (by first | (rw [if_pos (by omega)]; done) | (rw [if_neg (by omega)]; done) | (rw [if_neg (by omega)]; omega))) (((tm_uj (by decide)).trans ((tm_uj (by decide)).trans ((tm_uj (by decide)).trans ((tm_uj (by decide)).trans (tm_us))))).trans (by unfold sp_spl sp_fill; omega)) (fun x hx => by simp only [tm_uf hx]) (fun j hj => by simp only [tm_uj (show j ≠ 0 by omega), tm_uj (show j ≠ 1 by omega), tm_uj (show j ≠ 2 by omega), tm_uj (show j ≠ 3 by omega)])
    · skip
      exfalso; omega
theorem c4_begin_b (E : tm_Ev) (l : Launch) (μ : tm_M) (P : Nat) (hP : P = 50) (hkP : tm_tm[P]? = some (0, 4, [none, none, none, none])) : tm_Met E l yX4_begin cX4_begin 2 none 0 [.ref (E.2.1 P), .ref (E.2.1 43)] μ (tm_pv (fun μ' => μ' = tm_pd μ P 0 (μ 44 0) 0 0)) := by
  refine tm_intro [(0, .ref (E.2.1 P)), (1, .ref (E.2.1 43))] rfl (by decide +kernel) (Nat.le_of_ble_eq_true rfl) ?_
  intro X hX C
  subst hX
  refine tv_aload_n (pc := 0) 0 C dX4_begin_0 rfl rfl ?_
  refine tv_iconst (pc := 1) C dX4_begin_1 ?_
  refine tv_puti (pc := 2) C hkP rfl fp_X4_9 dX4_begin_2 ?_
  refine tv_aload_n (pc := 5) 0 C dX4_begin_5 rfl rfl ?_
  refine tv_aload_n (pc := 6) 1 C dX4_begin_6 rfl rfl ?_
  refine tv_getr (pc := 7) (q := 44) C rfl rfl fl_X4_15 dX4_begin_7 ?_
  refine tv_iconst (pc := 10) C dX4_begin_10 ?_
  refine tv_iald (pc := 11) (j := 0) (z := μ 44 0) C rfl dX4_begin_11 (by omega) rfl ((tm_uk (by omega)).trans (rfl)) ?_
  refine tv_puti (pc := 12) C hkP rfl fp_X4_21 dX4_begin_12 ?_
  refine tv_aload_n (pc := 15) 0 C dX4_begin_15 rfl rfl ?_
  refine tv_iconst (pc := 16) C dX4_begin_16 ?_
  refine tv_puti (pc := 17) C hkP rfl fp_X4_24 dX4_begin_17 ?_
  refine tv_aload_n (pc := 20) 0 C dX4_begin_20 rfl rfl ?_
  refine tv_iconst (pc := 21) C dX4_begin_21 ?_
  refine tv_puti (pc := 22) C hkP rfl fp_X4_27 dX4_begin_22 ?_
  refine tv_vret (pc := 25) C dX4_begin_25 ?_
  exact ⟨rfl, rfl⟩
theorem c4_dull_b (E : tm_Ev) (l : Launch) (μ : tm_M) (P : Nat) (hP : P = 50) (hkP : tm_tm[P]? = some (0, 4, [none, none, none, none])) (hw : 0 ≤ μ P 2 ∧ μ P 2 ≤ 1000) (hs : 1 ≤ μ 44 4 ∧ μ 44 4 ≤ 9) : tm_Met E l yX4_dullness cX4_dullness 3 (some .int) 0 [.ref (E.2.1 P), .ref (E.2.1 43)] μ (tm_pi (fun z μ' => z = μ P 2 / μ 44 4 ∧ μ' = μ)) := by
  refine tm_intro [(0, .ref (E.2.1 P)), (1, .ref (E.2.1 43))] rfl (by decide +kernel) (Nat.le_of_ble_eq_true rfl) ?_
  intro X hX C
  subst hX
  refine tv_aload_n (pc := 0) 1 C dX4_dullness_0 rfl rfl ?_
  refine tv_getr (pc := 1) (q := 44) C rfl rfl fl_X4_15 dX4_dullness_1 ?_
  refine tv_iconst (pc := 4) C dX4_dullness_4 ?_
  refine tv_iald (pc := 5) (j := 4) (z := μ 44 4) C rfl dX4_dullness_5 (by omega) rfl rfl ?_
  refine tv_istore_n (pc := 6) [(2, tm_i (μ 44 4)), (0, .ref (E.2.1 P)), (1, .ref (E.2.1 43))] C dX4_dullness_6 rfl (by decide) rfl ?_
  refine tv_iload_n (pc := 7) 0 C dX4_dullness_7 rfl rfl ?_
  refine tv_if_le (pc := 8) 20 C dX4_dullness_8 (by decide) (by omega) (fun h8 => ?_) (fun h8 => ?_)
  · skip
    exfalso; omega
  · skip
    refine tv_aload_n (pc := 11) 1 C dX4_dullness_11 rfl rfl ?_
    refine tv_geti (pc := 12) (z := μ P 2) C hkP rfl fl_X4_24 dX4_dullness_12 rfl ?_
    refine tv_iload_n (pc := 15) 0 C dX4_dullness_15 rfl rfl ?_
    refine tv_idiv (pc := 16) C dX4_dullness_16 (by omega) (by omega) ?_
    refine tv_goto (pc := 17) 21 C dX4_dullness_17 (by decide) ?_
    refine tv_iret (pc := 21) C dX4_dullness_21 ?_
    exact ⟨_, rfl, rfl, rfl⟩
set_option maxHeartbeats 4000000 in
theorem c4_pass_b (E : tm_Ev) (l : Launch) (μ : tm_M) (P : Nat) (hP : P = 50) (hkP : tm_tm[P]? = some (0, 4, [none, none, none, none])) (h : Nat) (g : Int) (hh : μ P 0 = (h : Int)) (hh2 : h < 40) (hg : g = -1 ∨ (0 ≤ g ∧ g ≤ 2)) (h1 : 0 ≤ μ P 1 ∧ μ P 1 ≤ 20) (h2 : 0 ≤ μ P 2 ∧ μ P 2 ≤ 1000) (h3 : 0 ≤ μ P 3 ∧ μ P 3 ≤ 100000) (hs : 0 ≤ μ 45 h ∧ μ 45 h ≤ 18) (hf : 1 ≤ μ 44 1 ∧ μ 44 1 ≤ 9) (hl : 0 ≤ μ 44 2 ∧ μ 44 2 ≤ 9) (hd : 0 ≤ μ 44 3 ∧ μ 44 3 ≤ 9) (hs4 : 1 ≤ μ 44 4 ∧ μ 44 4 ≤ 9) (hr : 0 ≤ μ 46 h ∧ μ 46 h ≤ 10) (hdr : 0 ≤ μ 47 h ∧ μ 47 h ≤ 10) : tm_Met E l yX4_pass cX4_pass 5 (some .boolean) 2 [.ref (E.2.1 P), .ref (E.2.1 43), tm_i g] μ (tm_pi (fun z μ' => z = sp_g (μ 47 h) g (sp_wet (μ 45 h) (μ P 1) (μ 44 1) (μ 46 h) (μ 44 2)) (μ 45 h) (μ 44 3) (μ P 2) (μ 44 4) ∧ μ' = tm_pd μ P ((h : Int) + 1) (sp_wet (μ 45 h) (μ P 1) (μ 44 1) (μ 46 h) (μ 44 2) - (sp_g (μ 47 h) g (sp_wet (μ 45 h) (μ P 1) (μ 44 1) (μ 46 h) (μ 44 2)) (μ 45 h) (μ 44 3) (μ P 2) (μ 44 4)) * min (sp_wet (μ 45 h) (μ P 1) (μ 44 1) (μ 46 h) (μ 44 2)) (3 - g)) (if 0 < μ 47 h then 0 else μ P 2 + (sp_g (μ 47 h) g (sp_wet (μ 45 h) (μ P 1) (μ 44 1) (μ 46 h) (μ 44 2)) (μ 45 h) (μ 44 3) (μ P 2) (μ 44 4))) (μ P 3 + sp_spl (μ 45 h) (μ P 1) (μ 44 1) (μ 46 h)))) := by
  refine tm_intro [(0, .ref (E.2.1 P)), (1, .ref (E.2.1 43)), (2, tm_i g)] rfl (by decide +kernel) (Nat.le_of_ble_eq_true rfl) ?_
  intro X hX C
  subst hX
  have hq4 : 0 ≤ μ P 2 / μ 44 4 ∧ μ P 2 / μ 44 4 ≤ 1000 := ⟨Int.ediv_nonneg h2.1 (by omega), Int.le_trans (Int.ediv_le_self _ h2.1) h2.2⟩
  refine tv_aload_n (pc := 0) 0 C dX4_pass_0 rfl rfl ?_
  refine tv_geti (pc := 1) (z := (h : Int)) C hkP rfl fl_X4_9 dX4_pass_1 hh ?_
  refine tv_if_lt (pc := 4) 16 C dX4_pass_4 (by decide) (by omega) (fun h4 => ?_) (fun h4 => ?_)
  · skip
    exfalso; omega
  · skip
    refine tv_aload_n (pc := 7) 0 C dX4_pass_7 rfl rfl ?_
    refine tv_geti (pc := 8) (z := (h : Int)) C hkP rfl fl_X4_9 dX4_pass_8 hh ?_
    refine tv_bipush (pc := 11) C dX4_pass_11 (by decide) ?_
    refine tv_icmp_lt (pc := 13) 18 C dX4_pass_13 (by decide) (by omega) (by omega) (fun h13 => ?_) (fun h13 => ?_)
    · skip
      refine tv_aload_n (pc := 18) 1 C dX4_pass_18 rfl rfl ?_
      refine tv_getr (pc := 19) (q := 45) C rfl rfl fl_X4_30 dX4_pass_19 ?_
      refine tv_aload_n (pc := 22) 0 C dX4_pass_22 rfl rfl ?_
      refine tv_geti (pc := 23) (z := (h : Int)) C hkP rfl fl_X4_9 dX4_pass_23 hh ?_
      refine tv_iald (pc := 26) (j := h) (z := μ 45 h) C rfl dX4_pass_26 (by omega) (Int.toNat_natCast _) rfl ?_
      refine tv_istore_n (pc := 27) [(3, tm_i (μ 45 h)), (0, .ref (E.2.1 P)), (1, .ref (E.2.1 43)), (2, tm_i g)] C dX4_pass_27 rfl (by decide) rfl ?_
      refine tv_aload_n (pc := 28) 1 C dX4_pass_28 rfl rfl ?_
      refine tv_dup (pc := 29) C dX4_pass_29 rfl ?_
      refine tv_geti (pc := 30) (z := μ P 1) C hkP rfl fl_X4_21 dX4_pass_30 rfl ?_
      refine tv_iload_n (pc := 33) 0 C dX4_pass_33 rfl rfl ?_
      refine tv_aload_n (pc := 34) 1 C dX4_pass_34 rfl rfl ?_
      refine tv_geti (pc := 35) (z := μ P 1) C hkP rfl fl_X4_21 dX4_pass_35 rfl ?_
      refine tv_isub (pc := 38) C dX4_pass_38 ?_
      refine tv_iconst (pc := 39) C dX4_pass_39 ?_
      refine tv_mmax (pc := 40) C mx_X4_33 (by omega) (by omega) dX4_pass_40 (Nat.le_of_ble_eq_true rfl) ?_
      refine tv_aload_n (pc := 43) 2 C dX4_pass_43 rfl rfl ?_
      refine tv_getr (pc := 44) (q := 44) C rfl rfl fl_X4_15 dX4_pass_44 ?_
      refine tv_iconst (pc := 47) C dX4_pass_47 ?_
      refine tv_iald (pc := 48) (j := 1) (z := μ 44 1) C rfl dX4_pass_48 (by omega) rfl rfl ?_
      refine tv_mmin (pc := 49) C mx_X4_39 (by omega) (by omega) dX4_pass_49 (Nat.le_of_ble_eq_true rfl) ?_
      refine tv_iconst (pc := 52) C dX4_pass_52 ?_
      refine tv_aload_n (pc := 53) 2 C dX4_pass_53 rfl rfl ?_
      refine tv_getr (pc := 54) (q := 46) C rfl rfl fl_X4_42 dX4_pass_54 ?_
      refine tv_aload_n (pc := 57) 1 C dX4_pass_57 rfl rfl ?_
      refine tv_geti (pc := 58) (z := (h : Int)) C hkP rfl fl_X4_9 dX4_pass_58 hh ?_
      refine tv_iald (pc := 61) (j := h) (z := μ 46 h) C rfl dX4_pass_61 (by omega) (Int.toNat_natCast _) rfl ?_
      refine tv_imul (pc := 62) C dX4_pass_62 ?_
      refine tv_iadd (pc := 63) C dX4_pass_63 ?_
      refine tv_iadd (pc := 64) C dX4_pass_64 ?_
      refine tv_puti (pc := 65) C hkP rfl fp_X4_21 dX4_pass_65 ?_
      refine tv_aload_n (pc := 68) 1 C dX4_pass_68 rfl rfl ?_
      refine tv_geti (pc := 69) (z := (μ P 1) + ((min (max ((μ 45 h) - (μ P 1)) 0) (μ 44 1)) + (3 * (μ 46 h)))) C hkP rfl fl_X4_21 dX4_pass_69 tm_us ?_
      refine tv_bipush (pc := 72) C dX4_pass_72 (by decide) ?_
      refine tv_icmp_le (pc := 74) 99 C dX4_pass_74 (by decide) (by omega) (by omega) (fun h74 => ?_) (fun h74 => ?_)
      · skip
        refine tv_aload_n (pc := 99) 1 C dX4_pass_99 rfl rfl ?_
        refine tv_aload_n (pc := 100) 1 C dX4_pass_100 rfl rfl ?_
        refine tv_geti (pc := 101) (z := (μ P 1) + ((min (max ((μ 45 h) - (μ P 1)) 0) (μ 44 1)) + (3 * (μ 46 h)))) C hkP rfl fl_X4_21 dX4_pass_101 tm_us ?_
        refine tv_aload_n (pc := 104) 2 C dX4_pass_104 rfl rfl ?_
        refine tv_getr (pc := 105) (q := 44) C rfl rfl fl_X4_15 dX4_pass_105 ?_
        refine tv_iconst (pc := 108) C dX4_pass_108 ?_
        refine tv_iald (pc := 109) (j := 2) (z := μ 44 2) C rfl dX4_pass_109 (by omega) rfl ((tm_uk (by omega)).trans (rfl)) ?_
        refine tv_isub (pc := 110) C dX4_pass_110 ?_
        refine tv_iconst (pc := 111) C dX4_pass_111 ?_
        refine tv_mmax (pc := 112) C mx_X4_33 (by omega) (by omega) dX4_pass_112 (Nat.le_of_ble_eq_true rfl) ?_
        refine tv_puti (pc := 115) C hkP rfl fp_X4_21 dX4_pass_115 ?_
        refine tv_aload_n (pc := 118) 2 C dX4_pass_118 rfl rfl ?_
        refine tv_getr (pc := 119) (q := 47) C rfl rfl fl_X4_45 dX4_pass_119 ?_
        refine tv_aload_n (pc := 122) 1 C dX4_pass_122 rfl rfl ?_
        refine tv_geti (pc := 123) (z := (h : Int)) C hkP rfl fl_X4_9 dX4_pass_123 ((tm_uj (by decide)).trans ((tm_uj (by decide)).trans (hh))) ?_
        refine tv_iald (pc := 126) (j := h) (z := μ 47 h) C rfl dX4_pass_126 (by omega) (Int.toNat_natCast _) ((tm_uk (by omega)).trans ((tm_uk (by omega)).trans (rfl))) ?_
        refine tv_if_le (pc := 127) 134 C dX4_pass_127 (by decide) (by omega) (fun h127 => ?_) (fun h127 => ?_)
        · skip
          refine tv_iconst (pc := 134) C dX4_pass_134 ?_
          refine tv_istore (pc := 135) [(4, tm_i 0), (3, tm_i (μ 45 h)), (0, .ref (E.2.1 P)), (1, .ref (E.2.1 43)), (2, tm_i g)] C dX4_pass_135 (by decide) rfl ?_
          refine tv_aload_n (pc := 137) 2 C dX4_pass_137 rfl rfl ?_
          refine tv_dup (pc := 138) C dX4_pass_138 rfl ?_
          refine tv_geti (pc := 139) (z := (h : Int)) C hkP rfl fl_X4_9 dX4_pass_139 ((tm_uj (by decide)).trans ((tm_uj (by decide)).trans (hh))) ?_
          refine tv_iconst (pc := 142) C dX4_pass_142 ?_
          refine tv_iadd (pc := 143) C dX4_pass_143 ?_
          refine tv_puti (pc := 144) C hkP rfl fp_X4_9 dX4_pass_144 ?_
          refine tv_iload (pc := 147) 0 C dX4_pass_147 rfl ?_
          refine tv_if_eq (pc := 149) 159 C dX4_pass_149 (by decide) (by omega) (fun _ => ?_) (fun q => absurd q (by decide))
          refine tv_iload_n (pc := 159) 4 C dX4_pass_159 rfl rfl ?_
          refine tv_iconst (pc := 160) C dX4_pass_160 ?_
          refine tv_icmp_eq (pc := 161) 191 C dX4_pass_161 (by decide) (by omega) (by omega) (fun h161 => ?_) (fun h161 => ?_)
          · skip
            refine tv_iconst (pc := 191) C dX4_pass_191 ?_
            refine tv_zret (pc := 192) C dX4_pass_192 (by omega) ?_
            have hg9 : sp_g (μ 47 h) g (sp_wet (μ 45 h) (μ P 1) (μ 44 1) (μ 46 h) (μ 44 2)) (μ 45 h) (μ 44 3) (μ P 2) (μ 44 4) = 0 := by unfold sp_g; first | (rw [if_pos (by omega)]; done) | (rw [if_neg (by omega), if_pos (by omega)]; done) | (rw [if_neg (by omega), if_neg (by omega), if_pos (by unfold sp_wet sp_fill; omega)]; done) | (rw [if_neg (by omega), if_neg (by omega), if_neg (by unfold sp_wet sp_fill; omega)]; done)
            refine ⟨_, rfl, hg9.symm, ?_⟩
            rw [hg9]
            refine tm_pd_of (tm_us) (((tm_uj (by decide)).trans (tm_us)).trans (by unfold sp_wet sp_fill; omega)) (((tm_uj (by decide)).trans ((tm_uj (by decide)).trans ((tm_uj (by decide)).trans (rfl)))).trans (by first | (rw [if_pos (by omega)]; done) | (rw [if_neg (by omega)]; done) | (rw [if_neg (by omega)]; omega))) (((tm_uj (by decide)).trans ((tm_uj (by decide)).trans ((tm_uj (by decide)).trans (rfl)))).trans (by unfold sp_spl sp_fill; omega)) (fun x hx => by simp only [tm_uf hx]) (fun j hj => by simp only [tm_uj (show j ≠ 0 by omega), tm_uj (show j ≠ 1 by omega), tm_uj (show j ≠ 2 by omega), tm_uj (show j ≠ 3 by omega)])
          · skip
            refine tv_aload_n (pc := 164) 2 C dX4_pass_164 rfl rfl ?_
            refine tv_geti (pc := 165) (z := max (((μ P 1) + ((min (max ((μ 45 h) - (μ P 1)) 0) (μ 44 1)) + (3 * (μ 46 h)))) - (μ 44 2)) 0) C hkP rfl fl_X4_21 dX4_pass_165 ((tm_uj (by decide)).trans (tm_us)) ?_
            refine tv_iload_n (pc := 168) 1 C dX4_pass_168 rfl rfl ?_
            refine tv_isub (pc := 169) C dX4_pass_169 ?_
            refine tv_aload_n (pc := 170) 3 C dX4_pass_170 rfl rfl ?_
            refine tv_getr (pc := 171) (q := 44) C rfl rfl fl_X4_15 dX4_pass_171 ?_
            refine tv_iconst (pc := 174) C dX4_pass_174 ?_
            refine tv_iald (pc := 175) (j := 3) (z := μ 44 3) C rfl dX4_pass_175 (by omega) rfl ((tm_uk (by omega)).trans ((tm_uk (by omega)).trans ((tm_uk (by omega)).trans (rfl)))) ?_
            refine tv_getsN (pc := 176) 3 C (by decide) gs_X4_48 dX4_pass_176 ?_
            refine tv_iload_n (pc := 179) 4 C dX4_pass_179 rfl rfl ?_
            refine tv_sald (pc := 180) (z := 2 - g) 3 C (by decide) dX4_pass_180 (show 0 ≤ g ∧ g < ((3 : Nat) : Int) by omega) (by rcases (show g = 0 ∨ g = 1 ∨ g = 2 by omega) with rfl | rfl | rfl <;> rfl) ?_
            refine tv_iadd (pc := 181) C dX4_pass_181 ?_
            refine tv_aload_n (pc := 182) 2 C dX4_pass_182 rfl rfl ?_
            refine tv_aload_n (pc := 183) 3 C dX4_pass_183 rfl rfl ?_
            refine tv_callV (pc := 184) [.ref (E.2.1 43)] [tm_i ((μ 44 3) + (2 - g)), tm_i ((max (((μ P 1) + ((min (max ((μ 45 h) - (μ P 1)) 0) (μ 44 1)) + (3 * (μ 46 h)))) - (μ 44 2)) 0) - (μ 45 h))] C (c4_dull_b E _ (tm_up (tm_up (tm_up μ P 1 ((μ P 1) + ((min (max ((μ 45 h) - (μ P 1)) 0) (μ 44 1)) + (3 * (μ 46 h))))) P 1 (max (((μ P 1) + ((min (max ((μ 45 h) - (μ P 1)) 0) (μ 44 1)) + (3 * (μ 46 h)))) - (μ 44 2)) 0)) P 0 ((h : Int) + 1)) P hP hkP (by rw [show (tm_up (tm_up (tm_up μ P 1 ((μ P 1) + ((min (max ((μ 45 h) - (μ P 1)) 0) (μ 44 1)) + (3 * (μ 46 h))))) P 1 (max (((μ P 1) + ((min (max ((μ 45 h) - (μ P 1)) 0) (μ 44 1)) + (3 * (μ 46 h)))) - (μ 44 2)) 0)) P 0 ((h : Int) + 1)) P 2 = μ P 2 from (tm_uj (by decide)).trans ((tm_uj (by decide)).trans ((tm_uj (by decide)).trans (rfl)))]; omega) (by rw [show (tm_up (tm_up (tm_up μ P 1 ((μ P 1) + ((min (max ((μ 45 h) - (μ P 1)) 0) (μ 44 1)) + (3 * (μ 46 h))))) P 1 (max (((μ P 1) + ((min (max ((μ 45 h) - (μ P 1)) 0) (μ 44 1)) + (3 * (μ 46 h)))) - (μ 44 2)) 0)) P 0 ((h : Int) + 1)) 44 4 = μ 44 4 from (tm_uk (by omega)).trans ((tm_uk (by omega)).trans ((tm_uk (by omega)).trans (rfl)))]; omega)) cv_X4_51 hkP rfl (by decide) rfl (Nat.le_of_ble_eq_true rfl) rfl dX4_pass_184 (tm_ki ?_)
            rintro z9 μ9 ⟨hz9, rfl⟩
            have hz9 : z9 = μ P 2 / μ 44 4 := by rw [hz9, show (tm_up (tm_up (tm_up μ P 1 ((μ P 1) + ((min (max ((μ 45 h) - (μ P 1)) 0) (μ 44 1)) + (3 * (μ 46 h))))) P 1 (max (((μ P 1) + ((min (max ((μ 45 h) - (μ P 1)) 0) (μ 44 1)) + (3 * (μ 46 h)))) - (μ 44 2)) 0)) P 0 ((h : Int) + 1)) P 2 = μ P 2 from (tm_uj (by decide)).trans ((tm_uj (by decide)).trans ((tm_uj (by decide)).trans (rfl))), show (tm_up (tm_up (tm_up μ P 1 ((μ P 1) + ((min (max ((μ 45 h) - (μ P 1)) 0) (μ 44 1)) + (3 * (μ 46 h))))) P 1 (max (((μ P 1) + ((min (max ((μ 45 h) - (μ P 1)) 0) (μ 44 1)) + (3 * (μ 46 h)))) - (μ 44 2)) 0)) P 0 ((h : Int) + 1)) 44 4 = μ 44 4 from (tm_uk (by omega)).trans ((tm_uk (by omega)).trans ((tm_uk (by omega)).trans (rfl)))]
            subst hz9
            refine tv_iadd (pc := 187) C dX4_pass_187 ?_
            refine tv_icmp_ge (pc := 188) 193 C dX4_pass_188 (by decide) (by omega) (by omega) (fun h188 => ?_) (fun h188 => ?_)
            · skip
              refine tv_aload_n (pc := 193) 2 C dX4_pass_193 rfl rfl ?_
              refine tv_aload_n (pc := 194) 2 C dX4_pass_194 rfl rfl ?_
              refine tv_geti (pc := 195) (z := max (((μ P 1) + ((min (max ((μ 45 h) - (μ P 1)) 0) (μ 44 1)) + (3 * (μ 46 h)))) - (μ 44 2)) 0) C hkP rfl fl_X4_21 dX4_pass_195 ((tm_uj (by decide)).trans (tm_us)) ?_
              refine tv_getsN (pc := 198) 4 C (by decide) gs_X4_55 dX4_pass_198 ?_
              refine tv_iload_n (pc := 201) 4 C dX4_pass_201 rfl rfl ?_
              refine tv_sald (pc := 202) (z := 3 - g) 4 C (by decide) dX4_pass_202 (show 0 ≤ g ∧ g < ((3 : Nat) : Int) by omega) (by rcases (show g = 0 ∨ g = 1 ∨ g = 2 by omega) with rfl | rfl | rfl <;> rfl) ?_
              refine tv_isub (pc := 203) C dX4_pass_203 ?_
              refine tv_iconst (pc := 204) C dX4_pass_204 ?_
              refine tv_mmax (pc := 205) C mx_X4_33 (by omega) (by omega) dX4_pass_205 (Nat.le_of_ble_eq_true rfl) ?_
              refine tv_puti (pc := 208) C hkP rfl fp_X4_21 dX4_pass_208 ?_
              refine tv_aload_n (pc := 211) 2 C dX4_pass_211 rfl rfl ?_
              refine tv_dup (pc := 212) C dX4_pass_212 rfl ?_
              refine tv_geti (pc := 213) (z := μ P 2) C hkP rfl fl_X4_24 dX4_pass_213 ((tm_uj (by decide)).trans ((tm_uj (by decide)).trans ((tm_uj (by decide)).trans ((tm_uj (by decide)).trans (rfl))))) ?_
              refine tv_iconst (pc := 216) C dX4_pass_216 ?_
              refine tv_iadd (pc := 217) C dX4_pass_217 ?_
              refine tv_puti (pc := 218) C hkP rfl fp_X4_24 dX4_pass_218 ?_
              refine tv_iconst (pc := 221) C dX4_pass_221 ?_
              refine tv_zret (pc := 222) C dX4_pass_222 (by omega) ?_
              have hg9 : sp_g (μ 47 h) g (sp_wet (μ 45 h) (μ P 1) (μ 44 1) (μ 46 h) (μ 44 2)) (μ 45 h) (μ 44 3) (μ P 2) (μ 44 4) = 1 := by unfold sp_g; first | (rw [if_pos (by omega)]; done) | (rw [if_neg (by omega), if_pos (by omega)]; done) | (rw [if_neg (by omega), if_neg (by omega), if_pos (by unfold sp_wet sp_fill; omega)]; done) | (rw [if_neg (by omega), if_neg (by omega), if_neg (by unfold sp_wet sp_fill; omega)]; done)
              refine ⟨_, rfl, hg9.symm, ?_⟩
              rw [hg9]
              refine tm_pd_of ((tm_uj (by decide)).trans ((tm_uj (by decide)).trans (tm_us))) (((tm_uj (by decide)).trans (tm_us)).trans (by unfold sp_wet sp_fill; omega)) ((tm_us).trans (by first | (rw [if_pos (by omega)]; done) | (rw [if_neg (by omega)]; done) | (rw [if_neg (by omega)]; omega))) (((tm_uj (by decide)).trans ((tm_uj (by decide)).trans ((tm_uj (by decide)).trans ((tm_uj (by decide)).trans ((tm_uj (by decide)).trans (rfl)))))).trans (by unfold sp_spl sp_fill; omega)) (fun x hx => by simp only [tm_uf hx]) (fun j hj => by simp only [tm_uj (show j ≠ 0 by omega), tm_uj (show j ≠ 1 by omega), tm_uj (show j ≠ 2 by omega), tm_uj (show j ≠ 3 by omega)])
            · skip
              refine tv_iconst (pc := 191) C dX4_pass_191 ?_
              refine tv_zret (pc := 192) C dX4_pass_192 (by omega) ?_
              have hg9 : sp_g (μ 47 h) g (sp_wet (μ 45 h) (μ P 1) (μ 44 1) (μ 46 h) (μ 44 2)) (μ 45 h) (μ 44 3) (μ P 2) (μ 44 4) = 0 := by unfold sp_g; first | (rw [if_pos (by omega)]; done) | (rw [if_neg (by omega), if_pos (by omega)]; done) | (rw [if_neg (by omega), if_neg (by omega), if_pos (by unfold sp_wet sp_fill; omega)]; done) | (rw [if_neg (by omega), if_neg (by omega), if_neg (by unfold sp_wet sp_fill; omega)]; done)
              refine ⟨_, rfl, hg9.symm, ?_⟩
              rw [hg9]
              refine tm_pd_of (tm_us) (((tm_uj (by decide)).trans (tm_us)).trans (by unfold sp_wet sp_fill; omega)) (((tm_uj (by decide)).trans ((tm_uj (by decide)).trans ((tm_uj (by decide)).trans (rfl)))).trans (by first | (rw [if_pos (by omega)]; done) | (rw [if_neg (by omega)]; done) | (rw [if_neg (by omega)]; omega))) (((tm_uj (by decide)).trans ((tm_uj (by decide)).trans ((tm_uj (by decide)).trans (rfl)))).trans (by unfold sp_spl sp_fill; omega)) (fun x hx => by simp only [tm_uf hx]) (fun j hj => by simp only [tm_uj (show j ≠ 0 by omega), tm_uj (show j ≠ 1 by omega), tm_uj (show j ≠ 2 by omega), tm_uj (show j ≠ 3 by omega)])
        · skip
          refine tv_iconst (pc := 130) C dX4_pass_130 ?_
          refine tv_goto (pc := 131) 135 C dX4_pass_131 (by decide) ?_
          refine tv_istore (pc := 135) [(4, tm_i 1), (3, tm_i (μ 45 h)), (0, .ref (E.2.1 P)), (1, .ref (E.2.1 43)), (2, tm_i g)] C dX4_pass_135 (by decide) rfl ?_
          refine tv_aload_n (pc := 137) 2 C dX4_pass_137 rfl rfl ?_
          refine tv_dup (pc := 138) C dX4_pass_138 rfl ?_
          refine tv_geti (pc := 139) (z := (h : Int)) C hkP rfl fl_X4_9 dX4_pass_139 ((tm_uj (by decide)).trans ((tm_uj (by decide)).trans (hh))) ?_
          refine tv_iconst (pc := 142) C dX4_pass_142 ?_
          refine tv_iadd (pc := 143) C dX4_pass_143 ?_
          refine tv_puti (pc := 144) C hkP rfl fp_X4_9 dX4_pass_144 ?_
          refine tv_iload (pc := 147) 0 C dX4_pass_147 rfl ?_
          refine tv_if_eq (pc := 149) 159 C dX4_pass_149 (by decide) (by omega) (fun q => absurd q (by decide)) (fun _ => ?_)
          refine tv_aload_n (pc := 152) 2 C dX4_pass_152 rfl rfl ?_
          refine tv_iconst (pc := 153) C dX4_pass_153 ?_
          refine tv_puti (pc := 154) C hkP rfl fp_X4_24 dX4_pass_154 ?_
          refine tv_iconst (pc := 157) C dX4_pass_157 ?_
          refine tv_zret (pc := 158) C dX4_pass_158 (by omega) ?_
          have hg9 : sp_g (μ 47 h) g (sp_wet (μ 45 h) (μ P 1) (μ 44 1) (μ 46 h) (μ 44 2)) (μ 45 h) (μ 44 3) (μ P 2) (μ 44 4) = 0 := by unfold sp_g; first | (rw [if_pos (by omega)]; done) | (rw [if_neg (by omega), if_pos (by omega)]; done) | (rw [if_neg (by omega), if_neg (by omega), if_pos (by unfold sp_wet sp_fill; omega)]; done) | (rw [if_neg (by omega), if_neg (by omega), if_neg (by unfold sp_wet sp_fill; omega)]; done)
          refine ⟨_, rfl, hg9.symm, ?_⟩
          rw [hg9]
          refine tm_pd_of ((tm_uj (by decide)).trans (tm_us)) (((tm_uj (by decide)).trans ((tm_uj (by decide)).trans (tm_us))).trans (by unfold sp_wet sp_fill; omega)) ((tm_us).trans (by first | (rw [if_pos (by omega)]; done) | (rw [if_neg (by omega)]; done) | (rw [if_neg (by omega)]; omega))) (((tm_uj (by decide)).trans ((tm_uj (by decide)).trans ((tm_uj (by decide)).trans ((tm_uj (by decide)).trans (rfl))))).trans (by unfold sp_spl sp_fill; omega)) (fun x hx => by simp only [tm_uf hx]) (fun j hj => by simp only [tm_uj (show j ≠ 0 by omega), tm_uj (show j ≠ 1 by omega), tm_uj (show j ≠ 2 by omega), tm_uj (show j ≠ 3 by omega)])
      · skip
        refine tv_aload_n (pc := 77) 1 C dX4_pass_77 rfl rfl ?_
        refine tv_dup (pc := 78) C dX4_pass_78 rfl ?_
        refine tv_geti (pc := 79) (z := μ P 3) C hkP rfl fl_X4_27 dX4_pass_79 ((tm_uj (by decide)).trans (rfl)) ?_
        refine tv_aload_n (pc := 82) 1 C dX4_pass_82 rfl rfl ?_
        refine tv_geti (pc := 83) (z := (μ P 1) + ((min (max ((μ 45 h) - (μ P 1)) 0) (μ 44 1)) + (3 * (μ 46 h)))) C hkP rfl fl_X4_21 dX4_pass_83 tm_us ?_
        refine tv_bipush (pc := 86) C dX4_pass_86 (by decide) ?_
        refine tv_isub (pc := 88) C dX4_pass_88 ?_
        refine tv_iadd (pc := 89) C dX4_pass_89 ?_
        refine tv_puti (pc := 90) C hkP rfl fp_X4_27 dX4_pass_90 ?_
        refine tv_aload_n (pc := 93) 1 C dX4_pass_93 rfl rfl ?_
        refine tv_bipush (pc := 94) C dX4_pass_94 (by decide) ?_
        refine tv_puti (pc := 96) C hkP rfl fp_X4_21 dX4_pass_96 ?_
        refine tv_aload_n (pc := 99) 1 C dX4_pass_99 rfl rfl ?_
        refine tv_aload_n (pc := 100) 1 C dX4_pass_100 rfl rfl ?_
        refine tv_geti (pc := 101) (z := 20) C hkP rfl fl_X4_21 dX4_pass_101 tm_us ?_
        refine tv_aload_n (pc := 104) 2 C dX4_pass_104 rfl rfl ?_
        refine tv_getr (pc := 105) (q := 44) C rfl rfl fl_X4_15 dX4_pass_105 ?_
        refine tv_iconst (pc := 108) C dX4_pass_108 ?_
        refine tv_iald (pc := 109) (j := 2) (z := μ 44 2) C rfl dX4_pass_109 (by omega) rfl ((tm_uk (by omega)).trans ((tm_uk (by omega)).trans ((tm_uk (by omega)).trans (rfl)))) ?_
        refine tv_isub (pc := 110) C dX4_pass_110 ?_
        refine tv_iconst (pc := 111) C dX4_pass_111 ?_
        refine tv_mmax (pc := 112) C mx_X4_33 (by omega) (by omega) dX4_pass_112 (Nat.le_of_ble_eq_true rfl) ?_
        refine tv_puti (pc := 115) C hkP rfl fp_X4_21 dX4_pass_115 ?_
        refine tv_aload_n (pc := 118) 2 C dX4_pass_118 rfl rfl ?_
        refine tv_getr (pc := 119) (q := 47) C rfl rfl fl_X4_45 dX4_pass_119 ?_
        refine tv_aload_n (pc := 122) 1 C dX4_pass_122 rfl rfl ?_
        refine tv_geti (pc := 123) (z := (h : Int)) C hkP rfl fl_X4_9 dX4_pass_123 ((tm_uj (by decide)).trans ((tm_uj (by decide)).trans ((tm_uj (by decide)).trans ((tm_uj (by decide)).trans (hh))))) ?_
        refine tv_iald (pc := 126) (j := h) (z := μ 47 h) C rfl dX4_pass_126 (by omega) (Int.toNat_natCast _) ((tm_uk (by omega)).trans ((tm_uk (by omega)).trans ((tm_uk (by omega)).trans ((tm_uk (by omega)).trans (rfl))))) ?_
        refine tv_if_le (pc := 127) 134 C dX4_pass_127 (by decide) (by omega) (fun h127 => ?_) (fun h127 => ?_)
        · skip
          refine tv_iconst (pc := 134) C dX4_pass_134 ?_
          refine tv_istore (pc := 135) [(4, tm_i 0), (3, tm_i (μ 45 h)), (0, .ref (E.2.1 P)), (1, .ref (E.2.1 43)), (2, tm_i g)] C dX4_pass_135 (by decide) rfl ?_
          refine tv_aload_n (pc := 137) 2 C dX4_pass_137 rfl rfl ?_
          refine tv_dup (pc := 138) C dX4_pass_138 rfl ?_
          refine tv_geti (pc := 139) (z := (h : Int)) C hkP rfl fl_X4_9 dX4_pass_139 ((tm_uj (by decide)).trans ((tm_uj (by decide)).trans ((tm_uj (by decide)).trans ((tm_uj (by decide)).trans (hh))))) ?_
          refine tv_iconst (pc := 142) C dX4_pass_142 ?_
          refine tv_iadd (pc := 143) C dX4_pass_143 ?_
          refine tv_puti (pc := 144) C hkP rfl fp_X4_9 dX4_pass_144 ?_
          refine tv_iload (pc := 147) 0 C dX4_pass_147 rfl ?_
          refine tv_if_eq (pc := 149) 159 C dX4_pass_149 (by decide) (by omega) (fun _ => ?_) (fun q => absurd q (by decide))
          refine tv_iload_n (pc := 159) 4 C dX4_pass_159 rfl rfl ?_
          refine tv_iconst (pc := 160) C dX4_pass_160 ?_
          refine tv_icmp_eq (pc := 161) 191 C dX4_pass_161 (by decide) (by omega) (by omega) (fun h161 => ?_) (fun h161 => ?_)
          · skip
            refine tv_iconst (pc := 191) C dX4_pass_191 ?_
            refine tv_zret (pc := 192) C dX4_pass_192 (by omega) ?_
            have hg9 : sp_g (μ 47 h) g (sp_wet (μ 45 h) (μ P 1) (μ 44 1) (μ 46 h) (μ 44 2)) (μ 45 h) (μ 44 3) (μ P 2) (μ 44 4) = 0 := by unfold sp_g; first | (rw [if_pos (by omega)]; done) | (rw [if_neg (by omega), if_pos (by omega)]; done) | (rw [if_neg (by omega), if_neg (by omega), if_pos (by unfold sp_wet sp_fill; omega)]; done) | (rw [if_neg (by omega), if_neg (by omega), if_neg (by unfold sp_wet sp_fill; omega)]; done)
            refine ⟨_, rfl, hg9.symm, ?_⟩
            rw [hg9]
            refine tm_pd_of (tm_us) (((tm_uj (by decide)).trans (tm_us)).trans (by unfold sp_wet sp_fill; omega)) (((tm_uj (by decide)).trans ((tm_uj (by decide)).trans ((tm_uj (by decide)).trans ((tm_uj (by decide)).trans ((tm_uj (by decide)).trans (rfl)))))).trans (by first | (rw [if_pos (by omega)]; done) | (rw [if_neg (by omega)]; done) | (rw [if_neg (by omega)]; omega))) (((tm_uj (by decide)).trans ((tm_uj (by decide)).trans ((tm_uj (by decide)).trans (tm_us)))).trans (by unfold sp_spl sp_fill; omega)) (fun x hx => by simp only [tm_uf hx]) (fun j hj => by simp only [tm_uj (show j ≠ 0 by omega), tm_uj (show j ≠ 1 by omega), tm_uj (show j ≠ 2 by omega), tm_uj (show j ≠ 3 by omega)])
          · skip
            refine tv_aload_n (pc := 164) 2 C dX4_pass_164 rfl rfl ?_
            refine tv_geti (pc := 165) (z := max (20 - (μ 44 2)) 0) C hkP rfl fl_X4_21 dX4_pass_165 ((tm_uj (by decide)).trans (tm_us)) ?_
            refine tv_iload_n (pc := 168) 1 C dX4_pass_168 rfl rfl ?_
            refine tv_isub (pc := 169) C dX4_pass_169 ?_
            refine tv_aload_n (pc := 170) 3 C dX4_pass_170 rfl rfl ?_
            refine tv_getr (pc := 171) (q := 44) C rfl rfl fl_X4_15 dX4_pass_171 ?_
            refine tv_iconst (pc := 174) C dX4_pass_174 ?_
            refine tv_iald (pc := 175) (j := 3) (z := μ 44 3) C rfl dX4_pass_175 (by omega) rfl ((tm_uk (by omega)).trans ((tm_uk (by omega)).trans ((tm_uk (by omega)).trans ((tm_uk (by omega)).trans ((tm_uk (by omega)).trans (rfl)))))) ?_
            refine tv_getsN (pc := 176) 3 C (by decide) gs_X4_48 dX4_pass_176 ?_
            refine tv_iload_n (pc := 179) 4 C dX4_pass_179 rfl rfl ?_
            refine tv_sald (pc := 180) (z := 2 - g) 3 C (by decide) dX4_pass_180 (show 0 ≤ g ∧ g < ((3 : Nat) : Int) by omega) (by rcases (show g = 0 ∨ g = 1 ∨ g = 2 by omega) with rfl | rfl | rfl <;> rfl) ?_
            refine tv_iadd (pc := 181) C dX4_pass_181 ?_
            refine tv_aload_n (pc := 182) 2 C dX4_pass_182 rfl rfl ?_
            refine tv_aload_n (pc := 183) 3 C dX4_pass_183 rfl rfl ?_
            refine tv_callV (pc := 184) [.ref (E.2.1 43)] [tm_i ((μ 44 3) + (2 - g)), tm_i ((max (20 - (μ 44 2)) 0) - (μ 45 h))] C (c4_dull_b E _ (tm_up (tm_up (tm_up (tm_up (tm_up μ P 1 ((μ P 1) + ((min (max ((μ 45 h) - (μ P 1)) 0) (μ 44 1)) + (3 * (μ 46 h))))) P 3 ((μ P 3) + (((μ P 1) + ((min (max ((μ 45 h) - (μ P 1)) 0) (μ 44 1)) + (3 * (μ 46 h)))) - 20))) P 1 20) P 1 (max (20 - (μ 44 2)) 0)) P 0 ((h : Int) + 1)) P hP hkP (by rw [show (tm_up (tm_up (tm_up (tm_up (tm_up μ P 1 ((μ P 1) + ((min (max ((μ 45 h) - (μ P 1)) 0) (μ 44 1)) + (3 * (μ 46 h))))) P 3 ((μ P 3) + (((μ P 1) + ((min (max ((μ 45 h) - (μ P 1)) 0) (μ 44 1)) + (3 * (μ 46 h)))) - 20))) P 1 20) P 1 (max (20 - (μ 44 2)) 0)) P 0 ((h : Int) + 1)) P 2 = μ P 2 from (tm_uj (by decide)).trans ((tm_uj (by decide)).trans ((tm_uj (by decide)).trans ((tm_uj (by decide)).trans ((tm_uj (by decide)).trans (rfl)))))]; omega) (by rw [show (tm_up (tm_up (tm_up (tm_up (tm_up μ P 1 ((μ P 1) + ((min (max ((μ 45 h) - (μ P 1)) 0) (μ 44 1)) + (3 * (μ 46 h))))) P 3 ((μ P 3) + (((μ P 1) + ((min (max ((μ 45 h) - (μ P 1)) 0) (μ 44 1)) + (3 * (μ 46 h)))) - 20))) P 1 20) P 1 (max (20 - (μ 44 2)) 0)) P 0 ((h : Int) + 1)) 44 4 = μ 44 4 from (tm_uk (by omega)).trans ((tm_uk (by omega)).trans ((tm_uk (by omega)).trans ((tm_uk (by omega)).trans ((tm_uk (by omega)).trans (rfl)))))]; omega)) cv_X4_51 hkP rfl (by decide) rfl (Nat.le_of_ble_eq_true rfl) rfl dX4_pass_184 (tm_ki ?_)
            rintro z9 μ9 ⟨hz9, rfl⟩
            have hz9 : z9 = μ P 2 / μ 44 4 := by rw [hz9, show (tm_up (tm_up (tm_up (tm_up (tm_up μ P 1 ((μ P 1) + ((min (max ((μ 45 h) - (μ P 1)) 0) (μ 44 1)) + (3 * (μ 46 h))))) P 3 ((μ P 3) + (((μ P 1) + ((min (max ((μ 45 h) - (μ P 1)) 0) (μ 44 1)) + (3 * (μ 46 h)))) - 20))) P 1 20) P 1 (max (20 - (μ 44 2)) 0)) P 0 ((h : Int) + 1)) P 2 = μ P 2 from (tm_uj (by decide)).trans ((tm_uj (by decide)).trans ((tm_uj (by decide)).trans ((tm_uj (by decide)).trans ((tm_uj (by decide)).trans (rfl))))), show (tm_up (tm_up (tm_up (tm_up (tm_up μ P 1 ((μ P 1) + ((min (max ((μ 45 h) - (μ P 1)) 0) (μ 44 1)) + (3 * (μ 46 h))))) P 3 ((μ P 3) + (((μ P 1) + ((min (max ((μ 45 h) - (μ P 1)) 0) (μ 44 1)) + (3 * (μ 46 h)))) - 20))) P 1 20) P 1 (max (20 - (μ 44 2)) 0)) P 0 ((h : Int) + 1)) 44 4 = μ 44 4 from (tm_uk (by omega)).trans ((tm_uk (by omega)).trans ((tm_uk (by omega)).trans ((tm_uk (by omega)).trans ((tm_uk (by omega)).trans (rfl)))))]
            subst hz9
            refine tv_iadd (pc := 187) C dX4_pass_187 ?_
            refine tv_icmp_ge (pc := 188) 193 C dX4_pass_188 (by decide) (by omega) (by omega) (fun h188 => ?_) (fun h188 => ?_)
            · skip
              refine tv_aload_n (pc := 193) 2 C dX4_pass_193 rfl rfl ?_
              refine tv_aload_n (pc := 194) 2 C dX4_pass_194 rfl rfl ?_
              refine tv_geti (pc := 195) (z := max (20 - (μ 44 2)) 0) C hkP rfl fl_X4_21 dX4_pass_195 ((tm_uj (by decide)).trans (tm_us)) ?_
              refine tv_getsN (pc := 198) 4 C (by decide) gs_X4_55 dX4_pass_198 ?_
              refine tv_iload_n (pc := 201) 4 C dX4_pass_201 rfl rfl ?_
              refine tv_sald (pc := 202) (z := 3 - g) 4 C (by decide) dX4_pass_202 (show 0 ≤ g ∧ g < ((3 : Nat) : Int) by omega) (by rcases (show g = 0 ∨ g = 1 ∨ g = 2 by omega) with rfl | rfl | rfl <;> rfl) ?_
              refine tv_isub (pc := 203) C dX4_pass_203 ?_
              refine tv_iconst (pc := 204) C dX4_pass_204 ?_
              refine tv_mmax (pc := 205) C mx_X4_33 (by omega) (by omega) dX4_pass_205 (Nat.le_of_ble_eq_true rfl) ?_
              refine tv_puti (pc := 208) C hkP rfl fp_X4_21 dX4_pass_208 ?_
              refine tv_aload_n (pc := 211) 2 C dX4_pass_211 rfl rfl ?_
              refine tv_dup (pc := 212) C dX4_pass_212 rfl ?_
              refine tv_geti (pc := 213) (z := μ P 2) C hkP rfl fl_X4_24 dX4_pass_213 ((tm_uj (by decide)).trans ((tm_uj (by decide)).trans ((tm_uj (by decide)).trans ((tm_uj (by decide)).trans ((tm_uj (by decide)).trans ((tm_uj (by decide)).trans (rfl))))))) ?_
              refine tv_iconst (pc := 216) C dX4_pass_216 ?_
              refine tv_iadd (pc := 217) C dX4_pass_217 ?_
              refine tv_puti (pc := 218) C hkP rfl fp_X4_24 dX4_pass_218 ?_
              refine tv_iconst (pc := 221) C dX4_pass_221 ?_
              refine tv_zret (pc := 222) C dX4_pass_222 (by omega) ?_
              have hg9 : sp_g (μ 47 h) g (sp_wet (μ 45 h) (μ P 1) (μ 44 1) (μ 46 h) (μ 44 2)) (μ 45 h) (μ 44 3) (μ P 2) (μ 44 4) = 1 := by unfold sp_g; first | (rw [if_pos (by omega)]; done) | (rw [if_neg (by omega), if_pos (by omega)]; done) | (rw [if_neg (by omega), if_neg (by omega), if_pos (by unfold sp_wet sp_fill; omega)]; done) | (rw [if_neg (by omega), if_neg (by omega), if_neg (by unfold sp_wet sp_fill; omega)]; done)
              refine ⟨_, rfl, hg9.symm, ?_⟩
              rw [hg9]
              refine tm_pd_of ((tm_uj (by decide)).trans ((tm_uj (by decide)).trans (tm_us))) (((tm_uj (by decide)).trans (tm_us)).trans (by unfold sp_wet sp_fill; omega)) ((tm_us).trans (by first | (rw [if_pos (by omega)]; done) | (rw [if_neg (by omega)]; done) | (rw [if_neg (by omega)]; omega))) (((tm_uj (by decide)).trans ((tm_uj (by decide)).trans ((tm_uj (by decide)).trans ((tm_uj (by decide)).trans ((tm_uj (by decide)).trans (tm_us)))))).trans (by unfold sp_spl sp_fill; omega)) (fun x hx => by simp only [tm_uf hx]) (fun j hj => by simp only [tm_uj (show j ≠ 0 by omega), tm_uj (show j ≠ 1 by omega), tm_uj (show j ≠ 2 by omega), tm_uj (show j ≠ 3 by omega)])
            · skip
              refine tv_iconst (pc := 191) C dX4_pass_191 ?_
              refine tv_zret (pc := 192) C dX4_pass_192 (by omega) ?_
              have hg9 : sp_g (μ 47 h) g (sp_wet (μ 45 h) (μ P 1) (μ 44 1) (μ 46 h) (μ 44 2)) (μ 45 h) (μ 44 3) (μ P 2) (μ 44 4) = 0 := by unfold sp_g; first | (rw [if_pos (by omega)]; done) | (rw [if_neg (by omega), if_pos (by omega)]; done) | (rw [if_neg (by omega), if_neg (by omega), if_pos (by unfold sp_wet sp_fill; omega)]; done) | (rw [if_neg (by omega), if_neg (by omega), if_neg (by unfold sp_wet sp_fill; omega)]; done)
              refine ⟨_, rfl, hg9.symm, ?_⟩
              rw [hg9]
              refine tm_pd_of (tm_us) (((tm_uj (by decide)).trans (tm_us)).trans (by unfold sp_wet sp_fill; omega)) (((tm_uj (by decide)).trans ((tm_uj (by decide)).trans ((tm_uj (by decide)).trans ((tm_uj (by decide)).trans ((tm_uj (by decide)).trans (rfl)))))).trans (by first | (rw [if_pos (by omega)]; done) | (rw [if_neg (by omega)]; done) | (rw [if_neg (by omega)]; omega))) (((tm_uj (by decide)).trans ((tm_uj (by decide)).trans ((tm_uj (by decide)).trans (tm_us)))).trans (by unfold sp_spl sp_fill; omega)) (fun x hx => by simp only [tm_uf hx]) (fun j hj => by simp only [tm_uj (show j ≠ 0 by omega), tm_uj (show j ≠ 1 by omega), tm_uj (show j ≠ 2 by omega), tm_uj (show j ≠ 3 by omega)])
        · skip
          refine tv_iconst (pc := 130) C dX4_pass_130 ?_
          refine tv_goto (pc := 131) 135 C dX4_pass_131 (by decide) ?_
          refine tv_istore (pc := 135) [(4, tm_i 1), (3, tm_i (μ 45 h)), (0, .ref (E.2.1 P)), (1, .ref (E.2.1 43)), (2, tm_i g)] C dX4_pass_135 (by decide) rfl ?_
          refine tv_aload_n (pc := 137) 2 C dX4_pass_137 rfl rfl ?_
          refine tv_dup (pc := 138) C dX4_pass_138 rfl ?_
          refine tv_geti (pc := 139) (z := (h : Int)) C hkP rfl fl_X4_9 dX4_pass_139 ((tm_uj (by decide)).trans ((tm_uj (by decide)).trans ((tm_uj (by decide)).trans ((tm_uj (by decide)).trans (hh))))) ?_
          refine tv_iconst (pc := 142) C dX4_pass_142 ?_
          refine tv_iadd (pc := 143) C dX4_pass_143 ?_
          refine tv_puti (pc := 144) C hkP rfl fp_X4_9 dX4_pass_144 ?_
          refine tv_iload (pc := 147) 0 C dX4_pass_147 rfl ?_
          refine tv_if_eq (pc := 149) 159 C dX4_pass_149 (by decide) (by omega) (fun q => absurd q (by decide)) (fun _ => ?_)
          refine tv_aload_n (pc := 152) 2 C dX4_pass_152 rfl rfl ?_
          refine tv_iconst (pc := 153) C dX4_pass_153 ?_
          refine tv_puti (pc := 154) C hkP rfl fp_X4_24 dX4_pass_154 ?_
          refine tv_iconst (pc := 157) C dX4_pass_157 ?_
          refine tv_zret (pc := 158) C dX4_pass_158 (by omega) ?_
          have hg9 : sp_g (μ 47 h) g (sp_wet (μ 45 h) (μ P 1) (μ 44 1) (μ 46 h) (μ 44 2)) (μ 45 h) (μ 44 3) (μ P 2) (μ 44 4) = 0 := by unfold sp_g; first | (rw [if_pos (by omega)]; done) | (rw [if_neg (by omega), if_pos (by omega)]; done) | (rw [if_neg (by omega), if_neg (by omega), if_pos (by unfold sp_wet sp_fill; omega)]; done) | (rw [if_neg (by omega), if_neg (by omega), if_neg (by unfold sp_wet sp_fill; omega)]; done)
          refine ⟨_, rfl, hg9.symm, ?_⟩
          rw [hg9]
          refine tm_pd_of ((tm_uj (by decide)).trans (tm_us)) (((tm_uj (by decide)).trans ((tm_uj (by decide)).trans (tm_us))).trans (by unfold sp_wet sp_fill; omega)) ((tm_us).trans (by first | (rw [if_pos (by omega)]; done) | (rw [if_neg (by omega)]; done) | (rw [if_neg (by omega)]; omega))) (((tm_uj (by decide)).trans ((tm_uj (by decide)).trans ((tm_uj (by decide)).trans ((tm_uj (by decide)).trans (tm_us))))).trans (by unfold sp_spl sp_fill; omega)) (fun x hx => by simp only [tm_uf hx]) (fun j hj => by simp only [tm_uj (show j ≠ 0 by omega), tm_uj (show j ≠ 1 by omega), tm_uj (show j ≠ 2 by omega), tm_uj (show j ≠ 3 by omega)])
    · skip
      exfalso; omega
