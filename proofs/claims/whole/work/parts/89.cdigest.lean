theorem k7_at16 (E : tm_Ev) (l : Launch) (μ : tm_M) (d s : tm_M) (hd : dd_ok d) (hI : cl_I μ d s) (t w : Int) (ht : 0 ≤ t ∧ t ≤ 39) (hw : 0 ≤ w ∧ w ≤ 4) : tm_Met E l yX7_at cX7_at 3 (some .int) 5 [.ref (E.2.1 0), tm_i t, tm_i w] μ (tm_pi (fun z μ' => z = at_z d t w ∧ cl_I μ' d s ∧ μ' 0 16 = 1 ∧ ∀ a, 74 ≤ a → μ' a = μ a)) := by
  refine tm_intro [(0, .ref (E.2.1 0)), (1, tm_i t), (2, tm_i w)] rfl (by decide +kernel) (Nat.le_of_ble_eq_true rfl) ?_
  intro X hX C
  subst hX
  refine tv_iload_n (pc := 0) 1 C dX7_at_0 rfl rfl ?_
  refine tv_callS (pc := 1) [tm_i t] [] C (c7_isHour E _ μ t (by omega)) cs_X7_121 (by decide) rfl (Nat.le_of_ble_eq_true rfl) rfl dX7_at_1 (tm_kp ?_)
  refine tv_ifeqB (pc := 4) 16 C dX7_at_4 (by decide) (fun h4 => ?_) (fun h4 => ?_)
  · skip
    refine tv_bipush (pc := 16) C dX7_at_16 (by decide) ?_
    refine tv_iret (pc := 18) C dX7_at_18 ?_
    exfalso; omega
  · skip
    refine tv_iload_n (pc := 7) 2 C dX7_at_7 rfl rfl ?_
    refine tv_iconst (pc := 8) C dX7_at_8 ?_
    refine tv_iconst (pc := 9) C dX7_at_9 ?_
    refine tv_callS (pc := 10) [tm_i w, tm_i 0, tm_i 4] [] C (c7_within E _ μ w 0 4 (by omega) (by omega) (by omega)) cs_X7_97 (by decide) rfl (Nat.le_of_ble_eq_true rfl) rfl dX7_at_10 (tm_kp ?_)
    refine tv_ifneB (pc := 13) 19 C dX7_at_13 (by decide) (fun h13 => ?_) (fun h13 => ?_)
    · skip
      refine tv_aload_n (pc := 19) 0 C dX7_at_19 rfl rfl ?_
      refine tv_callV (pc := 20) [] [] C (c7_settle E _ μ d hd hI.1 hI.2.2.1 hI.2.2.2.1) cv_X7_125 rfl rfl (by decide) rfl (Nat.le_of_ble_eq_true rfl) rfl dX7_at_20 (tm_kv ?_)
      rintro n1 ⟨g1, g2, g3, g4, g5⟩
      have hI1 := cl_I_set hI g1 g2 g3 g4 g5
      have fr1 : ∀ a, 74 ≤ a → n1 a = μ a := fun a ha => g4 a (by omega)
      have hn := g2.2.1
      have hor := fun k hk => (g2.2.2.1 k hk)
      rcases (show w = 0 ∨ w = 1 ∨ w = 2 ∨ w = 3 ∨ w = 4 by omega) with rfl | rfl | rfl | rfl | rfl
      · skip
        refine tv_iload_n (pc := 23) 2 C dX7_at_23 rfl rfl ?_
        refine tv_tabI (pc := 24) (off := 32) 56 C dX7_at_24 (by omega) (by omega) (by decide) (by decide) ?_
        refine tv_aload_n (pc := 56) 0 C dX7_at_56 rfl rfl ?_
        refine tv_getr (pc := 57) (q := 35) C rfl rfl fl_X7_69 dX7_at_57 ?_
        refine tv_getr (pc := 60) (q := 37) C rfl rfl fl_X7_173 dX7_at_60 ?_
        refine tv_iload_n (pc := 63) 1 C dX7_at_63 rfl rfl ?_
        refine tv_iald (pc := 64) (j := t.toNat) (z := n1 37 t.toNat) C rfl dX7_at_64 (by omega) rfl rfl ?_
        refine tv_iret (pc := 65) C dX7_at_65 ?_
        exact ⟨_, rfl, by unfold at_z; rw [if_pos (by omega)]; exact (g2.2.2.2.1 t.toNat (by omega)).1, hI1, g3, fr1⟩
      · skip
        refine tv_iload_n (pc := 23) 2 C dX7_at_23 rfl rfl ?_
        refine tv_tabI (pc := 24) (off := 42) 66 C dX7_at_24 (by omega) (by omega) (by decide) (by decide) ?_
        refine tv_aload_n (pc := 66) 0 C dX7_at_66 rfl rfl ?_
        refine tv_getr (pc := 67) (q := 35) C rfl rfl fl_X7_69 dX7_at_67 ?_
        refine tv_getr (pc := 70) (q := 38) C rfl rfl fl_X7_176 dX7_at_70 ?_
        refine tv_iload_n (pc := 73) 1 C dX7_at_73 rfl rfl ?_
        refine tv_iald (pc := 74) (j := t.toNat) (z := n1 38 t.toNat) C rfl dX7_at_74 (by omega) rfl rfl ?_
        refine tv_iret (pc := 75) C dX7_at_75 ?_
        exact ⟨_, rfl, by unfold at_z; rw [if_pos (by omega)]; exact (g2.2.2.2.1 t.toNat (by omega)).2.1, hI1, g3, fr1⟩
      · skip
        refine tv_iload_n (pc := 23) 2 C dX7_at_23 rfl rfl ?_
        refine tv_tabI (pc := 24) (off := 52) 76 C dX7_at_24 (by omega) (by omega) (by decide) (by decide) ?_
        refine tv_aload_n (pc := 76) 0 C dX7_at_76 rfl rfl ?_
        refine tv_getr (pc := 77) (q := 35) C rfl rfl fl_X7_69 dX7_at_77 ?_
        refine tv_getr (pc := 80) (q := 39) C rfl rfl fl_X7_177 dX7_at_80 ?_
        refine tv_iload_n (pc := 83) 1 C dX7_at_83 rfl rfl ?_
        refine tv_iald (pc := 84) (j := t.toNat) (z := n1 39 t.toNat) C rfl dX7_at_84 (by omega) rfl rfl ?_
        refine tv_iret (pc := 85) C dX7_at_85 ?_
        exact ⟨_, rfl, by unfold at_z; rw [if_pos (by omega)]; exact (g2.2.2.2.1 t.toNat (by omega)).2.2.1, hI1, g3, fr1⟩
      · skip
        refine tv_iload_n (pc := 23) 2 C dX7_at_23 rfl rfl ?_
        refine tv_tabI (pc := 24) (off := 62) 86 C dX7_at_24 (by omega) (by omega) (by decide) (by decide) ?_
        refine tv_aload_n (pc := 86) 0 C dX7_at_86 rfl rfl ?_
        refine tv_getr (pc := 87) (q := 35) C rfl rfl fl_X7_69 dX7_at_87 ?_
        refine tv_getr (pc := 90) (q := 40) C rfl rfl fl_X7_180 dX7_at_90 ?_
        refine tv_iload_n (pc := 93) 1 C dX7_at_93 rfl rfl ?_
        refine tv_iald (pc := 94) (j := t.toNat) (z := n1 40 t.toNat) C rfl dX7_at_94 (by omega) rfl rfl ?_
        refine tv_iret (pc := 95) C dX7_at_95 ?_
        exact ⟨_, rfl, by unfold at_z; rw [if_pos (by omega)]; exact (g2.2.2.2.1 t.toNat (by omega)).2.2.2.1, hI1, g3, fr1⟩
      · skip
        refine tv_iload_n (pc := 23) 2 C dX7_at_23 rfl rfl ?_
        refine tv_tabO (pc := 24) 96 C dX7_at_24 (by omega) (by omega) (by decide) ?_
        refine tv_aload_n (pc := 96) 0 C dX7_at_96 rfl rfl ?_
        refine tv_getr (pc := 97) (q := 35) C rfl rfl fl_X7_69 dX7_at_97 ?_
        refine tv_getr (pc := 100) (q := 41) C rfl rfl fl_X7_183 dX7_at_100 ?_
        refine tv_iload_n (pc := 103) 1 C dX7_at_103 rfl rfl ?_
        refine tv_iald (pc := 104) (j := t.toNat) (z := n1 41 t.toNat) C rfl dX7_at_104 (by omega) rfl rfl ?_
        refine tv_iret (pc := 105) C dX7_at_105 ?_
        exact ⟨_, rfl, by unfold at_z; rw [if_pos (by omega)]; exact (g2.2.2.2.1 t.toNat (by omega)).2.2.2.2, hI1, g3, fr1⟩
    · skip
      refine tv_bipush (pc := 16) C dX7_at_16 (by decide) ?_
      refine tv_iret (pc := 18) C dX7_at_18 ?_
      exfalso; omega
theorem k7_shower16 (E : tm_Ev) (l : Launch) (μ : tm_M) (d s : tm_M) (hd : dd_ok d) (hI : cl_I μ d s) (c k w : Int) (hc : 0 ≤ c ∧ c ≤ 16) (hk : 0 ≤ k ∧ k < (dd_n d : Int)) (hw : 0 ≤ w ∧ w ≤ 1) : tm_Met E l yX7_shower cX7_shower 9 (some .long) 6 [.ref (E.2.1 0), tm_i c, tm_i k, tm_i w] μ (tm_pl (fun z μ' => z = sr_z d c k w ∧ cl_I μ' d s ∧ μ' 0 16 = 1 ∧ ∀ a, 74 ≤ a → μ' a = μ a)) := by
  refine tm_intro [(0, .ref (E.2.1 0)), (1, tm_i c), (2, tm_i k), (3, tm_i w)] rfl (by decide +kernel) (Nat.le_of_ble_eq_true rfl) ?_
  intro X hX C
  subst hX
  have h8 : dd_n d ≤ 8 := sp_no_bd _ (by have q := hd.2.1; omega)
  have hWW := pw_W hd
  have z3 := hd.2.2.2.2.1
  refine tv_iload_n (pc := 0) 1 C dX7_shower_0 rfl rfl ?_
  refine tv_iconst (pc := 1) C dX7_shower_1 ?_
  refine tv_bipush (pc := 2) C dX7_shower_2 (by decide) ?_
  refine tv_callS (pc := 4) [tm_i c, tm_i 0, tm_i 16] [] C (c7_within E _ μ c 0 16 (by omega) (by omega) (by omega)) cs_X7_97 (by decide) rfl (Nat.le_of_ble_eq_true rfl) rfl dX7_shower_4 (tm_kp ?_)
  refine tv_ifeqB (pc := 7) 27 C dX7_shower_7 (by decide) (fun h7 => ?_) (fun h7 => ?_)
  · skip
    refine tv_ldc2 (pc := 27) (z := (-9223372036854775806)) C kl_X7_256 dX7_shower_27 (by decide) ?_
    refine tv_lret (pc := 30) C dX7_shower_30 ?_
    exfalso; omega
  · skip
    refine tv_aload_n (pc := 10) 0 C dX7_shower_10 rfl rfl ?_
    refine tv_iload_n (pc := 11) 2 C dX7_shower_11 rfl rfl ?_
    refine tv_callV (pc := 12) [tm_i k] [] C (k7_isOrder E _ μ d s hd hI k (by omega)) cv_X7_131 rfl rfl (by decide) rfl (Nat.le_of_ble_eq_true rfl) rfl dX7_shower_12 (tm_ki ?_)
    rintro z1 n1 ⟨rfl, hI1, g2, g3, fr1⟩
    have h18 : -1 ≤ n1 0 18 ∧ n1 0 18 ≤ 16 := by
      rcases hI1.2.2.2.2.2.2 with q | ⟨q, -⟩
      · omega
      · omega
    refine tv_ifeqB (pc := 15) 27 C dX7_shower_15 (by decide) (fun h15 => ?_) (fun h15 => ?_)
    · skip
      refine tv_ldc2 (pc := 27) (z := (-9223372036854775806)) C kl_X7_256 dX7_shower_27 (by decide) ?_
      refine tv_lret (pc := 30) C dX7_shower_30 ?_
      exfalso; omega
    · skip
      refine tv_iload_n (pc := 18) 3 C dX7_shower_18 rfl rfl ?_
      refine tv_iconst (pc := 19) C dX7_shower_19 ?_
      refine tv_iconst (pc := 20) C dX7_shower_20 ?_
      refine tv_callS (pc := 21) [tm_i w, tm_i 0, tm_i 1] [] C (c7_within E _ n1 w 0 1 (by omega) (by omega) (by omega)) cs_X7_97 (by decide) rfl (Nat.le_of_ble_eq_true rfl) rfl dX7_shower_21 (tm_kp ?_)
      refine tv_ifneB (pc := 24) 31 C dX7_shower_24 (by decide) (fun h24 => ?_) (fun h24 => ?_)
      · skip
        refine tv_aload_n (pc := 31) 0 C dX7_shower_31 rfl rfl ?_
        refine tv_geti (pc := 32) (z := n1 0 18) C rfl rfl fl_X7_93 dX7_shower_32 rfl ?_
        refine tv_iload_n (pc := 35) 1 C dX7_shower_35 rfl rfl ?_
        refine tv_icmp_eq (pc := 36) 49 C dX7_shower_36 (by decide) (by omega) (by omega) (fun h36 => ?_) (fun h36 => ?_)
        · skip
          have hch : n1 72 k.toNat = sw_s d c k.toNat (2 ^ (d 3 0).toNat) := by
            rcases hI1.2.2.2.2.2.2 with q | ⟨q1, q2, q3⟩
            · exfalso; omega
            · have q := q3 k.toNat (by omega)
              rw [h36] at q
              exact q
          have h6 := hI1.1.2.2.2.2.1
          refine tv_aload_n (pc := 49) 0 C dX7_shower_49 rfl rfl ?_
          refine tv_getr (pc := 50) (q := 72) C rfl rfl fl_X7_86 dX7_shower_50 ?_
          refine tv_iload_n (pc := 53) 2 C dX7_shower_53 rfl rfl ?_
          refine tv_lald (pc := 54) (j := k.toNat) (z := sw_s d c k.toNat (2 ^ (d 3 0).toNat)) C rfl dX7_shower_54 (by omega) (by omega) hch ?_
          refine tv_lstore (pc := 55) [(4, tm_l (sw_s d c k.toNat (2 ^ (d 3 0).toNat))), (0, .ref (E.2.1 0)), (1, tm_i c), (2, tm_i k), (3, tm_i w)] C dX7_shower_55 (by decide) rfl ?_
          refine tv_bipush (pc := 57) C dX7_shower_57 (by decide) ?_
          refine tv_aload_n (pc := 59) 1 C dX7_shower_59 rfl rfl ?_
          refine tv_getr (pc := 60) (q := 6) C rfl rfl fl_X7_18 dX7_shower_60 ?_
          refine tv_geti (pc := 63) (z := d 3 0) C rfl rfl fl_X7_105 dX7_shower_63 h6 ?_
          refine tv_callS (pc := 66) [tm_i 16, tm_i (d 3 0)] [] C (c7_power E _ n1 16 (d 3 0) (d 3 0).toNat (by omega) (by omega) (by omega)) cs_X7_261 (by decide) rfl (Nat.le_of_ble_eq_true rfl) rfl dX7_shower_66 (tm_kl ?_)
          rintro zp np ⟨rfl, rfl⟩
          refine tv_lstore (pc := 69) [(6, tm_l ((16 : Int) ^ (d 3 0).toNat)), (4, tm_l (sw_s d c k.toNat (2 ^ (d 3 0).toNat))), (0, .ref (E.2.1 0)), (1, tm_i c), (2, tm_i k), (3, tm_i w)] C dX7_shower_69 (by decide) rfl ?_
          refine tv_iconst (pc := 71) C dX7_shower_71 ?_
          refine tv_istore (pc := 72) [(8, tm_i 0), (6, tm_l ((16 : Int) ^ (d 3 0).toNat)), (4, tm_l (sw_s d c k.toNat (2 ^ (d 3 0).toNat))), (0, .ref (E.2.1 0)), (1, tm_i c), (2, tm_i k), (3, tm_i w)] C dX7_shower_72 (by decide) rfl ?_
          refine tv_sub (lv1 := [(8, tm_i 0), (4, tm_l (sw_s d c k.toNat (2 ^ (d 3 0).toNat))), (6, tm_l ((16 : Int) ^ (d 3 0).toNat)), (0, .ref (E.2.1 0)), (3, tm_i w)]) [0, 2, 1, 3, 6] rfl ?_
          refine l_shower C _ d (hI1.1.2.2.2.2.1) hd.2.2.2.2.1 w (by omega) (hv_n (4 * (d 3 0).toNat) (sw_s d c k.toNat (2 ^ (d 3 0).toNat))) _ ⟨_, rfl, ?_, hI1, g3, fr1⟩ (4 * (d 3 0).toNat + 1) (4 * (d 3 0).toNat) 0 _ _ (by omega) (by omega) (sw_s_bd hd (by omega) _ hWW.2) ?_ rfl
          · rw [show (16 : Int) = 2 ^ 4 by decide, ← Int.pow_mul]
          · unfold sr_z; exact (if_pos (by omega)).symm
        · skip
          refine tv_aload_n (pc := 39) 0 C dX7_shower_39 rfl rfl ?_
          refine tv_iload_n (pc := 40) 1 C dX7_shower_40 rfl rfl ?_
          refine tv_callV (pc := 41) [tm_i c] [] C (c7_weigh E _ n1 d hd g2 hI1.1 c (by omega)) cv_X7_258 rfl rfl (by decide) rfl (Nat.le_of_ble_eq_true rfl) rfl dX7_shower_41 (tm_kv ?_)
          rintro n2 ⟨hF, hC⟩
          refine tv_aload_n (pc := 44) 0 C dX7_shower_44 rfl rfl ?_
          refine tv_iload_n (pc := 45) 1 C dX7_shower_45 rfl rfl ?_
          refine tv_puti (pc := 46) C rfl rfl fp_X7_93 dX7_shower_46 ?_
          have hch : tm_up n2 0 18 c 72 k.toNat = sw_s d c k.toNat (2 ^ (d 3 0).toNat) := by rw [tm_uk (by decide)]; exact hC k.toNat (by omega)
          have h6 : n2 6 1 = d 3 0 := by rw [hF 6 (by omega) (by omega)]; exact hI1.1.2.2.2.2.1
          refine tv_aload_n (pc := 49) 0 C dX7_shower_49 rfl rfl ?_
          refine tv_getr (pc := 50) (q := 72) C rfl rfl fl_X7_86 dX7_shower_50 ?_
          refine tv_iload_n (pc := 53) 2 C dX7_shower_53 rfl rfl ?_
          refine tv_lald (pc := 54) (j := k.toNat) (z := sw_s d c k.toNat (2 ^ (d 3 0).toNat)) C rfl dX7_shower_54 (by omega) (by omega) ((tm_uk (by decide)).trans (hC k.toNat (by omega))) ?_
          refine tv_lstore (pc := 55) [(4, tm_l (sw_s d c k.toNat (2 ^ (d 3 0).toNat))), (0, .ref (E.2.1 0)), (1, tm_i c), (2, tm_i k), (3, tm_i w)] C dX7_shower_55 (by decide) rfl ?_
          refine tv_bipush (pc := 57) C dX7_shower_57 (by decide) ?_
          refine tv_aload_n (pc := 59) 1 C dX7_shower_59 rfl rfl ?_
          refine tv_getr (pc := 60) (q := 6) C rfl rfl fl_X7_18 dX7_shower_60 ?_
          refine tv_geti (pc := 63) (z := d 3 0) C rfl rfl fl_X7_105 dX7_shower_63 ((tm_uk (by decide)).trans (h6)) ?_
          refine tv_callS (pc := 66) [tm_i 16, tm_i (d 3 0)] [] C (c7_power E _ (tm_up n2 0 18 c) 16 (d 3 0) (d 3 0).toNat (by omega) (by omega) (by omega)) cs_X7_261 (by decide) rfl (Nat.le_of_ble_eq_true rfl) rfl dX7_shower_66 (tm_kl ?_)
          rintro zp np ⟨rfl, rfl⟩
          refine tv_lstore (pc := 69) [(6, tm_l ((16 : Int) ^ (d 3 0).toNat)), (4, tm_l (sw_s d c k.toNat (2 ^ (d 3 0).toNat))), (0, .ref (E.2.1 0)), (1, tm_i c), (2, tm_i k), (3, tm_i w)] C dX7_shower_69 (by decide) rfl ?_
          refine tv_iconst (pc := 71) C dX7_shower_71 ?_
          refine tv_istore (pc := 72) [(8, tm_i 0), (6, tm_l ((16 : Int) ^ (d 3 0).toNat)), (4, tm_l (sw_s d c k.toNat (2 ^ (d 3 0).toNat))), (0, .ref (E.2.1 0)), (1, tm_i c), (2, tm_i k), (3, tm_i w)] C dX7_shower_72 (by decide) rfl ?_
          refine tv_sub (lv1 := [(8, tm_i 0), (4, tm_l (sw_s d c k.toNat (2 ^ (d 3 0).toNat))), (6, tm_l ((16 : Int) ^ (d 3 0).toNat)), (0, .ref (E.2.1 0)), (3, tm_i w)]) [0, 2, 1, 3, 6] rfl ?_
          refine l_shower C _ d (by rw [tm_uk (by decide), hF 6 (by omega) (by omega)]; exact hI1.1.2.2.2.2.1) hd.2.2.2.2.1 w (by omega) (hv_n (4 * (d 3 0).toNat) (sw_s d c k.toNat (2 ^ (d 3 0).toNat))) _ ⟨_, rfl, ?_, cl_I_w hI1 g3 (by omega) (fun a h1 h2 h3 => by rw [tm_uf h3]; exact hF a h1 h2) (fun b hb => by rw [tm_uj hb, hF 0 (by omega) (by omega)]) tm_us (fun k hk => by rw [tm_uk (by omega)]; exact hC k hk), by rw [tm_uj (by decide), hF 0 (by omega) (by omega)]; exact g3, fun a ha => by rw [tm_uf (by omega), hF a (by omega) (by omega)]; exact fr1 a ha⟩ (4 * (d 3 0).toNat + 1) (4 * (d 3 0).toNat) 0 _ _ (by omega) (by omega) (sw_s_bd hd (by omega) _ hWW.2) ?_ rfl
          · rw [show (16 : Int) = 2 ^ 4 by decide, ← Int.pow_mul]
          · unfold sr_z; exact (if_pos (by omega)).symm
      · skip
        refine tv_ldc2 (pc := 27) (z := (-9223372036854775806)) C kl_X7_256 dX7_shower_27 (by decide) ?_
        refine tv_lret (pc := 30) C dX7_shower_30 ?_
        exfalso; omega
theorem l_dg1 {E : tm_Ev} {X : tm_X} (C : tm_C E X yX7_digest.cls cX7_digest 5 (some .long) 16) (μ d s : tm_M) (hd : dd_ok d) (hs : ss_ok s) (Q : State → Prop) (hk9 : ∀ ν : tm_M, cl_I ν d s → (∀ a, 74 ≤ a → ν a = μ a) → tm_V E X Q 5 31 [(1, tm_l (dg_a d s)), (0, .ref (E.2.1 0))] [] ν) : ∀ (f k : Nat) (x g : Int) (ν : tm_M), x = k → k ≤ 8 → 8 - k < f → g = fo_n (fun k => wr (co_z d s (k : Int))) 17 k → cl_I ν d s → (∀ a, 74 ≤ a → ν a = μ a) → tm_V E X Q 5 6 [(3, tm_i x), (1, tm_l g), (0, .ref (E.2.1 0))] [] ν := by
  intro f
  induction f with
  | zero => intro k x g ν hx hj hf hg hI_ν fr_ν; omega
  | succ f ih =>
    intro k x g ν hx hj hf hg hI_ν fr_ν
    refine tv_iload_n (pc := 6) 0 C dX7_digest_6 rfl rfl ?_
    refine tv_bipush (pc := 7) C dX7_digest_7 (by decide) ?_
    refine tv_icmp_gt (pc := 9) 31 C dX7_digest_9 (by decide) (by omega) (by omega) (fun h9 => ?_) (fun h9 => ?_)
    · skip
      refine tv_sub (lv1 := [(1, tm_l g), (0, .ref (E.2.1 0))]) [1, 2] rfl ?_
      have hin : k = 8 := by omega
      subst hin
      rw [hg]
      exact hk9 ν hI_ν fr_ν
    · skip
      refine tv_ldc2 (pc := 12) (z := 31) C kl_X7_306 dX7_digest_12 (by decide) ?_
      refine tv_lload_n (pc := 15) 1 C dX7_digest_15 rfl rfl ?_
      refine tv_lmul (pc := 16) C dX7_digest_16 ?_
      refine tv_aload_n (pc := 17) 2 C dX7_digest_17 rfl rfl ?_
      refine tv_iload_n (pc := 18) 0 C dX7_digest_18 rfl rfl ?_
      refine tv_callV (pc := 19) [tm_i x] [tm_l (31 * g)] C (k7_count E _ ν d s hd hI_ν x (by omega)) cv_X7_308 rfl rfl (by decide) rfl (Nat.le_of_ble_eq_true rfl) rfl dX7_digest_19 (tm_ki ?_)
      rintro z9 n1 ⟨hz9, hI_n1, fq⟩
      subst hz9
      have fr_n1 : ∀ a, 74 ≤ a → n1 a = μ a := fun a ha => (fq a ha).trans (fr_ν a ha)
      clear fq
      refine tv_i2lw (pc := 22) C dX7_digest_22 ?_
      refine tv_ladd (pc := 23) C dX7_digest_23 ?_
      refine tv_lstore_n (pc := 24) [(1, tm_l ((31 * g) + (wr (co_z d s x)))), (3, tm_i x), (0, .ref (E.2.1 0))] C dX7_digest_24 rfl (by decide) rfl ?_
      refine tv_iinc (pc := 25) 1 [(3, tm_i (x + 1)), (1, tm_l ((31 * g) + (wr (co_z d s x)))), (0, .ref (E.2.1 0))] C dX7_digest_25 rfl (by decide) rfl ?_
      refine tv_goto (pc := 28) 6 C dX7_digest_28 (by decide) ?_
      refine tv_sub (lv1 := [(3, tm_i (x + 1)), (1, tm_l ((31 * g) + (wr (co_z d s x)))), (0, .ref (E.2.1 0))]) [0, 1, 2] rfl ?_
      refine ih (k + 1) (x + 1) _ n1 (by omega) (by omega) (by omega) ?_ hI_n1 fr_n1
      rw [fo_s, ← hg, ← hx]
theorem l_dg2b {E : tm_Ev} {X : tm_X} (C : tm_C E X yX7_digest.cls cX7_digest 5 (some .long) 16) (μ d s : tm_M) (hd : dd_ok d) (hs : ss_ok s) (h : Nat) (x g0 : Int) (hx : x = h) (hh : h < 40) (Q : State → Prop) (hk9 : ∀ ν : tm_M, cl_I ν d s → (∀ a, 74 ≤ a → ν a = μ a) → ν 0 16 = 1 → tm_V E X Q 5 108 [(3, tm_i x), (1, tm_l (fo_n (fun w => wr (at_z d (h : Int) (w : Int))) g0 5)), (0, .ref (E.2.1 0))] [] ν) : ∀ (f k : Nat) (y g : Int) (ν : tm_M), y = k → k ≤ 5 → 5 - k < f → g = fo_n (fun w => wr (at_z d (h : Int) (w : Int))) g0 k → cl_I ν d s → (∀ a, 74 ≤ a → ν a = μ a) → (k = 0 ∨ ν 0 16 = 1) → tm_V E X Q 5 81 [(4, tm_i y), (3, tm_i x), (1, tm_l g), (0, .ref (E.2.1 0))] [] ν := by
  intro f
  induction f with
  | zero => intro k y g ν hy hj hf hg hI_ν fr_ν h16; omega
  | succ f ih =>
    intro k y g ν hy hj hf hg hI_ν fr_ν h16
    refine tv_iload (pc := 81) 0 C dX7_digest_81 rfl ?_
    refine tv_iconst (pc := 83) C dX7_digest_83 ?_
    refine tv_icmp_gt (pc := 84) 108 C dX7_digest_84 (by decide) (by omega) (by omega) (fun h84 => ?_) (fun h84 => ?_)
    · skip
      refine tv_sub (lv1 := [(3, tm_i x), (1, tm_l g), (0, .ref (E.2.1 0))]) [1, 2, 3] rfl ?_
      have hin : k = 5 := by omega
      subst hin
      rw [hg]
      exact hk9 ν hI_ν fr_ν (by omega)
    · skip
      refine tv_ldc2 (pc := 87) (z := 31) C kl_X7_306 dX7_digest_87 (by decide) ?_
      refine tv_lload_n (pc := 90) 2 C dX7_digest_90 rfl rfl ?_
      refine tv_lmul (pc := 91) C dX7_digest_91 ?_
      refine tv_aload_n (pc := 92) 3 C dX7_digest_92 rfl rfl ?_
      refine tv_iload_n (pc := 93) 1 C dX7_digest_93 rfl rfl ?_
      refine tv_iload (pc := 94) 0 C dX7_digest_94 rfl ?_
      refine tv_callV (pc := 96) [tm_i x, tm_i y] [tm_l (31 * g)] C (k7_at16 E _ ν d s hd hI_ν x y (by omega) (by omega)) cv_X7_316 rfl rfl (by decide) rfl (Nat.le_of_ble_eq_true rfl) rfl dX7_digest_96 (tm_ki ?_)
      rintro z9 n2 ⟨hz9, hI_n2, s16_n2, fq⟩
      subst hz9
      have fr_n2 : ∀ a, 74 ≤ a → n2 a = μ a := fun a ha => (fq a ha).trans (fr_ν a ha)
      clear fq
      refine tv_i2lw (pc := 99) C dX7_digest_99 ?_
      refine tv_ladd (pc := 100) C dX7_digest_100 ?_
      refine tv_lstore_n (pc := 101) [(1, tm_l ((31 * g) + (wr (at_z d x y)))), (4, tm_i y), (3, tm_i x), (0, .ref (E.2.1 0))] C dX7_digest_101 rfl (by decide) rfl ?_
      refine tv_iinc (pc := 102) 1 [(4, tm_i (y + 1)), (1, tm_l ((31 * g) + (wr (at_z d x y)))), (3, tm_i x), (0, .ref (E.2.1 0))] C dX7_digest_102 rfl (by decide) rfl ?_
      refine tv_goto (pc := 105) 81 C dX7_digest_105 (by decide) ?_
      refine tv_sub (lv1 := [(4, tm_i (y + 1)), (3, tm_i x), (1, tm_l ((31 * g) + (wr (at_z d x y)))), (0, .ref (E.2.1 0))]) [0, 2, 1, 3] rfl ?_
      refine ih (k + 1) (y + 1) _ n2 (by omega) (by omega) (by omega) ?_ hI_n2 fr_n2 (Or.inr s16_n2)
      rw [fo_s, ← hg, ← hx, ← hy]
theorem l_dg2 {E : tm_Ev} {X : tm_X} (C : tm_C E X yX7_digest.cls cX7_digest 5 (some .long) 16) (μ d s : tm_M) (hd : dd_ok d) (hs : ss_ok s) (g0 : Int) (Q : State → Prop) (hk9 : ∀ ν : tm_M, cl_I ν d s → (∀ a, 74 ≤ a → ν a = μ a) → ν 0 16 = 1 → tm_V E X Q 5 114 [(1, tm_l (dg_h d g0 40)), (0, .ref (E.2.1 0))] [] ν) : ∀ (f h : Nat) (x g : Int) (ν : tm_M), x = h → h ≤ 40 → 40 - h < f → g = dg_h d g0 h → cl_I ν d s → (∀ a, 74 ≤ a → ν a = μ a) → (h = 0 ∨ ν 0 16 = 1) → tm_V E X Q 5 59 [(3, tm_i x), (1, tm_l g), (0, .ref (E.2.1 0))] [] ν := by
  intro f
  induction f with
  | zero => intro h x g ν hx hj hf hg hI_ν fr_ν h16; omega
  | succ f ih =>
    intro h x g ν hx hj hf hg hI_ν fr_ν h16
    refine tv_iload_n (pc := 59) 0 C dX7_digest_59 rfl rfl ?_
    refine tv_bipush (pc := 60) C dX7_digest_60 (by decide) ?_
    refine tv_icmp_ge (pc := 62) 114 C dX7_digest_62 (by decide) (by omega) (by omega) (fun h62 => ?_) (fun h62 => ?_)
    · skip
      refine tv_sub (lv1 := [(1, tm_l g), (0, .ref (E.2.1 0))]) [1, 2] rfl ?_
      have hin : h = 40 := by omega
      subst hin
      rw [hg]
      exact hk9 ν hI_ν fr_ν (by omega)
    · skip
      refine tv_ldc2 (pc := 65) (z := 31) C kl_X7_306 dX7_digest_65 (by decide) ?_
      refine tv_lload_n (pc := 68) 1 C dX7_digest_68 rfl rfl ?_
      refine tv_lmul (pc := 69) C dX7_digest_69 ?_
      refine tv_aload_n (pc := 70) 2 C dX7_digest_70 rfl rfl ?_
      refine tv_iload_n (pc := 71) 0 C dX7_digest_71 rfl rfl ?_
      refine tv_callV (pc := 72) [tm_i x] [tm_l (31 * g)] C (k7_sea E _ ν d s hd hI_ν x (by omega)) cv_X7_314 rfl rfl (by decide) rfl (Nat.le_of_ble_eq_true rfl) rfl dX7_digest_72 (tm_ki ?_)
      rintro z9 n3 ⟨hz9, hI_n3, fq⟩
      subst hz9
      have fr_n3 : ∀ a, 74 ≤ a → n3 a = μ a := fun a ha => (fq a ha).trans (fr_ν a ha)
      clear fq
      refine tv_i2lw (pc := 75) C dX7_digest_75 ?_
      refine tv_ladd (pc := 76) C dX7_digest_76 ?_
      refine tv_lstore_n (pc := 77) [(1, tm_l ((31 * g) + (wr (sa_z d x)))), (3, tm_i x), (0, .ref (E.2.1 0))] C dX7_digest_77 rfl (by decide) rfl ?_
      refine tv_iconst (pc := 78) C dX7_digest_78 ?_
      refine tv_istore (pc := 79) [(4, tm_i 0), (1, tm_l ((31 * g) + (wr (sa_z d x)))), (3, tm_i x), (0, .ref (E.2.1 0))] C dX7_digest_79 (by decide) rfl ?_
      refine tv_sub (lv1 := [(4, tm_i 0), (3, tm_i x), (1, tm_l ((31 * g) + (wr (sa_z d x)))), (0, .ref (E.2.1 0))]) [0, 2, 1, 3] rfl ?_
      refine l_dg2b C μ d s hd hs h x _ hx (by omega) _ ?_ 6 0 0 _ n3 rfl (by omega) (by omega) rfl hI_n3 fr_n3 (Or.inl rfl)
      intro κ hI_κ fr_κ s16
      refine tv_iinc (pc := 108) 0 [(3, tm_i (x + 1)), (1, tm_l (fo_n (fun w => wr (at_z d (h : Int) (w : Int))) ((31 * g) + (wr (sa_z d x))) 5)), (0, .ref (E.2.1 0))] C dX7_digest_108 rfl (by decide) rfl ?_
      refine tv_goto (pc := 111) 59 C dX7_digest_111 (by decide) ?_
      refine tv_sub (lv1 := [(3, tm_i (x + 1)), (1, tm_l (fo_n (fun w => wr (at_z d (h : Int) (w : Int))) ((31 * g) + (wr (sa_z d x))) 5)), (0, .ref (E.2.1 0))]) [0, 1, 2] rfl ?_
      refine ih (h + 1) (x + 1) _ κ (by omega) (by omega) (by omega) ?_ hI_κ fr_κ (Or.inr s16)
      show _ = fo_n _ (31 * dg_h d g0 h + wr (sa_z d (h : Int))) 5
      rw [← hg, ← hx]
theorem l_dg3b {E : tm_Ev} {X : tm_X} (C : tm_C E X yX7_digest.cls cX7_digest 5 (some .long) 16) (μ d s : tm_M) (hd : dd_ok d) (hs : ss_ok s) (h : Nat) (x g0 : Int) (hx : x = h) (hh : h < 8) (Q : State → Prop) (hk9 : ∀ ν : tm_M, cl_I ν d s → (∀ a, 74 ≤ a → ν a = μ a) → tm_V E X Q 5 157 [(3, tm_i x), (1, tm_l (fo_n (fun w => wr (or_z d (h : Int) (w : Int))) g0 4)), (0, .ref (E.2.1 0))] [] ν) : ∀ (f k : Nat) (y g : Int) (ν : tm_M), y = k → k ≤ 4 → 4 - k < f → g = fo_n (fun w => wr (or_z d (h : Int) (w : Int))) g0 k → cl_I ν d s → (∀ a, 74 ≤ a → ν a = μ a) → tm_V E X Q 5 130 [(4, tm_i y), (3, tm_i x), (1, tm_l g), (0, .ref (E.2.1 0))] [] ν := by
  intro f
  induction f with
  | zero => intro k y g ν hy hj hf hg hI_ν fr_ν; omega
  | succ f ih =>
    intro k y g ν hy hj hf hg hI_ν fr_ν
    refine tv_iload (pc := 130) 0 C dX7_digest_130 rfl ?_
    refine tv_iconst (pc := 132) C dX7_digest_132 ?_
    refine tv_icmp_gt (pc := 133) 157 C dX7_digest_133 (by decide) (by omega) (by omega) (fun h133 => ?_) (fun h133 => ?_)
    · skip
      refine tv_sub (lv1 := [(3, tm_i x), (1, tm_l g), (0, .ref (E.2.1 0))]) [1, 2, 3] rfl ?_
      have hin : k = 4 := by omega
      subst hin
      rw [hg]
      exact hk9 ν hI_ν fr_ν
    · skip
      refine tv_ldc2 (pc := 136) (z := 31) C kl_X7_306 dX7_digest_136 (by decide) ?_
      refine tv_lload_n (pc := 139) 2 C dX7_digest_139 rfl rfl ?_
      refine tv_lmul (pc := 140) C dX7_digest_140 ?_
      refine tv_aload_n (pc := 141) 3 C dX7_digest_141 rfl rfl ?_
      refine tv_iload_n (pc := 142) 1 C dX7_digest_142 rfl rfl ?_
      refine tv_iload (pc := 143) 0 C dX7_digest_143 rfl ?_
      refine tv_callV (pc := 145) [tm_i x, tm_i y] [tm_l (31 * g)] C (k7_order E _ ν d s hd hI_ν x y (by omega) (by omega)) cv_X7_319 rfl rfl (by decide) rfl (Nat.le_of_ble_eq_true rfl) rfl dX7_digest_145 (tm_ki ?_)
      rintro z9 n4 ⟨hz9, hI_n4, fq⟩
      subst hz9
      have fr_n4 : ∀ a, 74 ≤ a → n4 a = μ a := fun a ha => (fq a ha).trans (fr_ν a ha)
      clear fq
      refine tv_i2lw (pc := 148) C dX7_digest_148 ?_
      refine tv_ladd (pc := 149) C dX7_digest_149 ?_
      refine tv_lstore_n (pc := 150) [(1, tm_l ((31 * g) + (wr (or_z d x y)))), (4, tm_i y), (3, tm_i x), (0, .ref (E.2.1 0))] C dX7_digest_150 rfl (by decide) rfl ?_
      refine tv_iinc (pc := 151) 1 [(4, tm_i (y + 1)), (1, tm_l ((31 * g) + (wr (or_z d x y)))), (3, tm_i x), (0, .ref (E.2.1 0))] C dX7_digest_151 rfl (by decide) rfl ?_
      refine tv_goto (pc := 154) 130 C dX7_digest_154 (by decide) ?_
      refine tv_sub (lv1 := [(4, tm_i (y + 1)), (3, tm_i x), (1, tm_l ((31 * g) + (wr (or_z d x y)))), (0, .ref (E.2.1 0))]) [0, 2, 1, 3] rfl ?_
      refine ih (k + 1) (y + 1) _ n4 (by omega) (by omega) (by omega) ?_ hI_n4 fr_n4
      rw [fo_s, ← hg, ← hx, ← hy]
theorem l_dg3 {E : tm_Ev} {X : tm_X} (C : tm_C E X yX7_digest.cls cX7_digest 5 (some .long) 16) (μ d s : tm_M) (hd : dd_ok d) (hs : ss_ok s) (h8 : dd_n d ≤ 8) (g0 : Int) (Q : State → Prop) (hk9 : ∀ ν : tm_M, cl_I ν d s → (∀ a, 74 ≤ a → ν a = μ a) → tm_V E X Q 5 204 [(1, tm_l (dg_o d g0 (dd_n d))), (0, .ref (E.2.1 0))] [] ν) : ∀ (f h : Nat) (x g : Int) (ν : tm_M), x = h → h ≤ dd_n d → dd_n d - h < f → g = dg_o d g0 h → cl_I ν d s → (∀ a, 74 ≤ a → ν a = μ a) → ν 0 16 = 1 → tm_V E X Q 5 116 [(3, tm_i x), (1, tm_l g), (0, .ref (E.2.1 0))] [] ν := by
  intro f
  induction f with
  | zero => intro h x g ν hx hj hf hg hI_ν fr_ν h16; omega
  | succ f ih =>
    intro h x g ν hx hj hf hg hI_ν fr_ν h16
    refine tv_iload_n (pc := 116) 0 C dX7_digest_116 rfl rfl ?_
    refine tv_aload_n (pc := 117) 2 C dX7_digest_117 rfl rfl ?_
    refine tv_getr (pc := 118) (q := 23) C rfl rfl fl_X7_41 dX7_digest_118 ?_
    refine tv_geti (pc := 121) (z := (dd_n d : Int)) C rfl rfl fl_X7_205 dX7_digest_121 ((hI_ν.2.2.2.1 h16).2.1) ?_
    refine tv_icmp_ge (pc := 124) 204 C dX7_digest_124 (by decide) (by omega) (by omega) (fun h124 => ?_) (fun h124 => ?_)
    · skip
      refine tv_sub (lv1 := [(1, tm_l g), (0, .ref (E.2.1 0))]) [1, 2] rfl ?_
      have hin : h = dd_n d := by omega
      subst hin
      rw [hg]
      exact hk9 ν hI_ν fr_ν
    · skip
      refine tv_iconst (pc := 127) C dX7_digest_127 ?_
      refine tv_istore (pc := 128) [(4, tm_i 0), (3, tm_i x), (1, tm_l g), (0, .ref (E.2.1 0))] C dX7_digest_128 (by decide) rfl ?_
      refine tv_sub (lv1 := [(4, tm_i 0), (3, tm_i x), (1, tm_l g), (0, .ref (E.2.1 0))]) [0, 1, 2, 3] rfl ?_
      refine l_dg3b C μ d s hd hs h x _ hx (by omega) _ ?_ 5 0 0 _ ν rfl (by omega) (by omega) rfl hI_ν fr_ν
      intro κ hI_κ fr_κ
      refine tv_ldc2 (pc := 157) (z := 31) C kl_X7_306 dX7_digest_157 (by decide) ?_
      refine tv_lload_n (pc := 160) 1 C dX7_digest_160 rfl rfl ?_
      refine tv_lmul (pc := 161) C dX7_digest_161 ?_
      refine tv_aload_n (pc := 162) 2 C dX7_digest_162 rfl rfl ?_
      refine tv_iload_n (pc := 163) 0 C dX7_digest_163 rfl rfl ?_
      refine tv_callV (pc := 164) [tm_i x] [tm_l (31 * (fo_n (fun w => wr (or_z d (h : Int) (w : Int))) g 4))] C (k7_ends E _ κ d s hd hI_κ x (by omega)) cv_X7_321 rfl rfl (by decide) rfl (Nat.le_of_ble_eq_true rfl) rfl dX7_digest_164 (tm_ki ?_)
      rintro z9 n5 ⟨hz9, hI_n5, fq⟩
      subst hz9
      have fr_n5 : ∀ a, 74 ≤ a → n5 a = μ a := fun a ha => (fq a ha).trans (fr_κ a ha)
      clear fq
      refine tv_i2lw (pc := 167) C dX7_digest_167 ?_
      refine tv_ladd (pc := 168) C dX7_digest_168 ?_
      refine tv_lstore_n (pc := 169) [(1, tm_l ((31 * (fo_n (fun w => wr (or_z d (h : Int) (w : Int))) g 4)) + (wr (en_z d x)))), (3, tm_i x), (0, .ref (E.2.1 0))] C dX7_digest_169 rfl (by decide) rfl ?_
      refine tv_ldc2 (pc := 170) (z := 31) C kl_X7_306 dX7_digest_170 (by decide) ?_
      refine tv_lload_n (pc := 173) 0 C dX7_digest_173 rfl rfl ?_
      refine tv_lmul (pc := 174) C dX7_digest_174 ?_
      refine tv_aload_n (pc := 175) 2 C dX7_digest_175 rfl rfl ?_
      refine tv_iconst (pc := 176) C dX7_digest_176 ?_
      refine tv_iload_n (pc := 177) 1 C dX7_digest_177 rfl rfl ?_
      refine tv_iconst (pc := 178) C dX7_digest_178 ?_
      refine tv_callV (pc := 179) [tm_i 5, tm_i x, tm_i 0] [tm_l (31 * ((31 * (fo_n (fun w => wr (or_z d (h : Int) (w : Int))) g 4)) + (wr (en_z d x))))] C (k7_shower16 E _ n5 d s hd hI_n5 5 x 0 (by omega) (by omega) (by omega)) cv_X7_323 rfl rfl (by decide) rfl (Nat.le_of_ble_eq_true rfl) rfl dX7_digest_179 (tm_kl ?_)
      rintro z9 n6 ⟨hz9, hI_n6, s16_n6, fq⟩
      subst hz9
      have fr_n6 : ∀ a, 74 ≤ a → n6 a = μ a := fun a ha => (fq a ha).trans (fr_n5 a ha)
      clear fq
      refine tv_ladd (pc := 182) C dX7_digest_182 ?_
      refine tv_lstore_n (pc := 183) [(1, tm_l ((31 * ((31 * (fo_n (fun w => wr (or_z d (h : Int) (w : Int))) g 4)) + (wr (en_z d x)))) + (sr_z d 5 x 0))), (3, tm_i x), (0, .ref (E.2.1 0))] C dX7_digest_183 rfl (by decide) rfl ?_
      refine tv_ldc2 (pc := 184) (z := 31) C kl_X7_306 dX7_digest_184 (by decide) ?_
      refine tv_lload_n (pc := 187) 0 C dX7_digest_187 rfl rfl ?_
      refine tv_lmul (pc := 188) C dX7_digest_188 ?_
      refine tv_aload_n (pc := 189) 2 C dX7_digest_189 rfl rfl ?_
      refine tv_iconst (pc := 190) C dX7_digest_190 ?_
      refine tv_iload_n (pc := 191) 1 C dX7_digest_191 rfl rfl ?_
      refine tv_iconst (pc := 192) C dX7_digest_192 ?_
      refine tv_callV (pc := 193) [tm_i 5, tm_i x, tm_i 1] [tm_l (31 * ((31 * ((31 * (fo_n (fun w => wr (or_z d (h : Int) (w : Int))) g 4)) + (wr (en_z d x)))) + (sr_z d 5 x 0)))] C (k7_shower16 E _ n6 d s hd hI_n6 5 x 1 (by omega) (by omega) (by omega)) cv_X7_323 rfl rfl (by decide) rfl (Nat.le_of_ble_eq_true rfl) rfl dX7_digest_193 (tm_kl ?_)
      rintro z9 n7 ⟨hz9, hI_n7, s16_n7, fq⟩
      subst hz9
      have fr_n7 : ∀ a, 74 ≤ a → n7 a = μ a := fun a ha => (fq a ha).trans (fr_n6 a ha)
      clear fq
      refine tv_ladd (pc := 196) C dX7_digest_196 ?_
      refine tv_lstore_n (pc := 197) [(1, tm_l ((31 * ((31 * ((31 * (fo_n (fun w => wr (or_z d (h : Int) (w : Int))) g 4)) + (wr (en_z d x)))) + (sr_z d 5 x 0))) + (sr_z d 5 x 1))), (3, tm_i x), (0, .ref (E.2.1 0))] C dX7_digest_197 rfl (by decide) rfl ?_
      refine tv_iinc (pc := 198) 1 [(3, tm_i (x + 1)), (1, tm_l ((31 * ((31 * ((31 * (fo_n (fun w => wr (or_z d (h : Int) (w : Int))) g 4)) + (wr (en_z d x)))) + (sr_z d 5 x 0))) + (sr_z d 5 x 1))), (0, .ref (E.2.1 0))] C dX7_digest_198 rfl (by decide) rfl ?_
      refine tv_goto (pc := 201) 116 C dX7_digest_201 (by decide) ?_
      refine tv_sub (lv1 := [(3, tm_i (x + 1)), (1, tm_l ((31 * ((31 * ((31 * (fo_n (fun w => wr (or_z d (h : Int) (w : Int))) g 4)) + (wr (en_z d x)))) + (sr_z d 5 x 0))) + (sr_z d 5 x 1))), (0, .ref (E.2.1 0))]) [0, 1, 2] rfl ?_
      refine ih (h + 1) (x + 1) _ n7 (by omega) (by omega) (by omega) ?_ hI_n7 fr_n7 s16_n7
      show _ = 31 * (31 * (31 * fo_n (fun w => wr (or_z d (h : Int) (w : Int))) (dg_o d g0 h) 4 + wr (en_z d (h : Int))) + sr_z d 5 (h : Int) 0) + sr_z d 5 (h : Int) 1
      rw [← hg, ← hx]
theorem l_dg4 {E : tm_Ev} {X : tm_X} (C : tm_C E X yX7_digest.cls cX7_digest 5 (some .long) 16) (μ d s : tm_M) (hd : dd_ok d) (hs : ss_ok s) (g0 : Int) (Q : State → Prop) (hk9 : ∀ ν : tm_M, cl_I ν d s → (∀ a, 74 ≤ a → ν a = μ a) → tm_V E X Q 5 278 [(1, tm_l (fo_n (fun k => wr (ro_z d (k : Int))) g0 4)), (0, .ref (E.2.1 0))] [] ν) : ∀ (f k : Nat) (x g : Int) (ν : tm_M), x = k → k ≤ 4 → 4 - k < f → g = fo_n (fun k => wr (ro_z d (k : Int))) g0 k → cl_I ν d s → (∀ a, 74 ≤ a → ν a = μ a) → tm_V E X Q 5 254 [(3, tm_i x), (1, tm_l g), (0, .ref (E.2.1 0))] [] ν := by
  intro f
  induction f with
  | zero => intro k x g ν hx hj hf hg hI_ν fr_ν; omega
  | succ f ih =>
    intro k x g ν hx hj hf hg hI_ν fr_ν
    refine tv_iload_n (pc := 254) 0 C dX7_digest_254 rfl rfl ?_
    refine tv_iconst (pc := 255) C dX7_digest_255 ?_
    refine tv_icmp_gt (pc := 256) 278 C dX7_digest_256 (by decide) (by omega) (by omega) (fun h256 => ?_) (fun h256 => ?_)
    · skip
      refine tv_sub (lv1 := [(1, tm_l g), (0, .ref (E.2.1 0))]) [1, 2] rfl ?_
      have hin : k = 4 := by omega
      subst hin
      rw [hg]
      exact hk9 ν hI_ν fr_ν
    · skip
      refine tv_ldc2 (pc := 259) (z := 31) C kl_X7_306 dX7_digest_259 (by decide) ?_
      refine tv_lload_n (pc := 262) 1 C dX7_digest_262 rfl rfl ?_
      refine tv_lmul (pc := 263) C dX7_digest_263 ?_
      refine tv_aload_n (pc := 264) 2 C dX7_digest_264 rfl rfl ?_
      refine tv_iload_n (pc := 265) 0 C dX7_digest_265 rfl rfl ?_
      refine tv_callV (pc := 266) [tm_i x] [tm_l (31 * g)] C (k7_row E _ ν d s hd hI_ν x (by omega)) cv_X7_337 rfl rfl (by decide) rfl (Nat.le_of_ble_eq_true rfl) rfl dX7_digest_266 (tm_ki ?_)
      rintro z9 n8 ⟨hz9, hI_n8, fq⟩
      subst hz9
      have fr_n8 : ∀ a, 74 ≤ a → n8 a = μ a := fun a ha => (fq a ha).trans (fr_ν a ha)
      clear fq
      refine tv_i2lw (pc := 269) C dX7_digest_269 ?_
      refine tv_ladd (pc := 270) C dX7_digest_270 ?_
      refine tv_lstore_n (pc := 271) [(1, tm_l ((31 * g) + (wr (ro_z d x)))), (3, tm_i x), (0, .ref (E.2.1 0))] C dX7_digest_271 rfl (by decide) rfl ?_
      refine tv_iinc (pc := 272) 1 [(3, tm_i (x + 1)), (1, tm_l ((31 * g) + (wr (ro_z d x)))), (0, .ref (E.2.1 0))] C dX7_digest_272 rfl (by decide) rfl ?_
      refine tv_goto (pc := 275) 254 C dX7_digest_275 (by decide) ?_
      refine tv_sub (lv1 := [(3, tm_i (x + 1)), (1, tm_l ((31 * g) + (wr (ro_z d x)))), (0, .ref (E.2.1 0))]) [0, 1, 2] rfl ?_
      refine ih (k + 1) (x + 1) _ n8 (by omega) (by omega) (by omega) ?_ hI_n8 fr_n8
      rw [fo_s, ← hg, ← hx]
set_option maxRecDepth 100000 in
theorem k7_digest (E : tm_Ev) (l : Launch) (μ : tm_M) (d s : tm_M) (hd : dd_ok d) (hs : ss_ok s) (hI : cl_I μ d s) : tm_Met E l yX7_digest cX7_digest 5 (some .long) 16 [.ref (E.2.1 0)] μ (tm_pl (fun z μ' => z = dg_z d s ∧ cl_I μ' d s ∧ ∀ a, 74 ≤ a → μ' a = μ a)) := by
  refine tm_intro [(0, .ref (E.2.1 0))] rfl (by decide +kernel) (Nat.le_of_ble_eq_true rfl) ?_
  intro X hX C
  subst hX
  have h8 : dd_n d ≤ 8 := sp_no_bd _ (by have q := hd.2.1; omega)
  refine tv_ldc2 (pc := 0) (z := 17) C kl_X7_304 dX7_digest_0 (by decide) ?_
  refine tv_lstore_n (pc := 3) [(1, tm_l 17), (0, .ref (E.2.1 0))] C dX7_digest_3 rfl (by decide) rfl ?_
  refine tv_iconst (pc := 4) C dX7_digest_4 ?_
  refine tv_istore_n (pc := 5) [(3, tm_i 0), (1, tm_l 17), (0, .ref (E.2.1 0))] C dX7_digest_5 rfl (by decide) rfl ?_
  refine tv_sub (lv1 := [(3, tm_i 0), (1, tm_l 17), (0, .ref (E.2.1 0))]) [0, 1, 2] rfl ?_
  refine l_dg1 C μ d s hd hs _ ?_ 9 0 0 _ μ rfl (by omega) (by omega) rfl hI (fun a _ => rfl)
  intro ν1 hI_ν1 fr_ν1
  refine tv_ldc2 (pc := 31) (z := 31) C kl_X7_306 dX7_digest_31 (by decide) ?_
  refine tv_lload_n (pc := 34) 0 C dX7_digest_34 rfl rfl ?_
  refine tv_lmul (pc := 35) C dX7_digest_35 ?_
  refine tv_aload_n (pc := 36) 1 C dX7_digest_36 rfl rfl ?_
  refine tv_iconst (pc := 37) C dX7_digest_37 ?_
  refine tv_callV (pc := 38) [tm_i 0] [tm_l (31 * (dg_a d s))] C (k7_fault E _ ν1 d s hd hI_ν1 0 (by omega)) cv_X7_311 rfl rfl (by decide) rfl (Nat.le_of_ble_eq_true rfl) rfl dX7_digest_38 (tm_ki ?_)
  rintro z9 n9 ⟨hz9, hI_n9, fq⟩
  subst hz9
  have fr_n9 : ∀ a, 74 ≤ a → n9 a = μ a := fun a ha => (fq a ha).trans (fr_ν1 a ha)
  clear fq
  refine tv_i2lw (pc := 41) C dX7_digest_41 ?_
  refine tv_ladd (pc := 42) C dX7_digest_42 ?_
  obtain ⟨q10, hq10⟩ : ∃ q : Int, q = (31 * (dg_a d s)) + (wr (fa_z d 0)) := ⟨_, rfl⟩
  refine tv_topl q10 hq10.symm ?_
  refine tv_lstore_n (pc := 43) [(1, tm_l q10), (0, .ref (E.2.1 0))] C dX7_digest_43 rfl (by decide) rfl ?_
  refine tv_ldc2 (pc := 44) (z := 31) C kl_X7_306 dX7_digest_44 (by decide) ?_
  refine tv_lload_n (pc := 47) 0 C dX7_digest_47 rfl rfl ?_
  refine tv_lmul (pc := 48) C dX7_digest_48 ?_
  refine tv_aload_n (pc := 49) 1 C dX7_digest_49 rfl rfl ?_
  refine tv_iconst (pc := 50) C dX7_digest_50 ?_
  refine tv_callV (pc := 51) [tm_i 1] [tm_l (31 * q10)] C (k7_fault E _ n9 d s hd hI_n9 1 (by omega)) cv_X7_311 rfl rfl (by decide) rfl (Nat.le_of_ble_eq_true rfl) rfl dX7_digest_51 (tm_ki ?_)
  rintro z9 n11 ⟨hz9, hI_n11, fq⟩
  subst hz9
  have fr_n11 : ∀ a, 74 ≤ a → n11 a = μ a := fun a ha => (fq a ha).trans (fr_n9 a ha)
  clear fq
  refine tv_i2lw (pc := 54) C dX7_digest_54 ?_
  refine tv_ladd (pc := 55) C dX7_digest_55 ?_
  obtain ⟨q12, hq12⟩ : ∃ q : Int, q = (31 * q10) + (wr (fa_z d 1)) := ⟨_, rfl⟩
  refine tv_topl q12 hq12.symm ?_
  refine tv_lstore_n (pc := 56) [(1, tm_l q12), (0, .ref (E.2.1 0))] C dX7_digest_56 rfl (by decide) rfl ?_
  refine tv_iconst (pc := 57) C dX7_digest_57 ?_
  refine tv_istore_n (pc := 58) [(3, tm_i 0), (1, tm_l q12), (0, .ref (E.2.1 0))] C dX7_digest_58 rfl (by decide) rfl ?_
  refine tv_sub (lv1 := [(3, tm_i 0), (1, tm_l q12), (0, .ref (E.2.1 0))]) [0, 1, 2] rfl ?_
  refine l_dg2 C μ d s hd hs (dg_b d s) _ ?_ 41 0 0 _ n11 rfl (by omega) (by omega) (by rw [hq12, hq10]; rfl) hI_n11 fr_n11 (Or.inl rfl)
  intro ν2 hI_ν2 fr_ν2 s16
  refine tv_iconst (pc := 114) C dX7_digest_114 ?_
  refine tv_istore_n (pc := 115) [(3, tm_i 0), (1, tm_l (dg_h d (dg_b d s) 40)), (0, .ref (E.2.1 0))] C dX7_digest_115 rfl (by decide) rfl ?_
  refine tv_sub (lv1 := [(3, tm_i 0), (1, tm_l (dg_h d (dg_b d s) 40)), (0, .ref (E.2.1 0))]) [0, 1, 2] rfl ?_
  refine l_dg3 C μ d s hd hs h8 _ _ ?_ (dd_n d + 1) 0 0 _ ν2 rfl (by omega) (by omega) rfl hI_ν2 fr_ν2 s16
  intro ν3 hI_ν3 fr_ν3
  refine tv_sub (lv1 := [(1, tm_l (dg_c d s)), (0, .ref (E.2.1 0))]) [0, 1] rfl ?_
  refine tv_ldc2 (pc := 204) (z := 31) C kl_X7_306 dX7_digest_204 (by decide) ?_
  refine tv_lload_n (pc := 207) 0 C dX7_digest_207 rfl rfl ?_
  refine tv_lmul (pc := 208) C dX7_digest_208 ?_
  refine tv_aload_n (pc := 209) 1 C dX7_digest_209 rfl rfl ?_
  refine tv_callV (pc := 210) [] [tm_l (31 * (dg_c d s))] C (k7_paid E _ ν3 d s hd hI_ν3  ) cv_X7_327 rfl rfl (by decide) rfl (Nat.le_of_ble_eq_true rfl) rfl dX7_digest_210 (tm_ki ?_)
  rintro z9 n13 ⟨hz9, hI_n13, fq⟩
  subst hz9
  have fr_n13 : ∀ a, 74 ≤ a → n13 a = μ a := fun a ha => (fq a ha).trans (fr_ν3 a ha)
  clear fq
  refine tv_i2lw (pc := 213) C dX7_digest_213 ?_
  refine tv_ladd (pc := 214) C dX7_digest_214 ?_
  obtain ⟨q14, hq14⟩ : ∃ q : Int, q = (31 * (dg_c d s)) + (wr (pa_z d)) := ⟨_, rfl⟩
  refine tv_topl q14 hq14.symm ?_
  refine tv_lstore_n (pc := 215) [(1, tm_l q14), (0, .ref (E.2.1 0))] C dX7_digest_215 rfl (by decide) rfl ?_
  refine tv_ldc2 (pc := 216) (z := 31) C kl_X7_306 dX7_digest_216 (by decide) ?_
  refine tv_lload_n (pc := 219) 0 C dX7_digest_219 rfl rfl ?_
  refine tv_lmul (pc := 220) C dX7_digest_220 ?_
  refine tv_aload_n (pc := 221) 1 C dX7_digest_221 rfl rfl ?_
  refine tv_callV (pc := 222) [] [tm_l (31 * q14)] C (k7_spilt E _ n13 d s hd hI_n13  ) cv_X7_330 rfl rfl (by decide) rfl (Nat.le_of_ble_eq_true rfl) rfl dX7_digest_222 (tm_ki ?_)
  rintro z9 n15 ⟨hz9, hI_n15, fq⟩
  subst hz9
  have fr_n15 : ∀ a, 74 ≤ a → n15 a = μ a := fun a ha => (fq a ha).trans (fr_n13 a ha)
  clear fq
  refine tv_i2lw (pc := 225) C dX7_digest_225 ?_
  refine tv_ladd (pc := 226) C dX7_digest_226 ?_
  obtain ⟨q16, hq16⟩ : ∃ q : Int, q = (31 * q14) + (wr (sm_s (dd_p d) 40)) := ⟨_, rfl⟩
  refine tv_topl q16 hq16.symm ?_
  refine tv_lstore_n (pc := 227) [(1, tm_l q16), (0, .ref (E.2.1 0))] C dX7_digest_227 rfl (by decide) rfl ?_
  refine tv_ldc2 (pc := 228) (z := 31) C kl_X7_306 dX7_digest_228 (by decide) ?_
  refine tv_lload_n (pc := 231) 0 C dX7_digest_231 rfl rfl ?_
  refine tv_lmul (pc := 232) C dX7_digest_232 ?_
  refine tv_aload_n (pc := 233) 1 C dX7_digest_233 rfl rfl ?_
  refine tv_callV (pc := 234) [] [tm_l (31 * q16)] C (k7_idle E _ n15 d s hd hI_n15  ) cv_X7_332 rfl rfl (by decide) rfl (Nat.le_of_ble_eq_true rfl) rfl dX7_digest_234 (tm_ki ?_)
  rintro z9 n17 ⟨hz9, hI_n17, fq⟩
  subst hz9
  have fr_n17 : ∀ a, 74 ≤ a → n17 a = μ a := fun a ha => (fq a ha).trans (fr_n15 a ha)
  clear fq
  refine tv_i2lw (pc := 237) C dX7_digest_237 ?_
  refine tv_ladd (pc := 238) C dX7_digest_238 ?_
  obtain ⟨q18, hq18⟩ : ∃ q : Int, q = (31 * q16) + (wr (sm_i (dd_p d) 40)) := ⟨_, rfl⟩
  refine tv_topl q18 hq18.symm ?_
  refine tv_lstore_n (pc := 239) [(1, tm_l q18), (0, .ref (E.2.1 0))] C dX7_digest_239 rfl (by decide) rfl ?_
  refine tv_ldc2 (pc := 240) (z := 31) C kl_X7_306 dX7_digest_240 (by decide) ?_
  refine tv_lload_n (pc := 243) 0 C dX7_digest_243 rfl rfl ?_
  refine tv_lmul (pc := 244) C dX7_digest_244 ?_
  refine tv_aload_n (pc := 245) 1 C dX7_digest_245 rfl rfl ?_
  refine tv_callV (pc := 246) [] [tm_l (31 * q18)] C (k7_late E _ n17 d s hd hI_n17  ) cv_X7_334 rfl rfl (by decide) rfl (Nat.le_of_ble_eq_true rfl) rfl dX7_digest_246 (tm_ki ?_)
  rintro z9 n19 ⟨hz9, hI_n19, fq⟩
  subst hz9
  have fr_n19 : ∀ a, 74 ≤ a → n19 a = μ a := fun a ha => (fq a ha).trans (fr_n17 a ha)
  clear fq
  refine tv_i2lw (pc := 249) C dX7_digest_249 ?_
  refine tv_ladd (pc := 250) C dX7_digest_250 ?_
  obtain ⟨q20, hq20⟩ : ∃ q : Int, q = (31 * q18) + (wr (la_z d)) := ⟨_, rfl⟩
  refine tv_topl q20 hq20.symm ?_
  refine tv_lstore_n (pc := 251) [(1, tm_l q20), (0, .ref (E.2.1 0))] C dX7_digest_251 rfl (by decide) rfl ?_
  refine tv_iconst (pc := 252) C dX7_digest_252 ?_
  refine tv_istore_n (pc := 253) [(3, tm_i 0), (1, tm_l q20), (0, .ref (E.2.1 0))] C dX7_digest_253 rfl (by decide) rfl ?_
  refine tv_sub (lv1 := [(3, tm_i 0), (1, tm_l q20), (0, .ref (E.2.1 0))]) [0, 1, 2] rfl ?_
  refine l_dg4 C μ d s hd hs _ _ ?_ 5 0 0 _ n19 rfl (by omega) (by omega) rfl hI_n19 fr_n19
  intro ν4 hI_ν4 fr_ν4
  refine tv_sub (lv1 := [(1, tm_l (dg_e d s)), (0, .ref (E.2.1 0))]) [0, 1] (by rw [hq20, hq18, hq16, hq14]; rfl) ?_
  refine tv_ldc2 (pc := 278) (z := 31) C kl_X7_306 dX7_digest_278 (by decide) ?_
  refine tv_lload_n (pc := 281) 0 C dX7_digest_281 rfl rfl ?_
  refine tv_lmul (pc := 282) C dX7_digest_282 ?_
  refine tv_aload_n (pc := 283) 1 C dX7_digest_283 rfl rfl ?_
  refine tv_iconst (pc := 284) C dX7_digest_284 ?_
  refine tv_callV (pc := 285) [tm_i 0] [tm_l (31 * (dg_e d s))] C (k7_dress E _ ν4 d s hd hI_ν4 0 (by omega)) cv_X7_340 rfl rfl (by decide) rfl (Nat.le_of_ble_eq_true rfl) rfl dX7_digest_285 (tm_ki ?_)
  rintro z9 n21 ⟨hz9, hI_n21, fq⟩
  subst hz9
  have fr_n21 : ∀ a, 74 ≤ a → n21 a = μ a := fun a ha => (fq a ha).trans (fr_ν4 a ha)
  clear fq
  refine tv_i2lw (pc := 288) C dX7_digest_288 ?_
  refine tv_ladd (pc := 289) C dX7_digest_289 ?_
  obtain ⟨q22, hq22⟩ : ∃ q : Int, q = (31 * (dg_e d s)) + (wr (dr_z d 0)) := ⟨_, rfl⟩
  refine tv_topl q22 hq22.symm ?_
  refine tv_lstore_n (pc := 290) [(1, tm_l q22), (0, .ref (E.2.1 0))] C dX7_digest_290 rfl (by decide) rfl ?_
  refine tv_ldc2 (pc := 291) (z := 31) C kl_X7_306 dX7_digest_291 (by decide) ?_
  refine tv_lload_n (pc := 294) 0 C dX7_digest_294 rfl rfl ?_
  refine tv_lmul (pc := 295) C dX7_digest_295 ?_
  refine tv_aload_n (pc := 296) 1 C dX7_digest_296 rfl rfl ?_
  refine tv_iconst (pc := 297) C dX7_digest_297 ?_
  refine tv_callV (pc := 298) [tm_i 1] [tm_l (31 * q22)] C (k7_dress E _ n21 d s hd hI_n21 1 (by omega)) cv_X7_340 rfl rfl (by decide) rfl (Nat.le_of_ble_eq_true rfl) rfl dX7_digest_298 (tm_ki ?_)
  rintro z9 n23 ⟨hz9, hI_n23, fq⟩
  subst hz9
  have fr_n23 : ∀ a, 74 ≤ a → n23 a = μ a := fun a ha => (fq a ha).trans (fr_n21 a ha)
  clear fq
  refine tv_i2lw (pc := 301) C dX7_digest_301 ?_
  refine tv_ladd (pc := 302) C dX7_digest_302 ?_
  obtain ⟨q24, hq24⟩ : ∃ q : Int, q = (31 * q22) + (wr (dr_z d 1)) := ⟨_, rfl⟩
  refine tv_topl q24 hq24.symm ?_
  refine tv_lstore_n (pc := 303) [(1, tm_l q24), (0, .ref (E.2.1 0))] C dX7_digest_303 rfl (by decide) rfl ?_
  refine tv_ldc2 (pc := 304) (z := 31) C kl_X7_306 dX7_digest_304 (by decide) ?_
  refine tv_lload_n (pc := 307) 0 C dX7_digest_307 rfl rfl ?_
  refine tv_lmul (pc := 308) C dX7_digest_308 ?_
  refine tv_aload_n (pc := 309) 1 C dX7_digest_309 rfl rfl ?_
  refine tv_callV (pc := 310) [] [tm_l (31 * q24)] C (k7_least E _ n23 d s hd hI_n23  ) cv_X7_343 rfl rfl (by decide) rfl (Nat.le_of_ble_eq_true rfl) rfl dX7_digest_310 (tm_ki ?_)
  rintro z9 n25 ⟨hz9, hI_n25, fq⟩
  subst hz9
  have fr_n25 : ∀ a, 74 ≤ a → n25 a = μ a := fun a ha => (fq a ha).trans (fr_n23 a ha)
  clear fq
  refine tv_i2lw (pc := 313) C dX7_digest_313 ?_
  refine tv_ladd (pc := 314) C dX7_digest_314 ?_
  obtain ⟨q26, hq26⟩ : ∃ q : Int, q = (31 * q24) + (wr (le_z d)) := ⟨_, rfl⟩
  refine tv_topl q26 hq26.symm ?_
  refine tv_lstore_n (pc := 315) [(1, tm_l q26), (0, .ref (E.2.1 0))] C dX7_digest_315 rfl (by decide) rfl ?_
  refine tv_ldc2 (pc := 316) (z := 31) C kl_X7_306 dX7_digest_316 (by decide) ?_
  refine tv_lload_n (pc := 319) 0 C dX7_digest_319 rfl rfl ?_
  refine tv_lmul (pc := 320) C dX7_digest_320 ?_
  refine tv_aload_n (pc := 321) 1 C dX7_digest_321 rfl rfl ?_
  refine tv_iconst (pc := 322) C dX7_digest_322 ?_
  refine tv_callV (pc := 323) [tm_i 0] [tm_l (31 * q26)] C (k7_send E _ n25 d s hd hI_n25 0 (by omega)) cv_X7_346 rfl rfl (by decide) rfl (Nat.le_of_ble_eq_true rfl) rfl dX7_digest_323 (tm_ki ?_)
  rintro z9 n27 ⟨hz9, hI_n27, fq⟩
  subst hz9
  have fr_n27 : ∀ a, 74 ≤ a → n27 a = μ a := fun a ha => (fq a ha).trans (fr_n25 a ha)
  clear fq
  refine tv_i2lw (pc := 326) C dX7_digest_326 ?_
  refine tv_ladd (pc := 327) C dX7_digest_327 ?_
  obtain ⟨q28, hq28⟩ : ∃ q : Int, q = (31 * q26) + (wr (sd_z d 0)) := ⟨_, rfl⟩
  refine tv_topl q28 hq28.symm ?_
  refine tv_lstore_n (pc := 328) [(1, tm_l q28), (0, .ref (E.2.1 0))] C dX7_digest_328 rfl (by decide) rfl ?_
  refine tv_ldc2 (pc := 329) (z := 31) C kl_X7_306 dX7_digest_329 (by decide) ?_
  refine tv_lload_n (pc := 332) 0 C dX7_digest_332 rfl rfl ?_
  refine tv_lmul (pc := 333) C dX7_digest_333 ?_
  refine tv_aload_n (pc := 334) 1 C dX7_digest_334 rfl rfl ?_
  refine tv_iconst (pc := 335) C dX7_digest_335 ?_
  refine tv_callV (pc := 336) [tm_i 1] [tm_l (31 * q28)] C (k7_send E _ n27 d s hd hI_n27 1 (by omega)) cv_X7_346 rfl rfl (by decide) rfl (Nat.le_of_ble_eq_true rfl) rfl dX7_digest_336 (tm_ki ?_)
  rintro z9 n29 ⟨hz9, hI_n29, fq⟩
  subst hz9
  have fr_n29 : ∀ a, 74 ≤ a → n29 a = μ a := fun a ha => (fq a ha).trans (fr_n27 a ha)
  clear fq
  refine tv_i2lw (pc := 339) C dX7_digest_339 ?_
  refine tv_ladd (pc := 340) C dX7_digest_340 ?_
  obtain ⟨q30, hq30⟩ : ∃ q : Int, q = (31 * q28) + (wr (sd_z d 1)) := ⟨_, rfl⟩
  refine tv_topl q30 hq30.symm ?_
  refine tv_lstore_n (pc := 341) [(1, tm_l q30), (0, .ref (E.2.1 0))] C dX7_digest_341 rfl (by decide) rfl ?_
  refine tv_ldc2 (pc := 342) (z := 31) C kl_X7_306 dX7_digest_342 (by decide) ?_
  refine tv_lload_n (pc := 345) 0 C dX7_digest_345 rfl rfl ?_
  refine tv_lmul (pc := 346) C dX7_digest_346 ?_
  refine tv_aload_n (pc := 347) 1 C dX7_digest_347 rfl rfl ?_
  refine tv_callV (pc := 348) [] [tm_l (31 * q30)] C (k7_never E _ n29 d s hd hs hI_n29  ) cv_X7_349 rfl rfl (by decide) rfl (Nat.le_of_ble_eq_true rfl) rfl dX7_digest_348 (tm_ki ?_)
  rintro z9 n31 ⟨hz9, hI_n31, fq⟩
  subst hz9
  have fr_n31 : ∀ a, 74 ≤ a → n31 a = μ a := fun a ha => (fq a ha).trans (fr_n29 a ha)
  clear fq
  refine tv_i2lw (pc := 351) C dX7_digest_351 ?_
  refine tv_ladd (pc := 352) C dX7_digest_352 ?_
  obtain ⟨q32, hq32⟩ : ∃ q : Int, q = (31 * q30) + (wr (nv_z d s)) := ⟨_, rfl⟩
  refine tv_topl q32 hq32.symm ?_
  refine tv_lstore_n (pc := 353) [(1, tm_l q32), (0, .ref (E.2.1 0))] C dX7_digest_353 rfl (by decide) rfl ?_
  refine tv_ldc2 (pc := 354) (z := 31) C kl_X7_306 dX7_digest_354 (by decide) ?_
  refine tv_lload_n (pc := 357) 0 C dX7_digest_357 rfl rfl ?_
  refine tv_lmul (pc := 358) C dX7_digest_358 ?_
  refine tv_aload_n (pc := 359) 1 C dX7_digest_359 rfl rfl ?_
  refine tv_iconst (pc := 360) C dX7_digest_360 ?_
  refine tv_callV (pc := 361) [tm_i 0] [tm_l (31 * q32)] C (k7_was E _ n31 d s hd hs hI_n31 0 (by omega)) cv_X7_352 rfl rfl (by decide) rfl (Nat.le_of_ble_eq_true rfl) rfl dX7_digest_361 (tm_ki ?_)
  rintro z9 n33 ⟨hz9, hI_n33, fq⟩
  subst hz9
  have fr_n33 : ∀ a, 74 ≤ a → n33 a = μ a := fun a ha => (fq a ha).trans (fr_n31 a ha)
  clear fq
  refine tv_i2lw (pc := 364) C dX7_digest_364 ?_
  refine tv_ladd (pc := 365) C dX7_digest_365 ?_
  obtain ⟨q34, hq34⟩ : ∃ q : Int, q = (31 * q32) + (wr (wa_z d s 0)) := ⟨_, rfl⟩
  refine tv_topl q34 hq34.symm ?_
  refine tv_lstore_n (pc := 366) [(1, tm_l q34), (0, .ref (E.2.1 0))] C dX7_digest_366 rfl (by decide) rfl ?_
  refine tv_ldc2 (pc := 367) (z := 31) C kl_X7_306 dX7_digest_367 (by decide) ?_
  refine tv_lload_n (pc := 370) 0 C dX7_digest_370 rfl rfl ?_
  refine tv_lmul (pc := 371) C dX7_digest_371 ?_
  refine tv_aload_n (pc := 372) 1 C dX7_digest_372 rfl rfl ?_
  refine tv_iconst (pc := 373) C dX7_digest_373 ?_
  refine tv_callV (pc := 374) [tm_i 1] [tm_l (31 * q34)] C (k7_was E _ n33 d s hd hs hI_n33 1 (by omega)) cv_X7_352 rfl rfl (by decide) rfl (Nat.le_of_ble_eq_true rfl) rfl dX7_digest_374 (tm_ki ?_)
  rintro z9 n35 ⟨hz9, hI_n35, fq⟩
  subst hz9
  have fr_n35 : ∀ a, 74 ≤ a → n35 a = μ a := fun a ha => (fq a ha).trans (fr_n33 a ha)
  clear fq
  refine tv_i2lw (pc := 377) C dX7_digest_377 ?_
  refine tv_ladd (pc := 378) C dX7_digest_378 ?_
  obtain ⟨q36, hq36⟩ : ∃ q : Int, q = (31 * q34) + (wr (wa_z d s 1)) := ⟨_, rfl⟩
  refine tv_topl q36 hq36.symm ?_
  refine tv_lstore_n (pc := 379) [(1, tm_l q36), (0, .ref (E.2.1 0))] C dX7_digest_379 rfl (by decide) rfl ?_
  refine tv_ldc2 (pc := 380) (z := 31) C kl_X7_306 dX7_digest_380 (by decide) ?_
  refine tv_lload_n (pc := 383) 0 C dX7_digest_383 rfl rfl ?_
  refine tv_lmul (pc := 384) C dX7_digest_384 ?_
  refine tv_aload_n (pc := 385) 1 C dX7_digest_385 rfl rfl ?_
  refine tv_callV (pc := 386) [] [tm_l (31 * q36)] C (k7_ask E _ n35 d s hd hs hI_n35  ) cv_X7_355 rfl rfl (by decide) rfl (Nat.le_of_ble_eq_true rfl) rfl dX7_digest_386 (tm_ki ?_)
  rintro z9 n37 ⟨hz9, hI_n37, fq⟩
  subst hz9
  have fr_n37 : ∀ a, 74 ≤ a → n37 a = μ a := fun a ha => (fq a ha).trans (fr_n35 a ha)
  clear fq
  refine tv_i2lw (pc := 389) C dX7_digest_389 ?_
  refine tv_ladd (pc := 390) C dX7_digest_390 ?_
  obtain ⟨q38, hq38⟩ : ∃ q : Int, q = (31 * q36) + (wr (as_z d s)) := ⟨_, rfl⟩
  refine tv_topl q38 hq38.symm ?_
  refine tv_lstore_n (pc := 391) [(1, tm_l q38), (0, .ref (E.2.1 0))] C dX7_digest_391 rfl (by decide) rfl ?_
  refine tv_ldc2 (pc := 392) (z := 31) C kl_X7_306 dX7_digest_392 (by decide) ?_
  refine tv_lload_n (pc := 395) 0 C dX7_digest_395 rfl rfl ?_
  refine tv_lmul (pc := 396) C dX7_digest_396 ?_
  refine tv_aload_n (pc := 397) 1 C dX7_digest_397 rfl rfl ?_
  refine tv_bipush (pc := 398) C dX7_digest_398 (by decide) ?_
  refine tv_bipush (pc := 400) C dX7_digest_400 (by decide) ?_
  refine tv_iconst (pc := 402) C dX7_digest_402 ?_
  refine tv_callV (pc := 403) [tm_i 7, tm_i 30, tm_i 0] [tm_l (31 * q38)] C (k7_moon E _ n37 d s hd hI_n37 7 30 0 (by omega) (by omega)) cv_X7_358 rfl rfl (by decide) rfl (Nat.le_of_ble_eq_true rfl) rfl dX7_digest_403 (tm_ki ?_)
  rintro z9 n39 ⟨hz9, hI_n39, fq⟩
  subst hz9
  have fr_n39 : ∀ a, 74 ≤ a → n39 a = μ a := fun a ha => (fq a ha).trans (fr_n37 a ha)
  clear fq
  refine tv_i2lw (pc := 406) C dX7_digest_406 ?_
  refine tv_ladd (pc := 407) C dX7_digest_407 ?_
  obtain ⟨q40, hq40⟩ : ∃ q : Int, q = (31 * q38) + (wr (mn_z d 7 30 0)) := ⟨_, rfl⟩
  refine tv_topl q40 hq40.symm ?_
  refine tv_lstore_n (pc := 408) [(1, tm_l q40), (0, .ref (E.2.1 0))] C dX7_digest_408 rfl (by decide) rfl ?_
  refine tv_ldc2 (pc := 409) (z := 31) C kl_X7_306 dX7_digest_409 (by decide) ?_
  refine tv_lload_n (pc := 412) 0 C dX7_digest_412 rfl rfl ?_
  refine tv_lmul (pc := 413) C dX7_digest_413 ?_
  refine tv_aload_n (pc := 414) 1 C dX7_digest_414 rfl rfl ?_
  refine tv_bipush (pc := 415) C dX7_digest_415 (by decide) ?_
  refine tv_bipush (pc := 417) C dX7_digest_417 (by decide) ?_
  refine tv_iconst (pc := 419) C dX7_digest_419 ?_
  refine tv_callV (pc := 420) [tm_i 7, tm_i 30, tm_i 1] [tm_l (31 * q40)] C (k7_moon E _ n39 d s hd hI_n39 7 30 1 (by omega) (by omega)) cv_X7_358 rfl rfl (by decide) rfl (Nat.le_of_ble_eq_true rfl) rfl dX7_digest_420 (tm_ki ?_)
  rintro z9 n41 ⟨hz9, hI_n41, fq⟩
  subst hz9
  have fr_n41 : ∀ a, 74 ≤ a → n41 a = μ a := fun a ha => (fq a ha).trans (fr_n39 a ha)
  clear fq
  refine tv_i2lw (pc := 423) C dX7_digest_423 ?_
  refine tv_ladd (pc := 424) C dX7_digest_424 ?_
  refine tv_lret (pc := 425) C dX7_digest_425 ?_
  refine ⟨_, rfl, ?_, hI_n41, fr_n41⟩
  rw [hq40, hq38, hq36, hq34, hq32, hq30, hq28, hq26, hq24, hq22]
  rfl
