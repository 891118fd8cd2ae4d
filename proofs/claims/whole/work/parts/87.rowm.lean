theorem k7_row (E : tm_Ev) (l : Launch) (μ : tm_M) (d s : tm_M) (hd : dd_ok d) (hI : cl_I μ d s) (w : Int) (hw : -2147483648 ≤ w ∧ w ≤ 2147483647) : tm_Met E l yX7_row cX7_row 2 (some .int) 15 [.ref (E.2.1 0), tm_i w] μ (tm_pi (fun z μ' => z = ro_z d w ∧ cl_I μ' d s ∧ ∀ a, 74 ≤ a → μ' a = μ a)) := by
  refine tm_intro [(0, .ref (E.2.1 0)), (1, tm_i w)] rfl (by decide +kernel) (Nat.le_of_ble_eq_true rfl) ?_
  intro X hX C
  subst hX
  have h8 : dd_n d ≤ 8 := sp_no_bd _ (by have q := hd.2.1; omega)
  refine tv_iload_n (pc := 0) 1 C dX7_row_0 rfl rfl ?_
  refine tv_iconst (pc := 1) C dX7_row_1 ?_
  refine tv_bipush (pc := 2) C dX7_row_2 (by decide) ?_
  refine tv_callS (pc := 4) [tm_i w, tm_i 0, tm_i 8] [] C (c7_within E _ μ w 0 8 (by omega) (by omega) (by omega)) cs_X7_97 (by decide) rfl (Nat.le_of_ble_eq_true rfl) rfl dX7_row_4 (tm_kp ?_)
  refine tv_ifneB (pc := 7) 13 C dX7_row_7 (by decide) (fun h7 => ?_) (fun h7 => ?_)
  · skip
    refine tv_aload_n (pc := 13) 0 C dX7_row_13 rfl rfl ?_
    refine tv_callV (pc := 14) [] [] C (c7_settle E _ μ d hd hI.1 hI.2.2.1 hI.2.2.2.1) cv_X7_125 rfl rfl (by decide) rfl (Nat.le_of_ble_eq_true rfl) rfl dX7_row_14 (tm_kv ?_)
    rintro n1 ⟨g1, g2, g3, g4, g5⟩
    have hI1 := cl_I_set hI g1 g2 g3 g4 g5
    have fr1 : ∀ a, 74 ≤ a → n1 a = μ a := fun a ha => g4 a (by omega)
    have hn := g2.2.1
    have hor := fun k hk => (g2.2.2.1 k hk)
    refine tv_iload_n (pc := 17) 1 C dX7_row_17 rfl rfl ?_
    refine tv_aload_n (pc := 18) 0 C dX7_row_18 rfl rfl ?_
    refine tv_getr (pc := 19) (q := 23) C rfl rfl fl_X7_41 dX7_row_19 ?_
    refine tv_geti (pc := 22) (z := (dd_n d : Int)) C rfl rfl fl_X7_205 dX7_row_22 hn ?_
    refine tv_icmp_gt (pc := 25) 38 C dX7_row_25 (by decide) (by omega) (by omega) (fun h25 => ?_) (fun h25 => ?_)
    · skip
      refine tv_iconst (pc := 38) C dX7_row_38 ?_
      refine tv_iret (pc := 39) C dX7_row_39 ?_
      exact ⟨_, rfl, by unfold ro_z; rw [if_pos (by omega), if_pos (by omega)], hI1, fr1⟩
    · skip
      refine tv_aload_n (pc := 28) 0 C dX7_row_28 rfl rfl ?_
      refine tv_getr (pc := 29) (q := 23) C rfl rfl fl_X7_41 dX7_row_29 ?_
      refine tv_geti (pc := 32) (z := (dd_n d : Int)) C rfl rfl fl_X7_205 dX7_row_32 hn ?_
      refine tv_if_ne (pc := 35) 40 C dX7_row_35 (by decide) (by omega) (fun h35 => ?_) (fun h35 => ?_)
      · skip
        have h17r := hI1.2.2.2.2.1
        refine tv_aload_n (pc := 40) 0 C dX7_row_40 rfl rfl ?_
        refine tv_geti (pc := 41) (z := n1 0 17) C rfl rfl fl_X7_210 dX7_row_41 rfl ?_
        refine tv_if_ne (pc := 44) 63 C dX7_row_44 (by decide) (by omega) (fun h44 => ?_) (fun h44 => ?_)
        · skip
          have hb := (hI1.2.2.2.2.2.1 (by omega)).2.2
          refine tv_iload_n (pc := 63) 1 C dX7_row_63 rfl rfl ?_
          refine tv_if_ne (pc := 64) 77 C dX7_row_64 (by decide) (by omega) (fun h64 => ?_) (fun h64 => ?_)
          · skip
            refine tv_aload_n (pc := 77) 0 C dX7_row_77 rfl rfl ?_
            refine tv_getr (pc := 78) (q := 57) C rfl rfl fl_X7_82 dX7_row_78 ?_
            refine tv_getr (pc := 81) (q := 60) C rfl rfl fl_X7_221 dX7_row_81 ?_
            refine tv_iload_n (pc := 84) 1 C dX7_row_84 rfl rfl ?_
            refine tv_iconst (pc := 85) C dX7_row_85 ?_
            refine tv_isub (pc := 86) C dX7_row_86 ?_
            refine tv_iald (pc := 87) (j := (w - 1).toNat) (z := n1 60 ((w - 1).toNat)) C rfl dX7_row_87 (by omega) rfl rfl ?_
            refine tv_iret (pc := 88) C dX7_row_88 ?_
            exact ⟨_, rfl, by unfold ro_z; rw [if_pos (by omega), if_neg (by omega), if_neg (by omega)]; exact (rb_eq hb).2 _ (by omega), hI1, fr1⟩
          · skip
            refine tv_aload_n (pc := 67) 0 C dX7_row_67 rfl rfl ?_
            refine tv_getr (pc := 68) (q := 57) C rfl rfl fl_X7_82 dX7_row_68 ?_
            refine tv_geti (pc := 71) (z := n1 57 5) C rfl rfl fl_X7_218 dX7_row_71 rfl ?_
            refine tv_goto (pc := 74) 88 C dX7_row_74 (by decide) ?_
            refine tv_iret (pc := 88) C dX7_row_88 ?_
            exact ⟨_, rfl, by unfold ro_z; rw [if_pos (by omega), if_neg (by omega), if_pos (by omega)]; exact (rb_eq hb).1, hI1, fr1⟩
        · skip
          refine tv_aload_n (pc := 47) 0 C dX7_row_47 rfl rfl ?_
          refine tv_getr (pc := 48) (q := 57) C rfl rfl fl_X7_82 dX7_row_48 ?_
          refine tv_aload_n (pc := 51) 0 C dX7_row_51 rfl rfl ?_
          refine tv_getr (pc := 52) (q := 29) C rfl rfl fl_X7_62 dX7_row_52 ?_
          refine tv_callV (pc := 55) [.ref (E.2.1 29)] [] C (c3_look E _ n1 d hd h8 g2) cv_X7_214 rfl rfl (by decide) rfl (Nat.le_of_ble_eq_true rfl) rfl dX7_row_55 (tm_kv ?_)
          rintro n2 ⟨hb, hF⟩
          refine tv_aload_n (pc := 58) 0 C dX7_row_58 rfl rfl ?_
          refine tv_iconst (pc := 59) C dX7_row_59 ?_
          refine tv_putz (pc := 60) C rfl rfl fp_X7_210 dX7_row_60 (by omega) ?_
          have hI2 : cl_I (tm_up n2 0 17 1) d s := cl_I_pl hI1 g3 (by omega) (fun a h1 h2 => by rw [tm_uf h2]; exact hF a h1) (fun b hb => by rw [tm_uj hb, hF 0 (by omega)]) tm_us (by rw [tm_uk (by decide), tm_uf (by decide)]; exact hb)
          have fr2 : ∀ a, 74 ≤ a → tm_up n2 0 17 1 a = μ a := fun a ha => by rw [tm_uf (by omega), hF a (by omega)]; exact fr1 a ha
          refine tv_iload_n (pc := 63) 1 C dX7_row_63 rfl rfl ?_
          refine tv_if_ne (pc := 64) 77 C dX7_row_64 (by decide) (by omega) (fun h64 => ?_) (fun h64 => ?_)
          · skip
            refine tv_aload_n (pc := 77) 0 C dX7_row_77 rfl rfl ?_
            refine tv_getr (pc := 78) (q := 57) C rfl rfl fl_X7_82 dX7_row_78 ?_
            refine tv_getr (pc := 81) (q := 60) C rfl rfl fl_X7_221 dX7_row_81 ?_
            refine tv_iload_n (pc := 84) 1 C dX7_row_84 rfl rfl ?_
            refine tv_iconst (pc := 85) C dX7_row_85 ?_
            refine tv_isub (pc := 86) C dX7_row_86 ?_
            refine tv_iald (pc := 87) (j := (w - 1).toNat) (z := n2 60 ((w - 1).toNat)) C rfl dX7_row_87 (by omega) rfl ((tm_uk (by decide)).trans (rfl)) ?_
            refine tv_iret (pc := 88) C dX7_row_88 ?_
            exact ⟨_, rfl, by unfold ro_z; rw [if_pos (by omega), if_neg (by omega), if_neg (by omega)]; exact (rb_eq hb).2 _ (by omega), hI2, fr2⟩
          · skip
            refine tv_aload_n (pc := 67) 0 C dX7_row_67 rfl rfl ?_
            refine tv_getr (pc := 68) (q := 57) C rfl rfl fl_X7_82 dX7_row_68 ?_
            refine tv_geti (pc := 71) (z := n2 57 5) C rfl rfl fl_X7_218 dX7_row_71 ((tm_uk (by decide)).trans (rfl)) ?_
            refine tv_goto (pc := 74) 88 C dX7_row_74 (by decide) ?_
            refine tv_iret (pc := 88) C dX7_row_88 ?_
            exact ⟨_, rfl, by unfold ro_z; rw [if_pos (by omega), if_neg (by omega), if_pos (by omega)]; exact (rb_eq hb).1, hI2, fr2⟩
      · skip
        refine tv_iconst (pc := 38) C dX7_row_38 ?_
        refine tv_iret (pc := 39) C dX7_row_39 ?_
        exact ⟨_, rfl, by unfold ro_z; rw [if_pos (by omega), if_pos (by omega)], hI1, fr1⟩
  · skip
    refine tv_bipush (pc := 10) C dX7_row_10 (by decide) ?_
    refine tv_iret (pc := 12) C dX7_row_12 ?_
    exact ⟨_, rfl, by unfold ro_z; rw [if_neg (by omega)], hI, fun a _ => rfl⟩
theorem l_next3 {E : tm_Ev} {X : tm_X} (C : tm_C E X yX8_nextRow.cls cX8_nextRow 7 (some .boolean) 0) (n1 : tm_M) (n i : Nat) (g : Nat → Int) (hn8 : n ≤ 8) (hi1 : i + 1 < n) (hN : ∀ k, i < k → k < n → g k = n1 86 (n + i - k)) (post : Option Value → tm_M → Prop) (hpost : ∀ ν : tm_M, (∀ q, q ≠ 86 → ν q = n1 q) → (∀ k, k < n → ν 86 k = g k) → post (some (tm_i 1)) ν) : ∀ (f a b : Nat) (x y : Int) (ν : tm_M), x = a → y = b → a + b = n + i → i < a ∧ i ≤ b ∧ b < n → n - a < f → (∀ k, k < n → ν 86 k = if k < a ∨ b < k then g k else n1 86 k) → (∀ q, q ≠ 86 → ν q = n1 q) → tm_V E X (tm_Q E X post) 7 107 [(5, tm_i y), (4, tm_i x), (0, .ref (E.2.1 74))] [] ν := by
  intro f
  induction f with
  | zero => intro a b x y ν hx hy hs hi hf hR hF; omega
  | succ f ih =>
    intro a b x y ν hx hy hs hi hf hR hF
    refine tv_iload (pc := 107) 1 C dX8_nextRow_107 rfl ?_
    refine tv_iload (pc := 109) 0 C dX8_nextRow_109 rfl ?_
    refine tv_icmp_ge (pc := 111) 155 C dX8_nextRow_111 (by decide) (by omega) (by omega) (fun h111 => ?_) (fun h111 => ?_)
    · skip
      refine tv_iconst (pc := 155) C dX8_nextRow_155 ?_
      refine tv_zret (pc := 156) C dX8_nextRow_156 (by omega) ?_
      refine hpost ν hF (fun k hk => ?_)
      rw [hR k hk]
      by_cases hc : k < a ∨ b < k
      · rw [if_pos hc]
      · rw [if_neg hc, hN k (by omega) hk]
        congr 1
        omega
    · skip
      refine tv_aload_n (pc := 114) 2 C dX8_nextRow_114 rfl rfl ?_
      refine tv_getr (pc := 115) (q := 86) C rfl rfl fl_X8_43 dX8_nextRow_115 ?_
      refine tv_iload (pc := 118) 1 C dX8_nextRow_118 rfl ?_
      refine tv_iald (pc := 120) (j := a) (z := ν 86 a) C rfl dX8_nextRow_120 (by omega) (by omega) rfl ?_
      refine tv_istore (pc := 121) [(6, tm_i (ν 86 a)), (5, tm_i y), (4, tm_i x), (0, .ref (E.2.1 74))] C dX8_nextRow_121 (by decide) rfl ?_
      refine tv_aload_n (pc := 123) 3 C dX8_nextRow_123 rfl rfl ?_
      refine tv_getr (pc := 124) (q := 86) C rfl rfl fl_X8_43 dX8_nextRow_124 ?_
      refine tv_iload (pc := 127) 2 C dX8_nextRow_127 rfl ?_
      refine tv_aload_n (pc := 129) 3 C dX8_nextRow_129 rfl rfl ?_
      refine tv_getr (pc := 130) (q := 86) C rfl rfl fl_X8_43 dX8_nextRow_130 ?_
      refine tv_iload (pc := 133) 1 C dX8_nextRow_133 rfl ?_
      refine tv_iald (pc := 135) (j := b) (z := ν 86 b) C rfl dX8_nextRow_135 (by omega) (by omega) rfl ?_
      refine tv_iast (pc := 136) (j := a) C rfl dX8_nextRow_136 (by omega) (by omega) ?_
      refine tv_aload_n (pc := 137) 3 C dX8_nextRow_137 rfl rfl ?_
      refine tv_getr (pc := 138) (q := 86) C rfl rfl fl_X8_43 dX8_nextRow_138 ?_
      refine tv_iload (pc := 141) 1 C dX8_nextRow_141 rfl ?_
      refine tv_iload (pc := 143) 0 C dX8_nextRow_143 rfl ?_
      refine tv_iast (pc := 145) (j := b) C rfl dX8_nextRow_145 (by omega) (by omega) ?_
      refine tv_iinc (pc := 146) 2 [(4, tm_i (x + 1)), (6, tm_i (ν 86 a)), (5, tm_i y), (0, .ref (E.2.1 74))] C dX8_nextRow_146 rfl (by decide) rfl ?_
      refine tv_iinc (pc := 149) 2 [(5, tm_i (y + (-1))), (4, tm_i (x + 1)), (6, tm_i (ν 86 a)), (0, .ref (E.2.1 74))] C dX8_nextRow_149 rfl (by decide) rfl ?_
      refine tv_goto (pc := 152) 107 C dX8_nextRow_152 (by decide) ?_
      refine tv_sub (lv1 := [(5, tm_i (y + (-1))), (4, tm_i (x + 1)), (0, .ref (E.2.1 74))]) [0, 1, 3] rfl ?_
      refine ih (a + 1) (b - 1) (x + 1) (y + (-1)) _ (by omega) (by omega) (by omega) (by omega) (by omega) ?_ (fun q hq => by rw [tm_uf hq, tm_uf hq]; exact hF q hq)
      intro k hk
      rw [tm_ua]
      have ra := hR a (by omega)
      have rb := hR b (by omega)
      rw [if_neg (by omega)] at ra rb
      by_cases hkb : k = b
      · subst hkb
        rw [if_pos rfl, if_pos (by omega), ra, hN k (by omega) (by omega)]
        congr 1
        omega
      · rw [if_neg hkb, tm_ua]
        by_cases hka : k = a
        · subst hka
          rw [if_pos rfl, if_pos (by omega), rb, hN k (by omega) (by omega)]
          congr 1
          omega
        · rw [if_neg hka, hR k hk]
          by_cases hc : k < a ∨ b < k
          · rw [if_pos hc, if_pos (by omega)]
          · rw [if_neg hc, if_neg (by omega)]
theorem l_next2 {E : tm_Ev} {X : tm_X} (C : tm_C E X yX8_nextRow.cls cX8_nextRow 7 (some .boolean) 0) (μ : tm_M) (n : Nat) (hn : μ 74 17 = (n : Int)) (hn1 : 1 ≤ n) (hn8 : n ≤ 8) (hw : rw_pm n (μ 86)) (i : Nat) (x : Int) (hx : x = i) (hi1 : i + 1 < n) (hlt : μ 86 i < μ 86 (i + 1)) (hdn : ∀ k, i < k → k + 1 < n → μ 86 (k + 1) < μ 86 k) (post : Option Value → tm_M → Prop) (hyes : ∀ ν : tm_M, (∀ a, a ≠ 86 → ν a = μ a) → nx_p n (μ 86) (ν 86) → post (some (tm_i 1)) ν) : ∀ (f j : Nat) (y : Int), y = j → j < f → i < j → j < n → (∀ k, j < k → k < n → μ 86 k < μ 86 i) → tm_V E X (tm_Q E X post) 7 47 [(2, tm_i y), (1, tm_i x), (0, .ref (E.2.1 74))] [] μ := by
  intro f
  induction f with
  | zero => intro j y hy hf hij hjn hgt; omega
  | succ f ih =>
    intro j y hy hf hij hjn hgt
    have r1 := hw.1 i (by omega)
    have r2 := hw.1 j hjn
    refine tv_aload_n (pc := 47) 2 C dX8_nextRow_47 rfl rfl ?_
    refine tv_getr (pc := 48) (q := 86) C rfl rfl fl_X8_43 dX8_nextRow_48 ?_
    refine tv_iload_n (pc := 51) 0 C dX8_nextRow_51 rfl rfl ?_
    refine tv_iald (pc := 52) (j := j) (z := μ 86 j) C rfl dX8_nextRow_52 (by omega) (by omega) rfl ?_
    refine tv_aload_n (pc := 53) 2 C dX8_nextRow_53 rfl rfl ?_
    refine tv_getr (pc := 54) (q := 86) C rfl rfl fl_X8_43 dX8_nextRow_54 ?_
    refine tv_iload_n (pc := 57) 1 C dX8_nextRow_57 rfl rfl ?_
    refine tv_iald (pc := 58) (j := i) (z := μ 86 i) C rfl dX8_nextRow_58 (by omega) (by omega) rfl ?_
    refine tv_icmp_ge (pc := 59) 68 C dX8_nextRow_59 (by decide) (by omega) (by omega) (fun h59 => ?_) (fun h59 => ?_)
    · skip
      refine tv_aload_n (pc := 68) 2 C dX8_nextRow_68 rfl rfl ?_
      refine tv_getr (pc := 69) (q := 86) C rfl rfl fl_X8_43 dX8_nextRow_69 ?_
      refine tv_iload_n (pc := 72) 1 C dX8_nextRow_72 rfl rfl ?_
      refine tv_iald (pc := 73) (j := i) (z := μ 86 i) C rfl dX8_nextRow_73 (by omega) (by omega) rfl ?_
      refine tv_istore_n (pc := 74) [(3, tm_i (μ 86 i)), (2, tm_i y), (1, tm_i x), (0, .ref (E.2.1 74))] C dX8_nextRow_74 rfl (by decide) rfl ?_
      refine tv_aload_n (pc := 75) 3 C dX8_nextRow_75 rfl rfl ?_
      refine tv_getr (pc := 76) (q := 86) C rfl rfl fl_X8_43 dX8_nextRow_76 ?_
      refine tv_iload_n (pc := 79) 2 C dX8_nextRow_79 rfl rfl ?_
      refine tv_aload_n (pc := 80) 3 C dX8_nextRow_80 rfl rfl ?_
      refine tv_getr (pc := 81) (q := 86) C rfl rfl fl_X8_43 dX8_nextRow_81 ?_
      refine tv_iload_n (pc := 84) 1 C dX8_nextRow_84 rfl rfl ?_
      refine tv_iald (pc := 85) (j := j) (z := μ 86 j) C rfl dX8_nextRow_85 (by omega) (by omega) rfl ?_
      refine tv_iast (pc := 86) (j := i) C rfl dX8_nextRow_86 (by omega) (by omega) ?_
      refine tv_aload_n (pc := 87) 3 C dX8_nextRow_87 rfl rfl ?_
      refine tv_getr (pc := 88) (q := 86) C rfl rfl fl_X8_43 dX8_nextRow_88 ?_
      refine tv_iload_n (pc := 91) 1 C dX8_nextRow_91 rfl rfl ?_
      refine tv_iload_n (pc := 92) 0 C dX8_nextRow_92 rfl rfl ?_
      refine tv_iast (pc := 93) (j := j) C rfl dX8_nextRow_93 (by omega) (by omega) ?_
      refine tv_iload_n (pc := 94) 2 C dX8_nextRow_94 rfl rfl ?_
      refine tv_iconst (pc := 95) C dX8_nextRow_95 ?_
      refine tv_iadd (pc := 96) C dX8_nextRow_96 ?_
      refine tv_istore (pc := 97) [(4, tm_i (x + 1)), (3, tm_i (μ 86 i)), (2, tm_i y), (1, tm_i x), (0, .ref (E.2.1 74))] C dX8_nextRow_97 (by decide) rfl ?_
      refine tv_aload_n (pc := 99) 4 C dX8_nextRow_99 rfl rfl ?_
      refine tv_geti (pc := 100) (z := (n : Int)) C rfl rfl fl_X8_167 dX8_nextRow_100 ((tm_uk (by decide)).trans ((tm_uk (by decide)).trans (hn))) ?_
      refine tv_iconst (pc := 103) C dX8_nextRow_103 ?_
      refine tv_isub (pc := 104) C dX8_nextRow_104 ?_
      refine tv_istore (pc := 105) [(5, tm_i ((n : Int) - 1)), (4, tm_i (x + 1)), (3, tm_i (μ 86 i)), (2, tm_i y), (1, tm_i x), (0, .ref (E.2.1 74))] C dX8_nextRow_105 (by decide) rfl ?_
      refine tv_sub (lv1 := [(5, tm_i ((n : Int) - 1)), (4, tm_i (x + 1)), (0, .ref (E.2.1 74))]) [0, 1, 5] rfl ?_
      have hne : ¬ μ 86 i = μ 86 j := fun q => by have := hw.2 i j (by omega) (by omega) q; omega
      refine l_next3 C (tm_up (tm_up μ 86 i (μ 86 j)) 86 j (μ 86 i)) n i (nx_w n i j (μ 86)) hn8 hi1 ?_ _ ?_ (n + 1) (i + 1) (n - 1) _ _ _ (by omega) (by omega) (by omega) (by omega) (by omega) ?_ (fun q _ => rfl)
      · intro k h1 h2
        rw [nx_hi h1, tm_ua]
        by_cases hc : n + i - k = j
        · rw [if_pos hc, if_pos hc]
        · rw [if_neg hc, if_neg hc, tm_ua, if_neg (by omega)]
      · intro ν hF hG
        refine hyes ν (fun q hq => by rw [hF q hq, tm_uf hq, tm_uf hq]) (nx_fin hw hdn hij hjn (by omega) hgt hG)
      · intro k hk
        by_cases hc : k < i + 1 ∨ n - 1 < k
        · rw [if_pos hc, tm_ua, if_neg (by omega), tm_ua]
          by_cases hki : k = i
          · subst hki; rw [if_pos rfl, nx_i]
          · rw [if_neg hki, nx_lo (by omega)]
        · rw [if_neg hc]
    · skip
      refine tv_iinc (pc := 62) 0 [(2, tm_i (y + (-1))), (1, tm_i x), (0, .ref (E.2.1 74))] C dX8_nextRow_62 rfl (by decide) rfl ?_
      refine tv_goto (pc := 65) 47 C dX8_nextRow_65 (by decide) ?_
      refine tv_sub (lv1 := [(2, tm_i (y + (-1))), (1, tm_i x), (0, .ref (E.2.1 74))]) [0, 1, 2] rfl ?_
      refine ih (j - 1) (y + (-1)) (by omega) (by omega) ?_ (by omega) (fun k h1 h2 => ?_)
      · rcases (show j = i + 1 ∨ i < j - 1 by omega) with q | q
        · subst q; omega
        · exact q
      · by_cases hk : k = j
        · subst hk; omega
        · exact hgt k (by omega) h2
theorem l_next1 {E : tm_Ev} {X : tm_X} (C : tm_C E X yX8_nextRow.cls cX8_nextRow 7 (some .boolean) 0) (μ : tm_M) (n : Nat) (hn : μ 74 17 = (n : Int)) (hn1 : 1 ≤ n) (hn8 : n ≤ 8) (hw : rw_pm n (μ 86)) (post : Option Value → tm_M → Prop) (hno : (∀ k, k + 1 < n → μ 86 (k + 1) < μ 86 k) → post (some (tm_i 0)) μ) (hyes : ∀ ν : tm_M, (∀ a, a ≠ 86 → ν a = μ a) → nx_p n (μ 86) (ν 86) → post (some (tm_i 1)) ν) : ∀ (f e : Nat) (x : Int), x = (e : Int) - 1 → e < f → e + 1 ≤ n → (∀ k, e ≤ k → k + 1 < n → μ 86 (k + 1) < μ 86 k) → tm_V E X (tm_Q E X post) 7 7 [(1, tm_i x), (0, .ref (E.2.1 74))] [] μ := by
  intro f
  induction f with
  | zero => intro e x hx hf he hdn; omega
  | succ f ih =>
    intro e x hx hf he hdn
    refine tv_iload_n (pc := 7) 0 C dX8_nextRow_7 rfl rfl ?_
    refine tv_if_lt (pc := 8) 34 C dX8_nextRow_8 (by decide) (by omega) (fun h8 => ?_) (fun h8 => ?_)
    · skip
      have he0 : e = 0 := by omega
      subst he0
      refine tv_iload_n (pc := 34) 0 C dX8_nextRow_34 rfl rfl ?_
      refine tv_if_ge (pc := 35) 40 C dX8_nextRow_35 (by decide) (by omega) (fun h35 => ?_) (fun h35 => ?_)
      · skip
        exfalso; omega
      · skip
        refine tv_iconst (pc := 38) C dX8_nextRow_38 ?_
        refine tv_zret (pc := 39) C dX8_nextRow_39 (by omega) ?_
        refine hno (fun k hk => hdn k (by omega) hk)
    · skip
      have r1 := hw.1 (e - 1) (by omega)
      have r2 := hw.1 e (by omega)
      refine tv_aload_n (pc := 11) 1 C dX8_nextRow_11 rfl rfl ?_
      refine tv_getr (pc := 12) (q := 86) C rfl rfl fl_X8_43 dX8_nextRow_12 ?_
      refine tv_iload_n (pc := 15) 0 C dX8_nextRow_15 rfl rfl ?_
      refine tv_iald (pc := 16) (j := (e - 1)) (z := μ 86 (e - 1)) C rfl dX8_nextRow_16 (by omega) (by omega) rfl ?_
      refine tv_aload_n (pc := 17) 1 C dX8_nextRow_17 rfl rfl ?_
      refine tv_getr (pc := 18) (q := 86) C rfl rfl fl_X8_43 dX8_nextRow_18 ?_
      refine tv_iload_n (pc := 21) 0 C dX8_nextRow_21 rfl rfl ?_
      refine tv_iconst (pc := 22) C dX8_nextRow_22 ?_
      refine tv_iadd (pc := 23) C dX8_nextRow_23 ?_
      refine tv_iald (pc := 24) (j := e) (z := μ 86 e) C rfl dX8_nextRow_24 (by omega) (by omega) rfl ?_
      refine tv_icmp_le (pc := 25) 34 C dX8_nextRow_25 (by decide) (by omega) (by omega) (fun h25 => ?_) (fun h25 => ?_)
      · skip
        refine tv_iload_n (pc := 34) 0 C dX8_nextRow_34 rfl rfl ?_
        refine tv_if_ge (pc := 35) 40 C dX8_nextRow_35 (by decide) (by omega) (fun h35 => ?_) (fun h35 => ?_)
        · skip
          refine tv_aload_n (pc := 40) 1 C dX8_nextRow_40 rfl rfl ?_
          refine tv_geti (pc := 41) (z := (n : Int)) C rfl rfl fl_X8_167 dX8_nextRow_41 hn ?_
          refine tv_iconst (pc := 44) C dX8_nextRow_44 ?_
          refine tv_isub (pc := 45) C dX8_nextRow_45 ?_
          refine tv_istore_n (pc := 46) [(2, tm_i ((n : Int) - 1)), (1, tm_i x), (0, .ref (E.2.1 74))] C dX8_nextRow_46 rfl (by decide) rfl ?_
          refine tv_sub (lv1 := [(2, tm_i ((n : Int) - 1)), (1, tm_i x), (0, .ref (E.2.1 74))]) [0, 1, 2] rfl ?_
          obtain ⟨i, rfl⟩ : ∃ i, e = i + 1 := ⟨e - 1, by omega⟩
          rw [show i + 1 - 1 = i by omega] at h25 r1
          have hne : ¬ μ 86 i = μ 86 (i + 1) := fun q => by have := hw.2 i (i + 1) (by omega) (by omega) q; omega
          exact l_next2 C μ n hn hn1 hn8 hw i x (by omega) (by omega) (by omega) (fun k h1 h2 => hdn k (by omega) h2) _ hyes n (n - 1) _ (by omega) (by omega) (by omega) (by omega) (fun k h1 h2 => by omega)
        · skip
          exfalso; omega
      · skip
        refine tv_iinc (pc := 28) 0 [(1, tm_i (x + (-1))), (0, .ref (E.2.1 74))] C dX8_nextRow_28 rfl (by decide) rfl ?_
        refine tv_goto (pc := 31) 7 C dX8_nextRow_31 (by decide) ?_
        refine tv_sub (lv1 := [(1, tm_i (x + (-1))), (0, .ref (E.2.1 74))]) [0, 1] rfl ?_
        refine ih (e - 1) (x + (-1)) (by omega) (by omega) (by omega) (fun k h1 h2 => ?_)
        by_cases hk : k = e - 1
        · subst hk
          rw [show e - 1 + 1 = e by omega]
          omega
        · exact hdn k (by omega) h2
theorem c8_nextRow (E : tm_Ev) (l : Launch) (μ : tm_M) (n : Nat) (hn : μ 74 17 = (n : Int)) (hn1 : 1 ≤ n) (hn8 : n ≤ 8) (hw : rw_pm n (μ 86)) : tm_Met E l yX8_nextRow cX8_nextRow 7 (some .boolean) 0 [.ref (E.2.1 74)] μ (tm_pi (fun z μ' => (z = 0 ∧ μ' = μ ∧ ∀ v, rw_pm n v → ¬ rw_lt n (μ 86) v) ∨ (z = 1 ∧ (∀ a, a ≠ 86 → μ' a = μ a) ∧ nx_p n (μ 86) (μ' 86)))) := by
  refine tm_intro [(0, .ref (E.2.1 74))] rfl (by decide +kernel) (Nat.le_of_ble_eq_true rfl) ?_
  intro X hX C
  subst hX
  refine tv_aload_n (pc := 0) 0 C dX8_nextRow_0 rfl rfl ?_
  refine tv_geti (pc := 1) (z := (n : Int)) C rfl rfl fl_X8_167 dX8_nextRow_1 hn ?_
  refine tv_iconst (pc := 4) C dX8_nextRow_4 ?_
  refine tv_isub (pc := 5) C dX8_nextRow_5 ?_
  refine tv_istore_n (pc := 6) [(1, tm_i ((n : Int) - 2)), (0, .ref (E.2.1 74))] C dX8_nextRow_6 rfl (by decide) rfl ?_
  refine tv_sub (lv1 := [(1, tm_i ((n : Int) - 2)), (0, .ref (E.2.1 74))]) [0, 1] rfl ?_
  refine l_next1 C μ n hn hn1 hn8 hw _ (fun hd => ⟨_, rfl, Or.inl ⟨rfl, rfl, fun v hv hl => ?_⟩⟩) (fun ν h1 h2 => ⟨_, rfl, Or.inr ⟨rfl, h1, h2⟩⟩) n (n - 1) _ (by omega) (by omega) (by omega) (fun k h1 h2 => by omega)
  obtain ⟨p, p1, p2, p3⟩ := hl
  have := pm_last (i := 0) hv hw (fun k _ h2 => hd k h2) p1 (Nat.zero_le _) (fun k hk => (p2 k hk).symm)
  omega
theorem l_rowBy1 {E : tm_Ev} {X : tm_X} (C : tm_C E X yX8_rowBy.cls cX8_rowBy 5 (some .int) 7) (n3 d : tm_M) (h8 : dd_n d ≤ 8) (hn : n3 74 4 = (dd_n d : Int)) (y m g : Int) (hy : -1 ≤ y ∧ y ≤ 100) (hm : -1 ≤ m ∧ m ≤ 100) (Q : State → Prop) (hk9 : ∀ κ : tm_M, (∀ a, a ≠ 93 → κ a = n3 a) → (m < y → ∀ j, j < dd_n d → κ 93 j = n3 86 j) → (y ≤ m → κ 93 = n3 93) → tm_V E X Q 5 69 [(3, tm_i y), (1, tm_i m), (2, tm_i g), (0, .ref (E.2.1 74))] [] κ) : ∀ (f k : Nat) (x : Int), x = k → k ≤ dd_n d → dd_n d - k < f → (y ≤ m → k = 0) → tm_V E X Q 5 35 [(4, tm_i x), (3, tm_i y), (1, tm_i m), (2, tm_i g), (0, .ref (E.2.1 74))] [] (tm_rowf n3 93 k (n3 86)) := by
  intro f
  induction f with
  | zero => intro k x hx hj hf h0; omega
  | succ f ih =>
    intro k x hx hj hf h0
    refine tv_iload (pc := 35) 0 C dX8_rowBy_35 rfl ?_
    refine tv_aload_n (pc := 37) 4 C dX8_rowBy_37 rfl rfl ?_
    refine tv_geti (pc := 38) (z := (dd_n d : Int)) C rfl rfl fl_X8_114 dX8_rowBy_38 ((tm_rowf_k (by decide)).trans hn) ?_
    refine tv_icmp_ge (pc := 41) 69 C dX8_rowBy_41 (by decide) (by omega) (by omega) (fun h41 => ?_) (fun h41 => ?_)
    · skip
      refine tv_sub (lv1 := [(3, tm_i y), (1, tm_i m), (2, tm_i g), (0, .ref (E.2.1 74))]) [1, 2, 3, 4] rfl ?_
      refine hk9 _ (fun a ha => tm_rowf_f ha) (fun q j hj2 => ?_) (fun q => ?_)
      · have hin : k = dd_n d := by omega
        subst hin
        exact tm_rowf_in hj2
      · have hin : k = 0 := by omega
        subst hin
        rw [tm_rowf_0]
    · skip
      refine tv_iload_n (pc := 44) 1 C dX8_rowBy_44 rfl rfl ?_
      refine tv_iload_n (pc := 45) 2 C dX8_rowBy_45 rfl rfl ?_
      refine tv_icmp_le (pc := 46) 69 C dX8_rowBy_46 (by decide) (by omega) (by omega) (fun h46 => ?_) (fun h46 => ?_)
      · skip
        refine tv_sub (lv1 := [(3, tm_i y), (1, tm_i m), (2, tm_i g), (0, .ref (E.2.1 74))]) [1, 2, 3, 4] rfl ?_
        refine hk9 _ (fun a ha => tm_rowf_f ha) (fun q j hj2 => ?_) (fun q => ?_)
        · have hin : k = dd_n d := by omega
          subst hin
          exact tm_rowf_in hj2
        · have hin : k = 0 := by omega
          subst hin
          rw [tm_rowf_0]
      · skip
        refine tv_aload_n (pc := 49) 4 C dX8_rowBy_49 rfl rfl ?_
        refine tv_getr (pc := 50) (q := 93) C rfl rfl fl_X8_64 dX8_rowBy_50 ?_
        refine tv_iload (pc := 53) 0 C dX8_rowBy_53 rfl ?_
        refine tv_aload_n (pc := 55) 4 C dX8_rowBy_55 rfl rfl ?_
        refine tv_getr (pc := 56) (q := 86) C rfl rfl fl_X8_43 dX8_rowBy_56 ?_
        refine tv_iload (pc := 59) 0 C dX8_rowBy_59 rfl ?_
        refine tv_iald (pc := 61) (j := k) (z := n3 86 k) C rfl dX8_rowBy_61 (by omega) (by omega) (tm_rowf_k (by decide)) ?_
        refine tv_iast (pc := 62) (j := k) C rfl dX8_rowBy_62 (by omega) (by omega) ?_
        refine tv_iinc (pc := 63) 0 [(4, tm_i (x + 1)), (3, tm_i y), (1, tm_i m), (2, tm_i g), (0, .ref (E.2.1 74))] C dX8_rowBy_63 rfl (by decide) rfl ?_
        refine tv_goto (pc := 66) 35 C dX8_rowBy_66 (by decide) ?_
        refine tv_sub (lv1 := [(4, tm_i (x + 1)), (3, tm_i y), (1, tm_i m), (2, tm_i g), (0, .ref (E.2.1 74))]) [0, 1, 2, 3, 4] rfl ?_
        rw [tm_rowf_s rfl]
        exact ih (k + 1) (x + 1) (by omega) (by omega) (by omega) (by omega)
theorem l_rowBy {E : tm_Ev} {X : tm_X} (C : tm_C E X yX8_rowBy.cls cX8_rowBy 5 (some .int) 7) (μ d : tm_M) (hd : dd_ok d) (h8 : dd_n d ≤ 8) (hn0 : 0 < dd_n d) (post : Option Value → tm_M → Prop) (hpost : ∀ (ν : tm_M) (m : Int), rw_b d m (ν 93) → rf_m ν d → rf_r ν d → rf_F μ ν → post (some (tm_i m)) ν) : ∀ (f : Nat) (g m : Int) (ν : tm_M), (0 ≤ g ∧ g ≤ 1) → (-1 ≤ m ∧ m ≤ 72) → rf_R ν d → ((g = 1 ∧ bw_p d m (ν 93) (ν 86)) ∨ (g = 0 ∧ rw_b d m (ν 93))) → rf_F μ ν → ((g = 1 → 16777216 - rk_n (ν 86) (dd_n d) < (f : Int)) ∧ (g = 0 → 0 < (f : Int))) → tm_V E X (tm_Q E X post) 5 19 [(2, tm_i g), (1, tm_i m), (0, .ref (E.2.1 74))] [] ν := by
  intro f
  induction f with
  | zero => intro g m ν hg hm hR hB hF hf; exfalso; have q := (rk_8 h8 hR.2.2.2.2.2.2.2).2; omega
  | succ f ih =>
    intro g m ν hg hm hR hB hF hf
    have hrk := rk_8 h8 hR.2.2.2.2.2.2.2
    refine tv_iload_n (pc := 19) 0 C dX8_rowBy_19 rfl rfl ?_
    refine tv_if_eq (pc := 20) 88 C dX8_rowBy_20 (by decide) (by omega) (fun h20 => ?_) (fun h20 => ?_)
    · skip
      refine tv_iload_n (pc := 88) 1 C dX8_rowBy_88 rfl rfl ?_
      refine tv_iret (pc := 89) C dX8_rowBy_89 ?_
      rcases hB with q | q
      · exfalso; omega
      · exact hpost ν m q.2 hR.1 hR.2.1 hF
    · skip
      obtain ⟨hg1, hB⟩ : g = 1 ∧ bw_p d m (ν 93) (ν 86) := by
        rcases hB with q | q
        · exact q
        · exfalso; omega
      have hT := rf_R_T hd hR
      have hf1 := hf.1 hg1
      have hpr := rw_p_bd hd (ν 86)
      refine tv_aload_n (pc := 23) 2 C dX8_rowBy_23 rfl rfl ?_
      refine tv_callV (pc := 24) [] [] C (c8_runs E _ ν (rf_T_ok hT hd (dd_row_ok hd hR.2.2.2.2.2.2.2))) cv_X8_216 rfl rfl (by decide) rfl (Nat.le_of_ble_eq_true rfl) rfl dX8_rowBy_24 (tm_kv ?_)
      rintro n3 hr9
      obtain ⟨hT3, hN, hH, hG⟩ := rf_T_run hT (dd_row_ok hd hR.2.2.2.2.2.2.2) hr9
      clear hr9
      refine tv_aload_n (pc := 27) 2 C dX8_rowBy_27 rfl rfl ?_
      refine tv_callV (pc := 28) [] [] C (c8_paidNow E _ n3 d (sm_e (dd_row d (ν 86)) 40) hd hT3.2.1.2.1 (fun k hk => ⟨(hT3.2.1.2.2.2 k hk).2.2.1, (hT3.2.1.2.2.2 k hk).2.2.2⟩) hN.2.1 (sm_e_40 _)) cv_X8_231 rfl rfl (by decide) rfl (Nat.le_of_ble_eq_true rfl) rfl dX8_rowBy_28 (tm_kp ?_)
      refine tv_istore_n (pc := 31) [(3, tm_i (rw_p d (ν 86))), (2, tm_i g), (1, tm_i m), (0, .ref (E.2.1 74))] C dX8_rowBy_31 rfl (by decide) rfl ?_
      refine tv_iconst (pc := 32) C dX8_rowBy_32 ?_
      refine tv_istore (pc := 33) [(4, tm_i 0), (3, tm_i (rw_p d (ν 86))), (2, tm_i g), (1, tm_i m), (0, .ref (E.2.1 74))] C dX8_rowBy_33 (by decide) rfl ?_
      refine tv_sub (lv1 := [(4, tm_i 0), (3, tm_i (rw_p d (ν 86))), (1, tm_i m), (2, tm_i g), (0, .ref (E.2.1 74))]) [0, 1, 3, 2, 4] rfl ?_
      refine tv_mem (tm_rowf n3 93 0 (n3 86)) (tm_rowf_0 _ _ _).symm ?_
      refine l_rowBy1 C n3 d h8 hT3.2.1.2.1 _ m g (by omega) (by omega) _ ?_ (dd_n d + 1) 0 0 rfl (by omega) (by omega) (fun _ => rfl)
      intro κ k1 k2 k3
      have e86 : n3 86 = ν 86 := hH 86 (by omega) (by omega)
      have k86 : κ 86 = ν 86 := by rw [k1 86 (by omega), e86]
      refine tv_iload_n (pc := 69) 0 C dX8_rowBy_69 rfl rfl ?_
      refine tv_iload_n (pc := 70) 1 C dX8_rowBy_70 rfl rfl ?_
      refine tv_icmp_le (pc := 71) 78 C dX8_rowBy_71 (by decide) (by omega) (by omega) (fun h71 => ?_) (fun h71 => ?_)
      · skip
        refine tv_iload_n (pc := 78) 1 C dX8_rowBy_78 rfl rfl ?_
        refine tv_istore_n (pc := 79) [(1, tm_i m), (3, tm_i (rw_p d (ν 86))), (2, tm_i g), (0, .ref (E.2.1 74))] C dX8_rowBy_79 rfl (by decide) rfl ?_
        refine tv_aload_n (pc := 80) 3 C dX8_rowBy_80 rfl rfl ?_
        refine tv_callV (pc := 81) [] [] C (c8_nextRow E _ κ (dd_n d) (by rw [k1 74 (by omega), hG 17 (by omega)]; exact hR.2.2.2.2.1) (by omega) h8 (by rw [k86]; exact hR.2.2.2.2.2.2.2)) cv_X8_246 rfl rfl (by decide) rfl (Nat.le_of_ble_eq_true rfl) rfl dX8_rowBy_81 (tm_ki ?_)
        rintro zz n5 hz
        have hA : aw_p d m (κ 93) (ν 86) := aw_n hd hR.2.2.2.2.2.2.2 hB (by omega) (fun j hj => by rw [k3 (by omega), hH 93 (by omega) (by omega)])
        have hz01 : zz = 0 ∨ zz = 1 := by rcases hz with ⟨q, -⟩ | ⟨q, -⟩ <;> omega
        refine tv_istore_n (pc := 84) [(2, tm_i zz), (1, tm_i m), (3, tm_i (rw_p d (ν 86))), (0, .ref (E.2.1 74))] C dX8_rowBy_84 rfl (by decide) rfl ?_
        refine tv_goto (pc := 85) 19 C dX8_rowBy_85 (by decide) ?_
        refine tv_sub (lv1 := [(2, tm_i zz), (1, tm_i m), (0, .ref (E.2.1 74))]) [0, 1, 3] rfl ?_
        rcases hz with ⟨z0, z1, z2⟩ | ⟨z0, z1, z2⟩
        · subst z1
          rw [k86] at z2
          have hR5 : rf_R n5 d := rf_R_same hR (fun a h1 h2 => by rw [k1 a (by omega), hH a (by omega) (by omega)]) (fun b hb => by rw [k1 74 (by omega), hG b hb]) (by rw [k86]; exact hR.2.2.2.2.2.2.2)
          refine ih zz _ n5 (by omega) (by omega) hR5 (Or.inr ⟨by omega, bw_last hA hd z2 (fun j hj => rfl)⟩) (rf_F_t hF (fun a ha => by rw [k1 a (by omega), hH a (by omega) (by omega)]) (by rw [k1 74 (by omega), hG 35 (by omega)]) (by rw [k1 74 (by omega), hG 44 (by omega)])) ⟨fun q => by omega, fun _ => by omega⟩
        · rw [k86] at z2
          have hR5 : rf_R n5 d := rf_R_same hR (fun a h1 h2 => by rw [z1 a (by omega), k1 a (by omega), hH a (by omega) (by omega)]) (fun b hb => by rw [z1 74 (by omega), k1 74 (by omega), hG b hb]) z2.1
          have hrk := rk_up h8 hR.2.2.2.2.2.2.2 z2
          exact ih zz _ n5 (by omega) (by omega) hR5 (Or.inl ⟨by omega, bw_next hA hd z2 (fun j hj => by rw [z1 93 (by omega)])⟩) (rf_F_t hF (fun a ha => by rw [z1 a (by omega), k1 a (by omega), hH a (by omega) (by omega)]) (by rw [z1 74 (by omega), k1 74 (by omega), hG 35 (by omega)]) (by rw [z1 74 (by omega), k1 74 (by omega), hG 44 (by omega)])) ⟨fun _ => by omega, fun q => by omega⟩
      · skip
        refine tv_iload_n (pc := 74) 0 C dX8_rowBy_74 rfl rfl ?_
        refine tv_goto (pc := 75) 79 C dX8_rowBy_75 (by decide) ?_
        refine tv_istore_n (pc := 79) [(1, tm_i (rw_p d (ν 86))), (3, tm_i (rw_p d (ν 86))), (2, tm_i g), (0, .ref (E.2.1 74))] C dX8_rowBy_79 rfl (by decide) rfl ?_
        refine tv_aload_n (pc := 80) 3 C dX8_rowBy_80 rfl rfl ?_
        refine tv_callV (pc := 81) [] [] C (c8_nextRow E _ κ (dd_n d) (by rw [k1 74 (by omega), hG 17 (by omega)]; exact hR.2.2.2.2.1) (by omega) h8 (by rw [k86]; exact hR.2.2.2.2.2.2.2)) cv_X8_246 rfl rfl (by decide) rfl (Nat.le_of_ble_eq_true rfl) rfl dX8_rowBy_81 (tm_ki ?_)
        rintro zz n5 hz
        have hA : aw_p d (rw_p d (ν 86)) (κ 93) (ν 86) := aw_y hd hR.2.2.2.2.2.2.2 hB (by omega) (by rw [e86] at k2; exact k2 (by omega))
        have hz01 : zz = 0 ∨ zz = 1 := by rcases hz with ⟨q, -⟩ | ⟨q, -⟩ <;> omega
        refine tv_istore_n (pc := 84) [(2, tm_i zz), (1, tm_i (rw_p d (ν 86))), (3, tm_i (rw_p d (ν 86))), (0, .ref (E.2.1 74))] C dX8_rowBy_84 rfl (by decide) rfl ?_
        refine tv_goto (pc := 85) 19 C dX8_rowBy_85 (by decide) ?_
        refine tv_sub (lv1 := [(2, tm_i zz), (1, tm_i (rw_p d (ν 86))), (0, .ref (E.2.1 74))]) [0, 1, 3] rfl ?_
        rcases hz with ⟨z0, z1, z2⟩ | ⟨z0, z1, z2⟩
        · subst z1
          rw [k86] at z2
          have hR5 : rf_R n5 d := rf_R_same hR (fun a h1 h2 => by rw [k1 a (by omega), hH a (by omega) (by omega)]) (fun b hb => by rw [k1 74 (by omega), hG b hb]) (by rw [k86]; exact hR.2.2.2.2.2.2.2)
          refine ih zz _ n5 (by omega) (by omega) hR5 (Or.inr ⟨by omega, bw_last hA hd z2 (fun j hj => rfl)⟩) (rf_F_t hF (fun a ha => by rw [k1 a (by omega), hH a (by omega) (by omega)]) (by rw [k1 74 (by omega), hG 35 (by omega)]) (by rw [k1 74 (by omega), hG 44 (by omega)])) ⟨fun q => by omega, fun _ => by omega⟩
        · rw [k86] at z2
          have hR5 : rf_R n5 d := rf_R_same hR (fun a h1 h2 => by rw [z1 a (by omega), k1 a (by omega), hH a (by omega) (by omega)]) (fun b hb => by rw [z1 74 (by omega), k1 74 (by omega), hG b hb]) z2.1
          have hrk := rk_up h8 hR.2.2.2.2.2.2.2 z2
          exact ih zz _ n5 (by omega) (by omega) hR5 (Or.inl ⟨by omega, bw_next hA hd z2 (fun j hj => by rw [z1 93 (by omega)])⟩) (rf_F_t hF (fun a ha => by rw [z1 a (by omega), k1 a (by omega), hH a (by omega) (by omega)]) (by rw [z1 74 (by omega), k1 74 (by omega), hG 35 (by omega)]) (by rw [z1 74 (by omega), k1 74 (by omega), hG 44 (by omega)])) ⟨fun _ => by omega, fun q => by omega⟩
theorem k8_rowBy (E : tm_Ev) (l : Launch) (μ : tm_M) (d s : tm_M) (hd : dd_ok d) (hI : rf_I μ d s) : tm_Met E l yX8_rowBy cX8_rowBy 5 (some .int) 7 [.ref (E.2.1 74)] μ (tm_pi (fun z μ' => z = (if dd_n d = 0 then -1 else (rb_m d).1) ∧ (rf_I μ' d s ∧ ∀ j, j < dd_n d → μ' 93 j = (rb_m d).2 j) ∧ rf_r μ' d ∧ ∀ a, a < 74 → μ' a = μ a)) := by
  refine tm_intro [(0, .ref (E.2.1 74))] rfl (by decide +kernel) (Nat.le_of_ble_eq_true rfl) ?_
  intro X hX C
  subst hX
  have h8 : dd_n d ≤ 8 := sp_no_bd _ (by have q := hd.2.1; omega)
  refine tv_aload_n (pc := 0) 0 C dX8_rowBy_0 rfl rfl ?_
  refine tv_callV (pc := 1) [] [] C (c8_asTold E _ μ d hd hI.1) cv_X8_213 rfl rfl (by decide) rfl (Nat.le_of_ble_eq_true rfl) rfl dX8_rowBy_1 (tm_kv ?_)
  rintro n1 ⟨g1, g2, g3, g4⟩
  have hF0 := rf_F_g g4
  have hT0 := rf_T_t hd g1 g2 g3
  have h12 := g1.2.2.2.2.2.1
  have hn := g2.2.1
  refine tv_iconst (pc := 4) C dX8_rowBy_4 ?_
  refine tv_istore_n (pc := 5) [(1, tm_i (-1)), (0, .ref (E.2.1 74))] C dX8_rowBy_5 rfl (by decide) rfl ?_
  refine tv_aload_n (pc := 6) 1 C dX8_rowBy_6 rfl rfl ?_
  refine tv_geti (pc := 7) (z := (dd_n d : Int)) C rfl rfl fl_X8_114 dX8_rowBy_7 hn ?_
  refine tv_if_le (pc := 10) 17 C dX8_rowBy_10 (by decide) (by omega) (fun h10 => ?_) (fun h10 => ?_)
  · skip
    refine tv_iconst (pc := 17) C dX8_rowBy_17 ?_
    refine tv_istore_n (pc := 18) [(2, tm_i 0), (1, tm_i (-1)), (0, .ref (E.2.1 74))] C dX8_rowBy_18 rfl (by decide) rfl ?_
    refine tv_sub (lv1 := [(2, tm_i 0), (1, tm_i (-1)), (0, .ref (E.2.1 74))]) [0, 1, 2] rfl ?_
    refine tv_iload_n (pc := 19) 0 C dX8_rowBy_19 rfl rfl ?_
    refine tv_if_eq (pc := 20) 88 C dX8_rowBy_20 (by decide) (by omega) (fun _ => ?_) (fun q => absurd q (by decide))
    refine tv_iload_n (pc := 88) 1 C dX8_rowBy_88 rfl rfl ?_
    refine tv_iret (pc := 89) C dX8_rowBy_89 ?_
    exact ⟨_, rfl, by rw [if_pos (by omega)], ⟨rf_I_F hI g1 hF0, fun j hj => by omega⟩, g2, fun a ha => hF0.1 a (Or.inl ha)⟩
  · skip
    refine tv_iconst (pc := 13) C dX8_rowBy_13 ?_
    refine tv_goto (pc := 14) 18 C dX8_rowBy_14 (by decide) ?_
    refine tv_istore_n (pc := 18) [(2, tm_i 1), (1, tm_i (-1)), (0, .ref (E.2.1 74))] C dX8_rowBy_18 rfl (by decide) rfl ?_
    refine tv_sub (lv1 := [(2, tm_i 1), (1, tm_i (-1)), (0, .ref (E.2.1 74))]) [0, 1, 2] rfl ?_
    obtain ⟨hR, hid⟩ := rf_R_t g1 g2 g3
    have hrk := (rk_8 h8 hR.2.2.2.2.2.2.2).1
    exact l_rowBy C μ d hd h8 (by omega) _ (fun ν m q1 q2 q3 q4 => ⟨_, rfl, by rw [if_neg (by omega)]; exact (rb_eq q1).1, ⟨rf_I_F hI q2 q4, fun j hj => (rb_eq q1).2 j hj⟩, q3, fun a ha => q4.1 a (Or.inl ha)⟩) 16777218 1 (-1) n1 (by omega) (by omega) hR (Or.inl ⟨rfl, Or.inl ⟨rfl, fun v hv hl => pm_first hv (lt_congr hl (fun j hj => (hid j hj).symm))⟩⟩) hF0 ⟨fun _ => by omega, fun q => by omega⟩
theorem k8_rowOf (E : tm_Ev) (l : Launch) (μ : tm_M) (d s : tm_M) (hd : dd_ok d) (hI : rf_I μ d s) (w : Int) (hw : 0 ≤ w ∧ w ≤ 8) : tm_Met E l yX8_rowOf cX8_rowOf 3 (some .int) 8 [.ref (E.2.1 74), tm_i w] μ (tm_pi (fun z μ' => z = ro_z d w ∧ rf_I μ' d s ∧ rf_r μ' d ∧ ∀ a, a < 74 → μ' a = μ a)) := by
  refine tm_intro [(0, .ref (E.2.1 74)), (1, tm_i w)] rfl (by decide +kernel) (Nat.le_of_ble_eq_true rfl) ?_
  intro X hX C
  subst hX
  have h8 : dd_n d ≤ 8 := sp_no_bd _ (by have q := hd.2.1; omega)
  refine tv_aload_n (pc := 0) 0 C dX8_rowOf_0 rfl rfl ?_
  refine tv_callV (pc := 1) [] [] C (k8_rowBy E _ μ d s hd hI) cv_X8_250 rfl rfl (by decide) rfl (Nat.le_of_ble_eq_true rfl) rfl dX8_rowOf_1 (tm_ki ?_)
  rintro zz n1 ⟨hz, ⟨hI1, hbr⟩, g2, fr1⟩
  have hn := g2.2.1
  refine tv_istore_n (pc := 4) [(2, tm_i zz), (0, .ref (E.2.1 74)), (1, tm_i w)] C dX8_rowOf_4 rfl (by decide) rfl ?_
  refine tv_iload_n (pc := 5) 2 C dX8_rowOf_5 rfl rfl ?_
  refine tv_if_ne (pc := 6) 13 C dX8_rowOf_6 (by decide) (by omega) (fun h6 => ?_) (fun h6 => ?_)
  · skip
    refine tv_iload_n (pc := 13) 2 C dX8_rowOf_13 rfl rfl ?_
    refine tv_iconst (pc := 14) C dX8_rowOf_14 ?_
    refine tv_isub (pc := 15) C dX8_rowOf_15 ?_
    refine tv_aload_n (pc := 16) 1 C dX8_rowOf_16 rfl rfl ?_
    refine tv_geti (pc := 17) (z := (dd_n d : Int)) C rfl rfl fl_X8_114 dX8_rowOf_17 hn ?_
    refine tv_icmp_ge (pc := 20) 34 C dX8_rowOf_20 (by decide) (by omega) (by omega) (fun h20 => ?_) (fun h20 => ?_)
    · skip
      refine tv_iconst (pc := 34) C dX8_rowOf_34 ?_
      refine tv_iret (pc := 35) C dX8_rowOf_35 ?_
      exact ⟨_, rfl, by unfold ro_z; rw [if_pos (by omega), if_pos (by omega)], hI1, g2, fr1⟩
    · skip
      refine tv_aload_n (pc := 23) 1 C dX8_rowOf_23 rfl rfl ?_
      refine tv_getr (pc := 24) (q := 93) C rfl rfl fl_X8_64 dX8_rowOf_24 ?_
      refine tv_iload_n (pc := 27) 2 C dX8_rowOf_27 rfl rfl ?_
      refine tv_iconst (pc := 28) C dX8_rowOf_28 ?_
      refine tv_isub (pc := 29) C dX8_rowOf_29 ?_
      refine tv_iald (pc := 30) (j := (w - 1).toNat) (z := n1 93 ((w - 1).toNat)) C rfl dX8_rowOf_30 (by omega) rfl rfl ?_
      refine tv_goto (pc := 31) 35 C dX8_rowOf_31 (by decide) ?_
      refine tv_iret (pc := 35) C dX8_rowOf_35 ?_
      exact ⟨_, rfl, by unfold ro_z; rw [if_pos (by omega), if_neg (by omega), if_neg (by omega)]; exact hbr _ (by omega), hI1, g2, fr1⟩
  · skip
    refine tv_iload_n (pc := 9) 0 C dX8_rowOf_9 rfl rfl ?_
    refine tv_goto (pc := 10) 35 C dX8_rowOf_10 (by decide) ?_
    refine tv_iret (pc := 35) C dX8_rowOf_35 ?_
    refine ⟨_, rfl, ?_, hI1, g2, fr1⟩
    rw [hz]
    unfold ro_z
    by_cases hc : dd_n d = 0
    · rw [if_pos hc, if_pos (by omega), if_pos (by omega)]
    · rw [if_neg hc, if_pos (by omega), if_neg (by omega), if_pos (by omega)]
theorem k8_row (E : tm_Ev) (l : Launch) (μ : tm_M) (d s : tm_M) (hd : dd_ok d) (hI : rf_I μ d s) (w : Int) (hw : -2147483648 ≤ w ∧ w ≤ 2147483647) : tm_Met E l yX8_row cX8_row 2 (some .int) 9 [.ref (E.2.1 74), tm_i w] μ (tm_pi (fun z μ' => z = ro_z d w ∧ rf_I μ' d s ∧ ∀ a, a < 74 → μ' a = μ a)) := by
  refine tm_intro [(0, .ref (E.2.1 74)), (1, tm_i w)] rfl (by decide +kernel) (Nat.le_of_ble_eq_true rfl) ?_
  intro X hX C
  subst hX
  refine tv_iload_n (pc := 0) 1 C dX8_row_0 rfl rfl ?_
  refine tv_iconst (pc := 1) C dX8_row_1 ?_
  refine tv_bipush (pc := 2) C dX8_row_2 (by decide) ?_
  refine tv_callS (pc := 4) [tm_i w, tm_i 0, tm_i 8] [] C (c8_in E _ μ w 0 8 (by omega) (by omega) (by omega)) cs_X8_94 (by decide) rfl (Nat.le_of_ble_eq_true rfl) rfl dX8_row_4 (tm_kp ?_)
  refine tv_ifeqB (pc := 7) 18 C dX8_row_7 (by decide) (fun h7 => ?_) (fun h7 => ?_)
  · skip
    refine tv_bipush (pc := 18) C dX8_row_18 (by decide) ?_
    refine tv_iret (pc := 20) C dX8_row_20 ?_
    exact ⟨_, rfl, by unfold ro_z; rw [if_neg (by omega)], hI, fun a _ => rfl⟩
  · skip
    refine tv_aload_n (pc := 10) 0 C dX8_row_10 rfl rfl ?_
    refine tv_iload_n (pc := 11) 1 C dX8_row_11 rfl rfl ?_
    refine tv_callV (pc := 12) [tm_i w] [] C (k8_rowOf E _ μ d s hd hI w (by omega)) cv_X8_253 rfl rfl (by decide) rfl (Nat.le_of_ble_eq_true rfl) rfl dX8_row_12 (tm_ki ?_)
    rintro zz n1 ⟨hz, hI1, g2, fr1⟩
    refine tv_goto (pc := 15) 20 C dX8_row_15 (by decide) ?_
    refine tv_iret (pc := 20) C dX8_row_20 ?_
    exact ⟨_, rfl, hz, hI1, fr1⟩
