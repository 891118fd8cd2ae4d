theorem sm_g_in {p : tm_M} {q : Nat} (hp : sm_ok p) (hq : (q : Int) < p 5 0) : sm_g p q = p 6 (p 4 q).toNat := by
  rcases sm_f_cases hp q with ⟨a, b, c⟩ | ⟨a, b, c⟩
  · exact c
  · omega
set_option maxHeartbeats 4000000 in
theorem c8_grinds (E : tm_Ev) (l : Launch) (μ : tm_M) (h q k : Nat) (z w t i0 l0 l2 sea hd sh g rm : Int) (hh : h < 40) (hq : μ 74 26 = (q : Int)) (hk : μ 86 q = (k : Int)) (hg : μ 78 k = g) (hhd : μ 82 3 = hd) (hsh : μ 82 4 = sh) (hw : μ 74 22 = w) (hz : μ 74 21 = z) (hse : μ 85 h = sea) (hi : μ 74 25 = i0) (ht : μ 74 23 = t) (hl : μ 74 27 = l0) (hr : μ 74 17 = rm) (bq : q < 8) (bk : k < 8) (bg : 0 ≤ g ∧ g ≤ 2) (bhd : 0 ≤ hd ∧ hd ≤ 9) (bsh : 1 ≤ sh ∧ sh ≤ 9) (bw : 0 ≤ w ∧ w ≤ 1000) (bz : 0 ≤ z ∧ z ≤ 20) (bs : 0 ≤ sea ∧ sea ≤ 18) (bl : -1000 ≤ l0 ∧ l0 ≤ 1000) (br : 0 ≤ rm ∧ rm ≤ 8) (hn : (q : Int) + 1 < rm → (0 ≤ μ 86 (q + 1) ∧ μ 86 (q + 1) ≤ 7) ∧ μ 79 (μ 86 (q + 1)).toNat = l2) : tm_Met E l yX8_grinds cX8_grinds 5 none 0 [.ref (E.2.1 74), tm_i (h : Int)] μ (tm_pv (fun μ' => (z - sea < hd + (2 - g) + w / sh → μ' = (tm_up (tm_up (tm_up μ 89 h (k : Int)) 90 h 1) 74 25 (i0 + 1))) ∧ (hd + (2 - g) + w / sh ≤ z - sea ∧ ¬ l0 - 1 = 0 → μ' = (tm_up (tm_up (tm_up (tm_up (tm_up μ 89 h (k : Int)) 74 21 (max (z - (3 - g)) 0)) 74 22 (w + 1)) 74 23 (t + 1)) 74 27 (l0 - 1))) ∧ (hd + (2 - g) + w / sh ≤ z - sea ∧ l0 - 1 = 0 → μ' = (tm_up (tm_up (tm_up (tm_up (tm_up (tm_up (tm_up μ 89 h (k : Int)) 74 21 (max (z - (3 - g)) 0)) 74 22 (w + 1)) 74 23 (t + 1)) 74 27 (if (q : Int) + 1 < rm then l2 else 0)) 92 k (h : Int)) 74 26 ((q : Int) + 1))))) := by
  refine tm_intro [(0, .ref (E.2.1 74)), (1, tm_i (h : Int))] rfl (by decide +kernel) (Nat.le_of_ble_eq_true rfl) ?_
  intro X hX C
  have hdv : 0 ≤ w / sh ∧ w / sh ≤ 1000 := ⟨Int.ediv_nonneg bw.1 (by omega), Int.le_trans (Int.ediv_le_self _ bw.1) bw.2⟩
  subst hX
  refine tv_aload_n (pc := 0) 0 C dX8_grinds_0 rfl rfl ?_
  refine tv_getr (pc := 1) (q := 86) C rfl rfl fl_X8_43 dX8_grinds_1 ?_
  refine tv_aload_n (pc := 4) 0 C dX8_grinds_4 rfl rfl ?_
  refine tv_geti (pc := 5) (z := (q : Int)) C rfl rfl fl_X8_185 dX8_grinds_5 hq ?_
  refine tv_iald (pc := 8) (j := q) (z := (k : Int)) C rfl dX8_grinds_8 (by omega) (by omega) hk ?_
  refine tv_istore_n (pc := 9) [(2, tm_i (k : Int)), (0, .ref (E.2.1 74)), (1, tm_i (h : Int))] C dX8_grinds_9 rfl (by decide) rfl ?_
  refine tv_aload_n (pc := 10) 1 C dX8_grinds_10 rfl rfl ?_
  refine tv_getr (pc := 11) (q := 82) C rfl rfl fl_X8_31 dX8_grinds_11 ?_
  refine tv_iconst (pc := 14) C dX8_grinds_14 ?_
  refine tv_iald (pc := 15) (j := 3) (z := hd) C rfl dX8_grinds_15 (by omega) rfl hhd ?_
  refine tv_iconst (pc := 16) C dX8_grinds_16 ?_
  refine tv_aload_n (pc := 17) 1 C dX8_grinds_17 rfl rfl ?_
  refine tv_getr (pc := 18) (q := 78) C rfl rfl fl_X8_19 dX8_grinds_18 ?_
  refine tv_iload_n (pc := 21) 0 C dX8_grinds_21 rfl rfl ?_
  refine tv_iald (pc := 22) (j := k) (z := g) C rfl dX8_grinds_22 (by omega) (by omega) hg ?_
  refine tv_isub (pc := 23) C dX8_grinds_23 ?_
  refine tv_iadd (pc := 24) C dX8_grinds_24 ?_
  refine tv_aload_n (pc := 25) 1 C dX8_grinds_25 rfl rfl ?_
  refine tv_geti (pc := 26) (z := w) C rfl rfl fl_X8_188 dX8_grinds_26 hw ?_
  refine tv_aload_n (pc := 29) 1 C dX8_grinds_29 rfl rfl ?_
  refine tv_getr (pc := 30) (q := 82) C rfl rfl fl_X8_31 dX8_grinds_30 ?_
  refine tv_iconst (pc := 33) C dX8_grinds_33 ?_
  refine tv_iald (pc := 34) (j := 4) (z := sh) C rfl dX8_grinds_34 (by omega) rfl hsh ?_
  refine tv_idiv (pc := 35) C dX8_grinds_35 (by omega) (by omega) ?_
  refine tv_iadd (pc := 36) C dX8_grinds_36 ?_
  refine tv_istore_n (pc := 37) [(3, tm_i ((hd + (2 - g)) + (w / sh))), (2, tm_i (k : Int)), (0, .ref (E.2.1 74)), (1, tm_i (h : Int))] C dX8_grinds_37 rfl (by decide) rfl ?_
  refine tv_aload_n (pc := 38) 2 C dX8_grinds_38 rfl rfl ?_
  refine tv_getr (pc := 39) (q := 89) C rfl rfl fl_X8_52 dX8_grinds_39 ?_
  refine tv_iload_n (pc := 42) 3 C dX8_grinds_42 rfl rfl ?_
  refine tv_iload_n (pc := 43) 1 C dX8_grinds_43 rfl rfl ?_
  refine tv_iast (pc := 44) (j := h) C rfl dX8_grinds_44 (by omega) (by omega) ?_
  refine tv_aload_n (pc := 45) 2 C dX8_grinds_45 rfl rfl ?_
  refine tv_geti (pc := 46) (z := z) C rfl rfl fl_X8_176 dX8_grinds_46 ((tm_uk (by decide)).trans (hz)) ?_
  refine tv_aload_n (pc := 49) 2 C dX8_grinds_49 rfl rfl ?_
  refine tv_getr (pc := 50) (q := 85) C rfl rfl fl_X8_40 dX8_grinds_50 ?_
  refine tv_iload_n (pc := 53) 3 C dX8_grinds_53 rfl rfl ?_
  refine tv_iald (pc := 54) (j := h) (z := sea) C rfl dX8_grinds_54 (by omega) (by omega) ((tm_uk (by decide)).trans (hse)) ?_
  refine tv_isub (pc := 55) C dX8_grinds_55 ?_
  refine tv_iload_n (pc := 56) 0 C dX8_grinds_56 rfl rfl ?_
  refine tv_icmp_ge (pc := 57) 78 C dX8_grinds_57 (by decide) (by omega) (by omega) (fun h57 => ?_) (fun h57 => ?_)
  · skip
    refine tv_iconst (pc := 78) C dX8_grinds_78 ?_
    refine tv_aload_n (pc := 79) 2 C dX8_grinds_79 rfl rfl ?_
    refine tv_getr (pc := 80) (q := 78) C rfl rfl fl_X8_19 dX8_grinds_80 ?_
    refine tv_iload_n (pc := 83) 1 C dX8_grinds_83 rfl rfl ?_
    refine tv_iald (pc := 84) (j := k) (z := g) C rfl dX8_grinds_84 (by omega) (by omega) ((tm_uk (by decide)).trans (hg)) ?_
    refine tv_isub (pc := 85) C dX8_grinds_85 ?_
    refine tv_istore (pc := 86) [(4, tm_i (3 - g)), (3, tm_i ((hd + (2 - g)) + (w / sh))), (2, tm_i (k : Int)), (0, .ref (E.2.1 74)), (1, tm_i (h : Int))] C dX8_grinds_86 (by decide) rfl ?_
    refine tv_aload_n (pc := 88) 3 C dX8_grinds_88 rfl rfl ?_
    refine tv_aload_n (pc := 89) 3 C dX8_grinds_89 rfl rfl ?_
    refine tv_geti (pc := 90) (z := z) C rfl rfl fl_X8_176 dX8_grinds_90 ((tm_uk (by decide)).trans (hz)) ?_
    refine tv_iload (pc := 93) 0 C dX8_grinds_93 rfl ?_
    refine tv_icmp_le (pc := 95) 108 C dX8_grinds_95 (by decide) (by omega) (by omega) (fun h95 => ?_) (fun h95 => ?_)
    · skip
      refine tv_iconst (pc := 108) C dX8_grinds_108 ?_
      refine tv_top (max (z - (3 - g)) 0) (by omega) ?_
      refine tv_puti (pc := 109) C rfl rfl fp_X8_176 dX8_grinds_109 ?_
      refine tv_aload_n (pc := 112) 3 C dX8_grinds_112 rfl rfl ?_
      refine tv_dup (pc := 113) C dX8_grinds_113 rfl ?_
      refine tv_geti (pc := 114) (z := w) C rfl rfl fl_X8_188 dX8_grinds_114 ((tm_uj (by decide)).trans ((tm_uk (by decide)).trans (hw))) ?_
      refine tv_iconst (pc := 117) C dX8_grinds_117 ?_
      refine tv_iadd (pc := 118) C dX8_grinds_118 ?_
      refine tv_puti (pc := 119) C rfl rfl fp_X8_188 dX8_grinds_119 ?_
      refine tv_aload_n (pc := 122) 3 C dX8_grinds_122 rfl rfl ?_
      refine tv_dup (pc := 123) C dX8_grinds_123 rfl ?_
      refine tv_geti (pc := 124) (z := t) C rfl rfl fl_X8_194 dX8_grinds_124 ((tm_uj (by decide)).trans ((tm_uj (by decide)).trans ((tm_uk (by decide)).trans (ht)))) ?_
      refine tv_iconst (pc := 127) C dX8_grinds_127 ?_
      refine tv_iadd (pc := 128) C dX8_grinds_128 ?_
      refine tv_puti (pc := 129) C rfl rfl fp_X8_194 dX8_grinds_129 ?_
      refine tv_aload_n (pc := 132) 3 C dX8_grinds_132 rfl rfl ?_
      refine tv_dup (pc := 133) C dX8_grinds_133 rfl ?_
      refine tv_geti (pc := 134) (z := l0) C rfl rfl fl_X8_197 dX8_grinds_134 ((tm_uj (by decide)).trans ((tm_uj (by decide)).trans ((tm_uj (by decide)).trans ((tm_uk (by decide)).trans (hl))))) ?_
      refine tv_iconst (pc := 137) C dX8_grinds_137 ?_
      refine tv_isub (pc := 138) C dX8_grinds_138 ?_
      refine tv_puti (pc := 139) C rfl rfl fp_X8_197 dX8_grinds_139 ?_
      refine tv_aload_n (pc := 142) 3 C dX8_grinds_142 rfl rfl ?_
      refine tv_geti (pc := 143) (z := l0 - 1) C rfl rfl fl_X8_197 dX8_grinds_143 tm_us ?_
      refine tv_if_ne (pc := 146) 199 C dX8_grinds_146 (by decide) (by omega) (fun h146 => ?_) (fun h146 => ?_)
      · skip
        refine tv_vret (pc := 199) C dX8_grinds_199 ?_
        refine ⟨rfl, ?_, ?_, ?_⟩ <;> intro hc <;> first | rfl | (exfalso; omega)
      · skip
        refine tv_aload_n (pc := 149) 3 C dX8_grinds_149 rfl rfl ?_
        refine tv_getr (pc := 150) (q := 92) C rfl rfl fl_X8_61 dX8_grinds_150 ?_
        refine tv_iload_n (pc := 153) 2 C dX8_grinds_153 rfl rfl ?_
        refine tv_iload_n (pc := 154) 4 C dX8_grinds_154 rfl rfl ?_
        refine tv_iast (pc := 155) (j := k) C rfl dX8_grinds_155 (by omega) (by omega) ?_
        refine tv_aload_n (pc := 156) 3 C dX8_grinds_156 rfl rfl ?_
        refine tv_dup (pc := 157) C dX8_grinds_157 rfl ?_
        refine tv_geti (pc := 158) (z := (q : Int)) C rfl rfl fl_X8_185 dX8_grinds_158 ((tm_uk (by decide)).trans ((tm_uj (by decide)).trans ((tm_uj (by decide)).trans ((tm_uj (by decide)).trans ((tm_uj (by decide)).trans ((tm_uk (by decide)).trans (hq))))))) ?_
        refine tv_iconst (pc := 161) C dX8_grinds_161 ?_
        refine tv_iadd (pc := 162) C dX8_grinds_162 ?_
        refine tv_puti (pc := 163) C rfl rfl fp_X8_185 dX8_grinds_163 ?_
        refine tv_aload_n (pc := 166) 3 C dX8_grinds_166 rfl rfl ?_
        refine tv_aload_n (pc := 167) 3 C dX8_grinds_167 rfl rfl ?_
        refine tv_geti (pc := 168) (z := (q : Int) + 1) C rfl rfl fl_X8_185 dX8_grinds_168 tm_us ?_
        refine tv_aload_n (pc := 171) 3 C dX8_grinds_171 rfl rfl ?_
        refine tv_geti (pc := 172) (z := rm) C rfl rfl fl_X8_167 dX8_grinds_172 ((tm_uj (by decide)).trans ((tm_uk (by decide)).trans ((tm_uj (by decide)).trans ((tm_uj (by decide)).trans ((tm_uj (by decide)).trans ((tm_uj (by decide)).trans ((tm_uk (by decide)).trans (hr)))))))) ?_
        refine tv_icmp_ge (pc := 175) 195 C dX8_grinds_175 (by decide) (by omega) (by omega) (fun h175 => ?_) (fun h175 => ?_)
        · skip
          refine tv_iconst (pc := 195) C dX8_grinds_195 ?_
          refine tv_top (if (q : Int) + 1 < rm then l2 else 0) (by rw [if_neg (by omega)]) ?_
          refine tv_puti (pc := 196) C rfl rfl fp_X8_197 dX8_grinds_196 ?_
          refine tv_mem (tm_up (tm_up (tm_up (tm_up (tm_up (tm_up (tm_up μ 89 h (k : Int)) 74 21 (max (z - (3 - g)) 0)) 74 22 (w + 1)) 74 23 (t + 1)) 74 27 (if (q : Int) + 1 < rm then l2 else 0)) 92 k (h : Int)) 74 26 ((q : Int) + 1)) ((tm_uc (Or.inr (by decide))).trans (congrArg (fun m => tm_up m 74 26 ((q : Int) + 1)) ((tm_uc (Or.inl (by decide))).trans (congrArg (fun m => tm_up m 92 k (h : Int)) tm_uu)))) ?_
          refine tv_vret (pc := 199) C dX8_grinds_199 ?_
          refine ⟨rfl, ?_, ?_, ?_⟩ <;> intro hc <;> first | rfl | (exfalso; omega)
        · skip
          have hn2 := (hn (by omega)).1
          refine tv_aload_n (pc := 178) 3 C dX8_grinds_178 rfl rfl ?_
          refine tv_getr (pc := 179) (q := 79) C rfl rfl fl_X8_22 dX8_grinds_179 ?_
          refine tv_aload_n (pc := 182) 3 C dX8_grinds_182 rfl rfl ?_
          refine tv_getr (pc := 183) (q := 86) C rfl rfl fl_X8_43 dX8_grinds_183 ?_
          refine tv_aload_n (pc := 186) 3 C dX8_grinds_186 rfl rfl ?_
          refine tv_geti (pc := 187) (z := (q : Int) + 1) C rfl rfl fl_X8_185 dX8_grinds_187 tm_us ?_
          refine tv_iald (pc := 190) (j := (q + 1)) (z := μ 86 (q + 1)) C rfl dX8_grinds_190 (by omega) (by omega) ((tm_uk (by decide)).trans ((tm_uk (by decide)).trans ((tm_uk (by decide)).trans ((tm_uk (by decide)).trans ((tm_uk (by decide)).trans ((tm_uk (by decide)).trans ((tm_uk (by decide)).trans (rfl)))))))) ?_
          refine tv_iald (pc := 191) (j := (μ 86 (q + 1)).toNat) (z := μ 79 ((μ 86 (q + 1)).toNat)) C rfl dX8_grinds_191 (by omega) rfl ((tm_uk (by decide)).trans ((tm_uk (by decide)).trans ((tm_uk (by decide)).trans ((tm_uk (by decide)).trans ((tm_uk (by decide)).trans ((tm_uk (by decide)).trans ((tm_uk (by decide)).trans (rfl)))))))) ?_
          refine tv_goto (pc := 192) 196 C dX8_grinds_192 (by decide) ?_
          refine tv_top (if (q : Int) + 1 < rm then l2 else 0) (by rw [if_pos (by omega)]; exact (hn (by omega)).2) ?_
          refine tv_puti (pc := 196) C rfl rfl fp_X8_197 dX8_grinds_196 ?_
          refine tv_mem (tm_up (tm_up (tm_up (tm_up (tm_up (tm_up (tm_up μ 89 h (k : Int)) 74 21 (max (z - (3 - g)) 0)) 74 22 (w + 1)) 74 23 (t + 1)) 74 27 (if (q : Int) + 1 < rm then l2 else 0)) 92 k (h : Int)) 74 26 ((q : Int) + 1)) ((tm_uc (Or.inr (by decide))).trans (congrArg (fun m => tm_up m 74 26 ((q : Int) + 1)) ((tm_uc (Or.inl (by decide))).trans (congrArg (fun m => tm_up m 92 k (h : Int)) tm_uu)))) ?_
          refine tv_vret (pc := 199) C dX8_grinds_199 ?_
          refine ⟨rfl, ?_, ?_, ?_⟩ <;> intro hc <;> first | rfl | (exfalso; omega)
    · skip
      refine tv_aload_n (pc := 98) 3 C dX8_grinds_98 rfl rfl ?_
      refine tv_geti (pc := 99) (z := z) C rfl rfl fl_X8_176 dX8_grinds_99 ((tm_uk (by decide)).trans (hz)) ?_
      refine tv_iload (pc := 102) 0 C dX8_grinds_102 rfl ?_
      refine tv_isub (pc := 104) C dX8_grinds_104 ?_
      refine tv_goto (pc := 105) 109 C dX8_grinds_105 (by decide) ?_
      refine tv_top (max (z - (3 - g)) 0) (by omega) ?_
      refine tv_puti (pc := 109) C rfl rfl fp_X8_176 dX8_grinds_109 ?_
      refine tv_aload_n (pc := 112) 3 C dX8_grinds_112 rfl rfl ?_
      refine tv_dup (pc := 113) C dX8_grinds_113 rfl ?_
      refine tv_geti (pc := 114) (z := w) C rfl rfl fl_X8_188 dX8_grinds_114 ((tm_uj (by decide)).trans ((tm_uk (by decide)).trans (hw))) ?_
      refine tv_iconst (pc := 117) C dX8_grinds_117 ?_
      refine tv_iadd (pc := 118) C dX8_grinds_118 ?_
      refine tv_puti (pc := 119) C rfl rfl fp_X8_188 dX8_grinds_119 ?_
      refine tv_aload_n (pc := 122) 3 C dX8_grinds_122 rfl rfl ?_
      refine tv_dup (pc := 123) C dX8_grinds_123 rfl ?_
      refine tv_geti (pc := 124) (z := t) C rfl rfl fl_X8_194 dX8_grinds_124 ((tm_uj (by decide)).trans ((tm_uj (by decide)).trans ((tm_uk (by decide)).trans (ht)))) ?_
      refine tv_iconst (pc := 127) C dX8_grinds_127 ?_
      refine tv_iadd (pc := 128) C dX8_grinds_128 ?_
      refine tv_puti (pc := 129) C rfl rfl fp_X8_194 dX8_grinds_129 ?_
      refine tv_aload_n (pc := 132) 3 C dX8_grinds_132 rfl rfl ?_
      refine tv_dup (pc := 133) C dX8_grinds_133 rfl ?_
      refine tv_geti (pc := 134) (z := l0) C rfl rfl fl_X8_197 dX8_grinds_134 ((tm_uj (by decide)).trans ((tm_uj (by decide)).trans ((tm_uj (by decide)).trans ((tm_uk (by decide)).trans (hl))))) ?_
      refine tv_iconst (pc := 137) C dX8_grinds_137 ?_
      refine tv_isub (pc := 138) C dX8_grinds_138 ?_
      refine tv_puti (pc := 139) C rfl rfl fp_X8_197 dX8_grinds_139 ?_
      refine tv_aload_n (pc := 142) 3 C dX8_grinds_142 rfl rfl ?_
      refine tv_geti (pc := 143) (z := l0 - 1) C rfl rfl fl_X8_197 dX8_grinds_143 tm_us ?_
      refine tv_if_ne (pc := 146) 199 C dX8_grinds_146 (by decide) (by omega) (fun h146 => ?_) (fun h146 => ?_)
      · skip
        refine tv_vret (pc := 199) C dX8_grinds_199 ?_
        refine ⟨rfl, ?_, ?_, ?_⟩ <;> intro hc <;> first | rfl | (exfalso; omega)
      · skip
        refine tv_aload_n (pc := 149) 3 C dX8_grinds_149 rfl rfl ?_
        refine tv_getr (pc := 150) (q := 92) C rfl rfl fl_X8_61 dX8_grinds_150 ?_
        refine tv_iload_n (pc := 153) 2 C dX8_grinds_153 rfl rfl ?_
        refine tv_iload_n (pc := 154) 4 C dX8_grinds_154 rfl rfl ?_
        refine tv_iast (pc := 155) (j := k) C rfl dX8_grinds_155 (by omega) (by omega) ?_
        refine tv_aload_n (pc := 156) 3 C dX8_grinds_156 rfl rfl ?_
        refine tv_dup (pc := 157) C dX8_grinds_157 rfl ?_
        refine tv_geti (pc := 158) (z := (q : Int)) C rfl rfl fl_X8_185 dX8_grinds_158 ((tm_uk (by decide)).trans ((tm_uj (by decide)).trans ((tm_uj (by decide)).trans ((tm_uj (by decide)).trans ((tm_uj (by decide)).trans ((tm_uk (by decide)).trans (hq))))))) ?_
        refine tv_iconst (pc := 161) C dX8_grinds_161 ?_
        refine tv_iadd (pc := 162) C dX8_grinds_162 ?_
        refine tv_puti (pc := 163) C rfl rfl fp_X8_185 dX8_grinds_163 ?_
        refine tv_aload_n (pc := 166) 3 C dX8_grinds_166 rfl rfl ?_
        refine tv_aload_n (pc := 167) 3 C dX8_grinds_167 rfl rfl ?_
        refine tv_geti (pc := 168) (z := (q : Int) + 1) C rfl rfl fl_X8_185 dX8_grinds_168 tm_us ?_
        refine tv_aload_n (pc := 171) 3 C dX8_grinds_171 rfl rfl ?_
        refine tv_geti (pc := 172) (z := rm) C rfl rfl fl_X8_167 dX8_grinds_172 ((tm_uj (by decide)).trans ((tm_uk (by decide)).trans ((tm_uj (by decide)).trans ((tm_uj (by decide)).trans ((tm_uj (by decide)).trans ((tm_uj (by decide)).trans ((tm_uk (by decide)).trans (hr)))))))) ?_
        refine tv_icmp_ge (pc := 175) 195 C dX8_grinds_175 (by decide) (by omega) (by omega) (fun h175 => ?_) (fun h175 => ?_)
        · skip
          refine tv_iconst (pc := 195) C dX8_grinds_195 ?_
          refine tv_top (if (q : Int) + 1 < rm then l2 else 0) (by rw [if_neg (by omega)]) ?_
          refine tv_puti (pc := 196) C rfl rfl fp_X8_197 dX8_grinds_196 ?_
          refine tv_mem (tm_up (tm_up (tm_up (tm_up (tm_up (tm_up (tm_up μ 89 h (k : Int)) 74 21 (max (z - (3 - g)) 0)) 74 22 (w + 1)) 74 23 (t + 1)) 74 27 (if (q : Int) + 1 < rm then l2 else 0)) 92 k (h : Int)) 74 26 ((q : Int) + 1)) ((tm_uc (Or.inr (by decide))).trans (congrArg (fun m => tm_up m 74 26 ((q : Int) + 1)) ((tm_uc (Or.inl (by decide))).trans (congrArg (fun m => tm_up m 92 k (h : Int)) tm_uu)))) ?_
          refine tv_vret (pc := 199) C dX8_grinds_199 ?_
          refine ⟨rfl, ?_, ?_, ?_⟩ <;> intro hc <;> first | rfl | (exfalso; omega)
        · skip
          have hn2 := (hn (by omega)).1
          refine tv_aload_n (pc := 178) 3 C dX8_grinds_178 rfl rfl ?_
          refine tv_getr (pc := 179) (q := 79) C rfl rfl fl_X8_22 dX8_grinds_179 ?_
          refine tv_aload_n (pc := 182) 3 C dX8_grinds_182 rfl rfl ?_
          refine tv_getr (pc := 183) (q := 86) C rfl rfl fl_X8_43 dX8_grinds_183 ?_
          refine tv_aload_n (pc := 186) 3 C dX8_grinds_186 rfl rfl ?_
          refine tv_geti (pc := 187) (z := (q : Int) + 1) C rfl rfl fl_X8_185 dX8_grinds_187 tm_us ?_
          refine tv_iald (pc := 190) (j := (q + 1)) (z := μ 86 (q + 1)) C rfl dX8_grinds_190 (by omega) (by omega) ((tm_uk (by decide)).trans ((tm_uk (by decide)).trans ((tm_uk (by decide)).trans ((tm_uk (by decide)).trans ((tm_uk (by decide)).trans ((tm_uk (by decide)).trans ((tm_uk (by decide)).trans (rfl)))))))) ?_
          refine tv_iald (pc := 191) (j := (μ 86 (q + 1)).toNat) (z := μ 79 ((μ 86 (q + 1)).toNat)) C rfl dX8_grinds_191 (by omega) rfl ((tm_uk (by decide)).trans ((tm_uk (by decide)).trans ((tm_uk (by decide)).trans ((tm_uk (by decide)).trans ((tm_uk (by decide)).trans ((tm_uk (by decide)).trans ((tm_uk (by decide)).trans (rfl)))))))) ?_
          refine tv_goto (pc := 192) 196 C dX8_grinds_192 (by decide) ?_
          refine tv_top (if (q : Int) + 1 < rm then l2 else 0) (by rw [if_pos (by omega)]; exact (hn (by omega)).2) ?_
          refine tv_puti (pc := 196) C rfl rfl fp_X8_197 dX8_grinds_196 ?_
          refine tv_mem (tm_up (tm_up (tm_up (tm_up (tm_up (tm_up (tm_up μ 89 h (k : Int)) 74 21 (max (z - (3 - g)) 0)) 74 22 (w + 1)) 74 23 (t + 1)) 74 27 (if (q : Int) + 1 < rm then l2 else 0)) 92 k (h : Int)) 74 26 ((q : Int) + 1)) ((tm_uc (Or.inr (by decide))).trans (congrArg (fun m => tm_up m 74 26 ((q : Int) + 1)) ((tm_uc (Or.inl (by decide))).trans (congrArg (fun m => tm_up m 92 k (h : Int)) tm_uu)))) ?_
          refine tv_vret (pc := 199) C dX8_grinds_199 ?_
          refine ⟨rfl, ?_, ?_, ?_⟩ <;> intro hc <;> first | rfl | (exfalso; omega)
  · skip
    refine tv_aload_n (pc := 60) 2 C dX8_grinds_60 rfl rfl ?_
    refine tv_getr (pc := 61) (q := 90) C rfl rfl fl_X8_55 dX8_grinds_61 ?_
    refine tv_iload_n (pc := 64) 3 C dX8_grinds_64 rfl rfl ?_
    refine tv_iconst (pc := 65) C dX8_grinds_65 ?_
    refine tv_iast (pc := 66) (j := h) C rfl dX8_grinds_66 (by omega) (by omega) ?_
    refine tv_aload_n (pc := 67) 2 C dX8_grinds_67 rfl rfl ?_
    refine tv_dup (pc := 68) C dX8_grinds_68 rfl ?_
    refine tv_geti (pc := 69) (z := i0) C rfl rfl fl_X8_191 dX8_grinds_69 ((tm_uk (by decide)).trans ((tm_uk (by decide)).trans (hi))) ?_
    refine tv_iconst (pc := 72) C dX8_grinds_72 ?_
    refine tv_iadd (pc := 73) C dX8_grinds_73 ?_
    refine tv_puti (pc := 74) C rfl rfl fp_X8_191 dX8_grinds_74 ?_
    refine tv_vret (pc := 77) C dX8_grinds_77 ?_
    refine ⟨rfl, ?_, ?_, ?_⟩ <;> intro hc <;> first | rfl | (exfalso; omega)
theorem c8_fills_r (E : tm_Ev) (l : Launch) (μ p : tm_M) (h : Nat) (hpe : p = rm_p μ) (hp : rm_ok μ) (hh : h < 40) : tm_Met E l yX8_fills cX8_fills 4 none 1 [.ref (E.2.1 74), tm_i (h : Int)] (tm_rr μ p h) (tm_pv (fun μ' => μ' = tm_up (tm_up (tm_rr μ p h) 74 21 (sm_wet p h (sm_z p h))) 74 24 (sm_s p (h + 1)))) := by
  have ho : sm_ok p := by rw [hpe]; exact hp.1
  obtain ⟨b1, b2, b3, b4, b5, b6, b7⟩ := sm_bd ho h (by omega)
  have e1 : (tm_rr μ p h) 74 21 = sm_z p h := tm_rr_f 21
  have e2 : (tm_rr μ p h) 74 24 = sm_s p h := tm_rr_f 24
  have e3 : (tm_rr μ p h) 85 h = p 1 h := by rw [tm_rr_o (by omega), hpe]; rfl
  have e4 : (tm_rr μ p h) 74 20 = p 0 1 := by rw [tm_rr_g (by omega), hpe]; rfl
  have e5 : (tm_rr μ p h) 82 2 = p 0 2 := by rw [tm_rr_o (by omega), hpe]; rfl
  have e6 : (tm_rr μ p h) 74 10 = μ 74 10 := tm_rr_g (by omega)
  have e7 : (tm_rr μ p h) 74 15 = μ 74 15 := tm_rr_g (by omega)
  have e8 : rm_c (tm_rr μ p h) h (μ 74 10).toNat = p 2 h := by rw [tm_rr_c, hpe]; rfl
  have k := c8_fills E l (tm_rr μ p h) h hh (by rw [e1]; exact b1) (by rw [e3]; exact ho.2.2.2.2.2.1 h hh) (by rw [e4]; exact ho.2.1) (by rw [e5]; exact ho.2.2.1) (by rw [e6]; exact hp.2.1) (by rw [e7]; exact hp.2.2.1) (by rw [e2]; omega) (fun j hj => by rw [tm_rr_o (by omega)]; rw [e6] at hj; exact hp.2.2.2.2.1 j hj)
  rw [e6, e8, e1, e2, e3, e4, e5] at k
  exact k
theorem c8_isDressed_r (E : tm_Ev) (l : Launch) (μ ν : tm_M) (h : Nat) (e1 : ν 84 = μ 84) (e2 : ν 74 16 = μ 74 16) (hp : rm_ok μ) (hh : h < 40) : tm_Met E l yX8_isDressed cX8_isDressed 4 (some .boolean) 0 [.ref (E.2.1 74), tm_i (h : Int)] ν (tm_pi (fun z μ' => z = (if 0 < rm_p μ 3 h then 1 else 0) ∧ μ' = ν)) := by
  have k := c8_isDressed E l ν h hh (by rw [e2]; exact hp.2.2.2.1) (fun j hj => by rw [e2] at hj; rw [e1]; exact hp.2.2.2.2.2 j hj)
  have e3 : rm_dc ν h (ν 74 16).toNat = rm_p μ 3 h := by
    show rm_dc ν h (ν 74 16).toNat = rm_dc μ h (μ 74 16).toNat
    unfold rm_dc
    rw [e1, e2]
  rw [e3] at k
  exact k
set_option maxHeartbeats 8000000 in
theorem c8_goesBy (E : tm_Ev) (l : Launch) (μ p : tm_M) (h : Nat) (hpe : p = rm_p μ) (hp : rm_ok μ) (hh : h < 40) : tm_Met E l yX8_goesBy cX8_goesBy 2 none 2 [.ref (E.2.1 74), tm_i (h : Int)] (tm_rr μ p h) (tm_pv (fun μ' => μ' = tm_rr μ p (h + 1))) := by
  refine tm_intro [(0, .ref (E.2.1 74)), (1, tm_i (h : Int))] rfl (by decide +kernel) (Nat.le_of_ble_eq_true rfl) ?_
  intro X hX C
  subst hX
  have ho : sm_ok p := by rw [hpe]; exact hp.1
  obtain ⟨b1, b2, b3, b4, b5, b6, b7⟩ := sm_bd ho h (by omega)
  have b8 := sm_l_bd ho h (by omega)
  have b9 := sm_wet_bd ho h (sm_z p h)
  have h04 := ho.2.2.2.2.1
  have h03 := ho.2.2.2.1
  have h58 := ho.2.2.2.2.2.2.2.2.1
  have hsea := ho.2.2.2.2.2.1 h hh
  have hp04 : p 0 4 = p 0 4 := rfl
  refine tv_aload_n (pc := 0) 0 C dX8_goesBy_0 rfl rfl ?_
  refine tv_iload_n (pc := 1) 1 C dX8_goesBy_1 rfl rfl ?_
  refine tv_callV (pc := 2) [tm_i (h : Int)] [] C (c8_fills_r E _ μ p h hpe hp hh) cv_X8_200 rfl rfl (by decide) rfl (Nat.le_of_ble_eq_true rfl) rfl dX8_goesBy_2 (tm_kv ?_)
  rintro _ rfl
  refine tv_aload_n (pc := 5) 0 C dX8_goesBy_5 rfl rfl ?_
  refine tv_getr (pc := 6) (q := 89) C rfl rfl fl_X8_52 dX8_goesBy_6 ?_
  refine tv_iload_n (pc := 9) 1 C dX8_goesBy_9 rfl rfl ?_
  refine tv_iconst (pc := 10) C dX8_goesBy_10 ?_
  refine tv_iast (pc := 11) (j := h) C rfl dX8_goesBy_11 (by omega) (by omega) ?_
  refine tv_aload_n (pc := 12) 0 C dX8_goesBy_12 rfl rfl ?_
  refine tv_getr (pc := 13) (q := 90) C rfl rfl fl_X8_55 dX8_goesBy_13 ?_
  refine tv_iload_n (pc := 16) 1 C dX8_goesBy_16 rfl rfl ?_
  refine tv_iconst (pc := 17) C dX8_goesBy_17 ?_
  refine tv_iast (pc := 18) (j := h) C rfl dX8_goesBy_18 (by omega) (by omega) ?_
  refine tv_aload_n (pc := 19) 0 C dX8_goesBy_19 rfl rfl ?_
  refine tv_iload_n (pc := 20) 1 C dX8_goesBy_20 rfl rfl ?_
  refine tv_callV (pc := 21) [tm_i (h : Int)] [] C (c8_isDressed_r E _ μ (tm_up (tm_up (tm_up (tm_up (tm_rr μ p h) 74 21 (sm_wet p h (sm_z p h))) 74 24 (sm_s p (h + 1))) 89 h (-1)) 90 h 0) h (by rw [tm_uf (by decide), tm_uf (by decide), tm_uf (by decide), tm_uf (by decide), tm_rr_o (by omega)]) (by rw [tm_uk (by decide), tm_uk (by decide), tm_uj (by decide), tm_uj (by decide), tm_rr_g (by omega)]) hp hh) cv_X8_204 rfl rfl (by decide) rfl (Nat.le_of_ble_eq_true rfl) rfl dX8_goesBy_21 (tm_kp ?_)
  refine tv_ifeqB (pc := 24) 35 C dX8_goesBy_24 (by decide) (fun h24 => ?_) (fun h24 => ?_)
  · skip
    rw [← hpe] at h24
    have hdr : ¬ 0 < p 3 h := h24
    refine tv_aload_n (pc := 35) 0 C dX8_goesBy_35 rfl rfl ?_
    refine tv_geti (pc := 36) (z := (sm_q p h : Int)) C rfl rfl fl_X8_185 dX8_goesBy_36 ((tm_uk (by decide)).trans ((tm_uk (by decide)).trans ((tm_uj (by decide)).trans ((tm_uj (by decide)).trans ((tm_rr_f 26)))))) ?_
    refine tv_aload_n (pc := 39) 0 C dX8_goesBy_39 rfl rfl ?_
    refine tv_geti (pc := 40) (z := p 5 0) C rfl rfl fl_X8_167 dX8_goesBy_40 ((tm_uk (by decide)).trans ((tm_uk (by decide)).trans ((tm_uj (by decide)).trans ((tm_uj (by decide)).trans (((tm_rr_g (by omega)).trans (by rw [hpe]; rfl))))))) ?_
    refine tv_icmp_ge (pc := 43) 51 C dX8_goesBy_43 (by decide) (by omega) (by omega) (fun h43 => ?_) (fun h43 => ?_)
    · skip
      have hff : sm_f p (sm_q p h) = -1 := by unfold sm_f; rw [if_neg (by omega)]
      refine tv_aload_n (pc := 51) 0 C dX8_goesBy_51 rfl rfl ?_
      refine tv_getr (pc := 52) (q := 87) C rfl rfl fl_X8_46 dX8_goesBy_52 ?_
      refine tv_iload_n (pc := 55) 1 C dX8_goesBy_55 rfl rfl ?_
      refine tv_aload_n (pc := 56) 0 C dX8_goesBy_56 rfl rfl ?_
      refine tv_geti (pc := 57) (z := sm_wet p h (sm_z p h)) C rfl rfl fl_X8_176 dX8_goesBy_57 ((tm_uk (by decide)).trans ((tm_uk (by decide)).trans ((tm_uj (by decide)).trans (tm_us)))) ?_
      refine tv_iast (pc := 60) (j := h) C rfl dX8_goesBy_60 (by omega) (by omega) ?_
      refine tv_aload_n (pc := 61) 0 C dX8_goesBy_61 rfl rfl ?_
      refine tv_getr (pc := 62) (q := 88) C rfl rfl fl_X8_49 dX8_goesBy_62 ?_
      refine tv_iload_n (pc := 65) 1 C dX8_goesBy_65 rfl rfl ?_
      refine tv_aload_n (pc := 66) 0 C dX8_goesBy_66 rfl rfl ?_
      refine tv_geti (pc := 67) (z := sm_t p h) C rfl rfl fl_X8_194 dX8_goesBy_67 ((tm_uk (by decide)).trans ((tm_uk (by decide)).trans ((tm_uk (by decide)).trans ((tm_uj (by decide)).trans ((tm_uj (by decide)).trans ((tm_rr_f 23))))))) ?_
      refine tv_iast (pc := 70) (j := h) C rfl dX8_goesBy_70 (by omega) (by omega) ?_
      refine tv_aload_n (pc := 71) 0 C dX8_goesBy_71 rfl rfl ?_
      refine tv_getr (pc := 72) (q := 91) C rfl rfl fl_X8_58 dX8_goesBy_72 ?_
      refine tv_iload_n (pc := 75) 1 C dX8_goesBy_75 rfl rfl ?_
      refine tv_aload_n (pc := 76) 0 C dX8_goesBy_76 rfl rfl ?_
      refine tv_geti (pc := 77) (z := sm_w p h) C rfl rfl fl_X8_188 dX8_goesBy_77 ((tm_uk (by decide)).trans ((tm_uk (by decide)).trans ((tm_uk (by decide)).trans ((tm_uk (by decide)).trans ((tm_uj (by decide)).trans ((tm_uj (by decide)).trans ((tm_rr_f 22)))))))) ?_
      refine tv_aload_n (pc := 80) 0 C dX8_goesBy_80 rfl rfl ?_
      refine tv_getr (pc := 81) (q := 82) C rfl rfl fl_X8_31 dX8_goesBy_81 ?_
      refine tv_iconst (pc := 84) C dX8_goesBy_84 ?_
      refine tv_iald (pc := 85) (j := 4) (z := p 0 4) C rfl dX8_goesBy_85 (by omega) rfl ((tm_uk (by decide)).trans ((tm_uk (by decide)).trans ((tm_uk (by decide)).trans ((tm_uk (by decide)).trans ((tm_uk (by decide)).trans ((tm_uk (by decide)).trans (((congrFun (tm_rr_o (by omega)) _).trans (by rw [hpe]; rfl))))))))) ?_
      refine tv_idiv (pc := 86) C dX8_goesBy_86 (by omega) (by omega) ?_
      refine tv_iast (pc := 87) (j := h) C rfl dX8_goesBy_87 (by omega) (by omega) ?_
      refine tv_vret (pc := 88) C dX8_goesBy_88 ?_
      have hG : sm_G p h = 0 := sm_G_n (by omega)
      have hN : ¬ sm_N p h = true := fun qq => by have q2 := ((sm_N_iff p h).mp qq).1; omega
      have e21 : sm_wet p h (sm_z p h) = sm_z p (h + 1) := by rw [sm_z_s, hG]; omega
      have e22 : sm_w p h = sm_w p (h + 1) := by rw [sm_w_s, if_neg hdr]; omega
      have e23 : sm_t p h = sm_t p (h + 1) := by rw [sm_t_s]; omega
      have e25 : sm_i p h = sm_i p (h + 1) := by rw [sm_i_s]; rw [if_neg hdr, if_pos hff]; omega
      have e26 : (sm_q p h : Int) = (sm_q p (h + 1) : Int) := by rw [sm_q_s, if_neg hN]
      have e27 : (sm_l p h) = sm_l p (h + 1) := by rw [sm_l_n ho hN, hG]; omega
      have v89 : -1 = sm_a p h := by unfold sm_a; rw [if_neg hdr, hff]
      have v90 : 0 = sm_d p h := by unfold sm_d; rw [if_neg hdr, if_pos hff]
      have v91 : (sm_w p h) / (p 0 4) = sm_u p h := by unfold sm_u; rw [← e22, hp04]
      refine ⟨rfl, ?_⟩
      exact tm_rr_eq (tm_f74 (((tm_uk (by decide)).trans ((tm_uk (by decide)).trans ((tm_uk (by decide)).trans ((tm_uk (by decide)).trans ((tm_uk (by decide)).trans ((tm_uj (by decide)).trans (tm_us))))))).trans e21) (((tm_uk (by decide)).trans ((tm_uk (by decide)).trans ((tm_uk (by decide)).trans ((tm_uk (by decide)).trans ((tm_uk (by decide)).trans ((tm_uj (by decide)).trans ((tm_uj (by decide)).trans ((tm_rr_f 22))))))))).trans e22) (((tm_uk (by decide)).trans ((tm_uk (by decide)).trans ((tm_uk (by decide)).trans ((tm_uk (by decide)).trans ((tm_uk (by decide)).trans ((tm_uj (by decide)).trans ((tm_uj (by decide)).trans ((tm_rr_f 23))))))))).trans e23) ((tm_uk (by decide)).trans ((tm_uk (by decide)).trans ((tm_uk (by decide)).trans ((tm_uk (by decide)).trans ((tm_uk (by decide)).trans (tm_us)))))) (((tm_uk (by decide)).trans ((tm_uk (by decide)).trans ((tm_uk (by decide)).trans ((tm_uk (by decide)).trans ((tm_uk (by decide)).trans ((tm_uj (by decide)).trans ((tm_uj (by decide)).trans ((tm_rr_f 25))))))))).trans e25) (((tm_uk (by decide)).trans ((tm_uk (by decide)).trans ((tm_uk (by decide)).trans ((tm_uk (by decide)).trans ((tm_uk (by decide)).trans ((tm_uj (by decide)).trans ((tm_uj (by decide)).trans ((tm_rr_f 26))))))))).trans e26) (((tm_uk (by decide)).trans ((tm_uk (by decide)).trans ((tm_uk (by decide)).trans ((tm_uk (by decide)).trans ((tm_uk (by decide)).trans ((tm_uj (by decide)).trans ((tm_uj (by decide)).trans ((tm_rr_f 27))))))))).trans e27) (fun x hx => by rw [tm_uk (by decide), tm_uk (by decide), tm_uk (by decide), tm_uk (by decide), tm_uk (by decide), tm_uj (by omega), tm_uj (by omega), tm_rr_g hx])) (fun b => (tm_uk (by decide)).trans ((tm_uk (by decide)).trans ((tm_ua b).trans (tm_row_s (fun b => (tm_uk (by decide)).trans ((tm_uk (by decide)).trans ((tm_uk (by decide)).trans ((tm_uk (by decide)).trans (tm_rr_87 b))))) e21 b)))) (fun b => (tm_uk (by decide)).trans ((tm_ua b).trans (tm_row_s (fun b => (tm_uk (by decide)).trans ((tm_uk (by decide)).trans ((tm_uk (by decide)).trans ((tm_uk (by decide)).trans ((tm_uk (by decide)).trans (tm_rr_88 b)))))) e23 b))) (fun b => (tm_uk (by decide)).trans ((tm_uk (by decide)).trans ((tm_uk (by decide)).trans ((tm_uk (by decide)).trans ((tm_ua b).trans (tm_row_s (fun b => (tm_uk (by decide)).trans ((tm_uk (by decide)).trans (tm_rr_89 b))) v89 b)))))) (fun b => (tm_uk (by decide)).trans ((tm_uk (by decide)).trans ((tm_uk (by decide)).trans ((tm_ua b).trans (tm_row_s (fun b => (tm_uk (by decide)).trans ((tm_uk (by decide)).trans ((tm_uk (by decide)).trans (tm_rr_90 b)))) v90 b))))) (fun b => (tm_ua b).trans (tm_row_s (fun b => (tm_uk (by decide)).trans ((tm_uk (by decide)).trans ((tm_uk (by decide)).trans ((tm_uk (by decide)).trans ((tm_uk (by decide)).trans ((tm_uk (by decide)).trans (tm_rr_91 b))))))) v91 b)) (tm_end_n (fun b => (tm_uk (by decide)).trans ((tm_uk (by decide)).trans ((tm_uk (by decide)).trans ((tm_uk (by decide)).trans ((tm_uk (by decide)).trans ((tm_uk (by decide)).trans ((tm_uk (by decide)).trans (tm_rr_92 b)))))))) hN) (fun a ha => by rw [tm_uf (show a ≠ 91 by omega), tm_uf (show a ≠ 88 by omega), tm_uf (show a ≠ 87 by omega), tm_uf (show a ≠ 90 by omega), tm_uf (show a ≠ 89 by omega), tm_uf (show a ≠ 74 by omega), tm_uf (show a ≠ 74 by omega), tm_rr_o ha])
    · skip
      have hrow := ho.2.2.2.2.2.2.2.2.2 (sm_q p h) (by omega)
      have hff : sm_f p (sm_q p h) = p 4 (sm_q p h) := by unfold sm_f; rw [if_pos (by omega)]
      refine tv_aload_n (pc := 46) 0 C dX8_goesBy_46 rfl rfl ?_
      refine tv_iload_n (pc := 47) 1 C dX8_goesBy_47 rfl rfl ?_
      refine tv_callV (pc := 48) [tm_i (h : Int)] [] C (c8_grinds E _ (tm_up (tm_up (tm_up (tm_up (tm_rr μ p h) 74 21 (sm_wet p h (sm_z p h))) 74 24 (sm_s p (h + 1))) 89 h (-1)) 90 h 0) h (sm_q p h) (p 4 (sm_q p h)).toNat (sm_wet p h (sm_z p h)) (sm_w p h) (sm_t p h) (sm_i p h) (sm_l p h) (p 7 (p 4 (sm_q p h + 1)).toNat) (p 1 h) (p 0 3) (p 0 4) (p 6 ((p 4 (sm_q p h)).toNat)) (p 5 0) hh ((tm_uk (by decide)).trans ((tm_uk (by decide)).trans ((tm_uj (by decide)).trans ((tm_uj (by decide)).trans ((tm_rr_f 26)))))) (((tm_uk (by decide)).trans ((tm_uk (by decide)).trans ((tm_uk (by decide)).trans ((tm_uk (by decide)).trans (((congrFun (tm_rr_o (by omega)) _).trans (by rw [hpe]; rfl))))))).trans (Int.toNat_of_nonneg hrow.1.1).symm) ((tm_uk (by decide)).trans ((tm_uk (by decide)).trans ((tm_uk (by decide)).trans ((tm_uk (by decide)).trans (((congrFun (tm_rr_o (by omega)) _).trans (by rw [hpe]; rfl))))))) ((tm_uk (by decide)).trans ((tm_uk (by decide)).trans ((tm_uk (by decide)).trans ((tm_uk (by decide)).trans (((congrFun (tm_rr_o (by omega)) _).trans (by rw [hpe]; rfl))))))) ((tm_uk (by decide)).trans ((tm_uk (by decide)).trans ((tm_uk (by decide)).trans ((tm_uk (by decide)).trans (((congrFun (tm_rr_o (by omega)) _).trans (by rw [hpe]; rfl))))))) ((tm_uk (by decide)).trans ((tm_uk (by decide)).trans ((tm_uj (by decide)).trans ((tm_uj (by decide)).trans ((tm_rr_f 22)))))) ((tm_uk (by decide)).trans ((tm_uk (by decide)).trans ((tm_uj (by decide)).trans (tm_us)))) ((tm_uk (by decide)).trans ((tm_uk (by decide)).trans ((tm_uk (by decide)).trans ((tm_uk (by decide)).trans (((congrFun (tm_rr_o (by omega)) _).trans (by rw [hpe]; rfl))))))) ((tm_uk (by decide)).trans ((tm_uk (by decide)).trans ((tm_uj (by decide)).trans ((tm_uj (by decide)).trans ((tm_rr_f 25)))))) ((tm_uk (by decide)).trans ((tm_uk (by decide)).trans ((tm_uj (by decide)).trans ((tm_uj (by decide)).trans ((tm_rr_f 23)))))) ((tm_uk (by decide)).trans ((tm_uk (by decide)).trans ((tm_uj (by decide)).trans ((tm_uj (by decide)).trans ((tm_rr_f 27)))))) ((tm_uk (by decide)).trans ((tm_uk (by decide)).trans ((tm_uj (by decide)).trans ((tm_uj (by decide)).trans (((tm_rr_g (by omega)).trans (by rw [hpe]; rfl))))))) (by omega) (by omega) hrow.2.1 (by omega) (by omega) (by omega) (by omega) (by omega) (by omega) (by omega) (fun hn => by
      have hr2 := ho.2.2.2.2.2.2.2.2.2 (sm_q p h + 1) (by omega)
      rw [show (tm_up (tm_up (tm_up (tm_up (tm_rr μ p h) 74 21 (sm_wet p h (sm_z p h))) 74 24 (sm_s p (h + 1))) 89 h (-1)) 90 h 0) 86 (sm_q p h + 1) = p 4 (sm_q p h + 1) from (tm_uk (by decide)).trans ((tm_uk (by decide)).trans ((tm_uk (by decide)).trans ((tm_uk (by decide)).trans (((congrFun (tm_rr_o (by omega)) _).trans (by rw [hpe]; rfl))))))]
      exact ⟨hr2.1, (tm_uk (by decide)).trans ((tm_uk (by decide)).trans ((tm_uk (by decide)).trans ((tm_uk (by decide)).trans (((congrFun (tm_rr_o (by omega)) _).trans (by rw [hpe]; rfl))))))⟩)) cv_X8_207 rfl rfl (by decide) rfl (Nat.le_of_ble_eq_true rfl) rfl dX8_goesBy_48 (tm_kv ?_)
      rintro μ9 ⟨hA, hB, hC⟩
      rcases (show (sm_wet p h (sm_z p h)) - (p 1 h) < (p 0 3) + (2 - (p 6 ((p 4 (sm_q p h)).toNat))) + (sm_w p h) / (p 0 4) ∨ ((p 0 3) + (2 - (p 6 ((p 4 (sm_q p h)).toNat))) + (sm_w p h) / (p 0 4) ≤ (sm_wet p h (sm_z p h)) - (p 1 h) ∧ ¬ sm_l p h - 1 = 0) ∨ ((p 0 3) + (2 - (p 6 ((p 4 (sm_q p h)).toNat))) + (sm_w p h) / (p 0 4) ≤ (sm_wet p h (sm_z p h)) - (p 1 h) ∧ sm_l p h - 1 = 0) by omega) with hc | hc | hc
      · skip
        obtain rfl := hA hc
        refine tv_aload_n (pc := 51) 0 C dX8_goesBy_51 rfl rfl ?_
        refine tv_getr (pc := 52) (q := 87) C rfl rfl fl_X8_46 dX8_goesBy_52 ?_
        refine tv_iload_n (pc := 55) 1 C dX8_goesBy_55 rfl rfl ?_
        refine tv_aload_n (pc := 56) 0 C dX8_goesBy_56 rfl rfl ?_
        refine tv_geti (pc := 57) (z := sm_wet p h (sm_z p h)) C rfl rfl fl_X8_176 dX8_goesBy_57 ((tm_uj (by decide)).trans ((tm_uk (by decide)).trans ((tm_uk (by decide)).trans ((tm_uk (by decide)).trans ((tm_uk (by decide)).trans ((tm_uj (by decide)).trans (tm_us))))))) ?_
        refine tv_iast (pc := 60) (j := h) C rfl dX8_goesBy_60 (by omega) (by omega) ?_
        refine tv_aload_n (pc := 61) 0 C dX8_goesBy_61 rfl rfl ?_
        refine tv_getr (pc := 62) (q := 88) C rfl rfl fl_X8_49 dX8_goesBy_62 ?_
        refine tv_iload_n (pc := 65) 1 C dX8_goesBy_65 rfl rfl ?_
        refine tv_aload_n (pc := 66) 0 C dX8_goesBy_66 rfl rfl ?_
        refine tv_geti (pc := 67) (z := sm_t p h) C rfl rfl fl_X8_194 dX8_goesBy_67 ((tm_uk (by decide)).trans ((tm_uj (by decide)).trans ((tm_uk (by decide)).trans ((tm_uk (by decide)).trans ((tm_uk (by decide)).trans ((tm_uk (by decide)).trans ((tm_uj (by decide)).trans ((tm_uj (by decide)).trans ((tm_rr_f 23)))))))))) ?_
        refine tv_iast (pc := 70) (j := h) C rfl dX8_goesBy_70 (by omega) (by omega) ?_
        refine tv_aload_n (pc := 71) 0 C dX8_goesBy_71 rfl rfl ?_
        refine tv_getr (pc := 72) (q := 91) C rfl rfl fl_X8_58 dX8_goesBy_72 ?_
        refine tv_iload_n (pc := 75) 1 C dX8_goesBy_75 rfl rfl ?_
        refine tv_aload_n (pc := 76) 0 C dX8_goesBy_76 rfl rfl ?_
        refine tv_geti (pc := 77) (z := sm_w p h) C rfl rfl fl_X8_188 dX8_goesBy_77 ((tm_uk (by decide)).trans ((tm_uk (by decide)).trans ((tm_uj (by decide)).trans ((tm_uk (by decide)).trans ((tm_uk (by decide)).trans ((tm_uk (by decide)).trans ((tm_uk (by decide)).trans ((tm_uj (by decide)).trans ((tm_uj (by decide)).trans ((tm_rr_f 22))))))))))) ?_
        refine tv_aload_n (pc := 80) 0 C dX8_goesBy_80 rfl rfl ?_
        refine tv_getr (pc := 81) (q := 82) C rfl rfl fl_X8_31 dX8_goesBy_81 ?_
        refine tv_iconst (pc := 84) C dX8_goesBy_84 ?_
        refine tv_iald (pc := 85) (j := 4) (z := p 0 4) C rfl dX8_goesBy_85 (by omega) rfl ((tm_uk (by decide)).trans ((tm_uk (by decide)).trans ((tm_uk (by decide)).trans ((tm_uk (by decide)).trans ((tm_uk (by decide)).trans ((tm_uk (by decide)).trans ((tm_uk (by decide)).trans ((tm_uk (by decide)).trans ((tm_uk (by decide)).trans (((congrFun (tm_rr_o (by omega)) _).trans (by rw [hpe]; rfl)))))))))))) ?_
        refine tv_idiv (pc := 86) C dX8_goesBy_86 (by omega) (by omega) ?_
        refine tv_iast (pc := 87) (j := h) C rfl dX8_goesBy_87 (by omega) (by omega) ?_
        refine tv_vret (pc := 88) C dX8_goesBy_88 ?_
        have hG : sm_G p h = 0 := by rw [sm_G_eq ho hdr (by omega), if_neg (by omega)]
        have hN : ¬ sm_N p h = true := fun qq => by have q2 := ((sm_N_iff p h).mp qq).1; omega
        have e21 : sm_wet p h (sm_z p h) = sm_z p (h + 1) := by rw [sm_z_s, hG]; omega
        have e22 : sm_w p h = sm_w p (h + 1) := by rw [sm_w_s, if_neg hdr]; omega
        have e23 : sm_t p h = sm_t p (h + 1) := by rw [sm_t_s]; omega
        have e25 : sm_i p h + 1 = sm_i p (h + 1) := by rw [sm_i_s]; rw [if_neg hdr, if_neg (by omega), hG]; omega
        have e26 : (sm_q p h : Int) = (sm_q p (h + 1) : Int) := by rw [sm_q_s, if_neg hN]
        have e27 : (sm_l p h) = sm_l p (h + 1) := by rw [sm_l_n ho hN, hG]; omega
        have v89 : ((p 4 (sm_q p h)).toNat : Int) = sm_a p h := by unfold sm_a; rw [if_neg hdr, hff]; exact Int.toNat_of_nonneg hrow.1.1
        have v90 : 1 = sm_d p h := by unfold sm_d; rw [if_neg hdr, if_neg (by omega), hG]; rfl
        have v91 : (sm_w p h) / (p 0 4) = sm_u p h := by unfold sm_u; rw [← e22, hp04]
        refine ⟨rfl, ?_⟩
        exact tm_rr_eq (tm_f74 (((tm_uk (by decide)).trans ((tm_uk (by decide)).trans ((tm_uk (by decide)).trans ((tm_uj (by decide)).trans ((tm_uk (by decide)).trans ((tm_uk (by decide)).trans ((tm_uk (by decide)).trans ((tm_uk (by decide)).trans ((tm_uj (by decide)).trans (tm_us)))))))))).trans e21) (((tm_uk (by decide)).trans ((tm_uk (by decide)).trans ((tm_uk (by decide)).trans ((tm_uj (by decide)).trans ((tm_uk (by decide)).trans ((tm_uk (by decide)).trans ((tm_uk (by decide)).trans ((tm_uk (by decide)).trans ((tm_uj (by decide)).trans ((tm_uj (by decide)).trans ((tm_rr_f 22)))))))))))).trans e22) (((tm_uk (by decide)).trans ((tm_uk (by decide)).trans ((tm_uk (by decide)).trans ((tm_uj (by decide)).trans ((tm_uk (by decide)).trans ((tm_uk (by decide)).trans ((tm_uk (by decide)).trans ((tm_uk (by decide)).trans ((tm_uj (by decide)).trans ((tm_uj (by decide)).trans ((tm_rr_f 23)))))))))))).trans e23) ((tm_uk (by decide)).trans ((tm_uk (by decide)).trans ((tm_uk (by decide)).trans ((tm_uj (by decide)).trans ((tm_uk (by decide)).trans ((tm_uk (by decide)).trans ((tm_uk (by decide)).trans ((tm_uk (by decide)).trans (tm_us))))))))) (((tm_uk (by decide)).trans ((tm_uk (by decide)).trans ((tm_uk (by decide)).trans (tm_us)))).trans e25) (((tm_uk (by decide)).trans ((tm_uk (by decide)).trans ((tm_uk (by decide)).trans ((tm_uj (by decide)).trans ((tm_uk (by decide)).trans ((tm_uk (by decide)).trans ((tm_uk (by decide)).trans ((tm_uk (by decide)).trans ((tm_uj (by decide)).trans ((tm_uj (by decide)).trans ((tm_rr_f 26)))))))))))).trans e26) (((tm_uk (by decide)).trans ((tm_uk (by decide)).trans ((tm_uk (by decide)).trans ((tm_uj (by decide)).trans ((tm_uk (by decide)).trans ((tm_uk (by decide)).trans ((tm_uk (by decide)).trans ((tm_uk (by decide)).trans ((tm_uj (by decide)).trans ((tm_uj (by decide)).trans ((tm_rr_f 27)))))))))))).trans e27) (fun x hx => by rw [tm_uk (by decide), tm_uk (by decide), tm_uk (by decide), tm_uj (by omega), tm_uk (by decide), tm_uk (by decide), tm_uk (by decide), tm_uk (by decide), tm_uj (by omega), tm_uj (by omega), tm_rr_g hx])) (fun b => (tm_uk (by decide)).trans ((tm_uk (by decide)).trans ((tm_ua b).trans (tm_row_s (fun b => (tm_uk (by decide)).trans ((tm_uk (by decide)).trans ((tm_uk (by decide)).trans ((tm_uk (by decide)).trans ((tm_uk (by decide)).trans ((tm_uk (by decide)).trans ((tm_uk (by decide)).trans (tm_rr_87 b)))))))) e21 b)))) (fun b => (tm_uk (by decide)).trans ((tm_ua b).trans (tm_row_s (fun b => (tm_uk (by decide)).trans ((tm_uk (by decide)).trans ((tm_uk (by decide)).trans ((tm_uk (by decide)).trans ((tm_uk (by decide)).trans ((tm_uk (by decide)).trans ((tm_uk (by decide)).trans ((tm_uk (by decide)).trans (tm_rr_88 b))))))))) e23 b))) (fun b => (tm_uk (by decide)).trans ((tm_uk (by decide)).trans ((tm_uk (by decide)).trans ((tm_uk (by decide)).trans ((tm_uk (by decide)).trans (((tm_ua b).trans (congrArg (fun y => if b = h then ((p 4 (sm_q p h)).toNat : Int) else y) ((tm_uk (by decide)).trans ((tm_ua b))))).trans (tm_row_t (fun b => (tm_uk (by decide)).trans ((tm_uk (by decide)).trans (tm_rr_89 b))) v89 b))))))) (fun b => (tm_uk (by decide)).trans ((tm_uk (by decide)).trans ((tm_uk (by decide)).trans ((tm_uk (by decide)).trans (((tm_ua b).trans (congrArg (fun y => if b = h then 1 else y) ((tm_uk (by decide)).trans ((tm_ua b))))).trans (tm_row_t (fun b => (tm_uk (by decide)).trans ((tm_uk (by decide)).trans ((tm_uk (by decide)).trans (tm_rr_90 b)))) v90 b)))))) (fun b => (tm_ua b).trans (tm_row_s (fun b => (tm_uk (by decide)).trans ((tm_uk (by decide)).trans ((tm_uk (by decide)).trans ((tm_uk (by decide)).trans ((tm_uk (by decide)).trans ((tm_uk (by decide)).trans ((tm_uk (by decide)).trans ((tm_uk (by decide)).trans ((tm_uk (by decide)).trans (tm_rr_91 b)))))))))) v91 b)) (tm_end_n (fun b => (tm_uk (by decide)).trans ((tm_uk (by decide)).trans ((tm_uk (by decide)).trans ((tm_uk (by decide)).trans ((tm_uk (by decide)).trans ((tm_uk (by decide)).trans ((tm_uk (by decide)).trans ((tm_uk (by decide)).trans ((tm_uk (by decide)).trans ((tm_uk (by decide)).trans (tm_rr_92 b))))))))))) hN) (fun a ha => by rw [tm_uf (show a ≠ 91 by omega), tm_uf (show a ≠ 88 by omega), tm_uf (show a ≠ 87 by omega), tm_uf (show a ≠ 74 by omega), tm_uf (show a ≠ 90 by omega), tm_uf (show a ≠ 89 by omega), tm_uf (show a ≠ 90 by omega), tm_uf (show a ≠ 89 by omega), tm_uf (show a ≠ 74 by omega), tm_uf (show a ≠ 74 by omega), tm_rr_o ha])
      · skip
        obtain rfl := hB hc
        refine tv_aload_n (pc := 51) 0 C dX8_goesBy_51 rfl rfl ?_
        refine tv_getr (pc := 52) (q := 87) C rfl rfl fl_X8_46 dX8_goesBy_52 ?_
        refine tv_iload_n (pc := 55) 1 C dX8_goesBy_55 rfl rfl ?_
        refine tv_aload_n (pc := 56) 0 C dX8_goesBy_56 rfl rfl ?_
        refine tv_geti (pc := 57) (z := max (sm_wet p h (sm_z p h) - (3 - (p 6 ((p 4 (sm_q p h)).toNat)))) 0) C rfl rfl fl_X8_176 dX8_goesBy_57 ((tm_uj (by decide)).trans ((tm_uj (by decide)).trans ((tm_uj (by decide)).trans (tm_us)))) ?_
        refine tv_iast (pc := 60) (j := h) C rfl dX8_goesBy_60 (by omega) (by omega) ?_
        refine tv_aload_n (pc := 61) 0 C dX8_goesBy_61 rfl rfl ?_
        refine tv_getr (pc := 62) (q := 88) C rfl rfl fl_X8_49 dX8_goesBy_62 ?_
        refine tv_iload_n (pc := 65) 1 C dX8_goesBy_65 rfl rfl ?_
        refine tv_aload_n (pc := 66) 0 C dX8_goesBy_66 rfl rfl ?_
        refine tv_geti (pc := 67) (z := sm_t p h + 1) C rfl rfl fl_X8_194 dX8_goesBy_67 ((tm_uk (by decide)).trans ((tm_uj (by decide)).trans (tm_us))) ?_
        refine tv_iast (pc := 70) (j := h) C rfl dX8_goesBy_70 (by omega) (by omega) ?_
        refine tv_aload_n (pc := 71) 0 C dX8_goesBy_71 rfl rfl ?_
        refine tv_getr (pc := 72) (q := 91) C rfl rfl fl_X8_58 dX8_goesBy_72 ?_
        refine tv_iload_n (pc := 75) 1 C dX8_goesBy_75 rfl rfl ?_
        refine tv_aload_n (pc := 76) 0 C dX8_goesBy_76 rfl rfl ?_
        refine tv_geti (pc := 77) (z := sm_w p h + 1) C rfl rfl fl_X8_188 dX8_goesBy_77 ((tm_uk (by decide)).trans ((tm_uk (by decide)).trans ((tm_uj (by decide)).trans ((tm_uj (by decide)).trans (tm_us))))) ?_
        refine tv_aload_n (pc := 80) 0 C dX8_goesBy_80 rfl rfl ?_
        refine tv_getr (pc := 81) (q := 82) C rfl rfl fl_X8_31 dX8_goesBy_81 ?_
        refine tv_iconst (pc := 84) C dX8_goesBy_84 ?_
        refine tv_iald (pc := 85) (j := 4) (z := p 0 4) C rfl dX8_goesBy_85 (by omega) rfl ((tm_uk (by decide)).trans ((tm_uk (by decide)).trans ((tm_uk (by decide)).trans ((tm_uk (by decide)).trans ((tm_uk (by decide)).trans ((tm_uk (by decide)).trans ((tm_uk (by decide)).trans ((tm_uk (by decide)).trans ((tm_uk (by decide)).trans ((tm_uk (by decide)).trans ((tm_uk (by decide)).trans (((congrFun (tm_rr_o (by omega)) _).trans (by rw [hpe]; rfl)))))))))))))) ?_
        refine tv_idiv (pc := 86) C dX8_goesBy_86 (by omega) (by omega) ?_
        refine tv_iast (pc := 87) (j := h) C rfl dX8_goesBy_87 (by omega) (by omega) ?_
        refine tv_vret (pc := 88) C dX8_goesBy_88 ?_
        have hG : sm_G p h = 1 := by rw [sm_G_eq ho hdr (by omega), if_pos (by omega)]
        have hN : ¬ sm_N p h = true := fun qq => hc.2 ((sm_N_l ho (by omega)).mp qq).2
        have hgg : sm_g p (sm_q p h) = p 6 (p 4 (sm_q p h)).toNat := sm_g_in ho (by omega)
        have e21 : max (sm_wet p h (sm_z p h) - (3 - (p 6 ((p 4 (sm_q p h)).toNat)))) 0 = sm_z p (h + 1) := by rw [sm_z_s, hG, hgg]; omega
        have e22 : sm_w p h + 1 = sm_w p (h + 1) := by rw [sm_w_s, if_neg hdr]; omega
        have e23 : sm_t p h + 1 = sm_t p (h + 1) := by rw [sm_t_s]; omega
        have e25 : sm_i p h = sm_i p (h + 1) := by rw [sm_i_s]; rw [if_neg hdr, if_neg (by omega), hG]; omega
        have e26 : (sm_q p h : Int) = (sm_q p (h + 1) : Int) := by rw [sm_q_s, if_neg hN]
        have e27 : (sm_l p h - 1) = sm_l p (h + 1) := by rw [sm_l_n ho hN, hG]
        have v89 : ((p 4 (sm_q p h)).toNat : Int) = sm_a p h := by unfold sm_a; rw [if_neg hdr, hff]; exact Int.toNat_of_nonneg hrow.1.1
        have v90 : 0 = sm_d p h := by unfold sm_d; rw [if_neg hdr, if_neg (by omega), hG]; rfl
        have v91 : (sm_w p h + 1) / (p 0 4) = sm_u p h := by unfold sm_u; rw [← e22, hp04]
        refine ⟨rfl, ?_⟩
        exact tm_rr_eq (tm_f74 (((tm_uk (by decide)).trans ((tm_uk (by decide)).trans ((tm_uk (by decide)).trans ((tm_uj (by decide)).trans ((tm_uj (by decide)).trans ((tm_uj (by decide)).trans (tm_us))))))).trans e21) (((tm_uk (by decide)).trans ((tm_uk (by decide)).trans ((tm_uk (by decide)).trans ((tm_uj (by decide)).trans ((tm_uj (by decide)).trans (tm_us)))))).trans e22) (((tm_uk (by decide)).trans ((tm_uk (by decide)).trans ((tm_uk (by decide)).trans ((tm_uj (by decide)).trans (tm_us))))).trans e23) ((tm_uk (by decide)).trans ((tm_uk (by decide)).trans ((tm_uk (by decide)).trans ((tm_uj (by decide)).trans ((tm_uj (by decide)).trans ((tm_uj (by decide)).trans ((tm_uj (by decide)).trans ((tm_uk (by decide)).trans ((tm_uk (by decide)).trans ((tm_uk (by decide)).trans (tm_us))))))))))) (((tm_uk (by decide)).trans ((tm_uk (by decide)).trans ((tm_uk (by decide)).trans ((tm_uj (by decide)).trans ((tm_uj (by decide)).trans ((tm_uj (by decide)).trans ((tm_uj (by decide)).trans ((tm_uk (by decide)).trans ((tm_uk (by decide)).trans ((tm_uk (by decide)).trans ((tm_uj (by decide)).trans ((tm_uj (by decide)).trans ((tm_rr_f 25)))))))))))))).trans e25) (((tm_uk (by decide)).trans ((tm_uk (by decide)).trans ((tm_uk (by decide)).trans ((tm_uj (by decide)).trans ((tm_uj (by decide)).trans ((tm_uj (by decide)).trans ((tm_uj (by decide)).trans ((tm_uk (by decide)).trans ((tm_uk (by decide)).trans ((tm_uk (by decide)).trans ((tm_uj (by decide)).trans ((tm_uj (by decide)).trans ((tm_rr_f 26)))))))))))))).trans e26) (((tm_uk (by decide)).trans ((tm_uk (by decide)).trans ((tm_uk (by decide)).trans (tm_us)))).trans e27) (fun x hx => by rw [tm_uk (by decide), tm_uk (by decide), tm_uk (by decide), tm_uj (by omega), tm_uj (by omega), tm_uj (by omega), tm_uj (by omega), tm_uk (by decide), tm_uk (by decide), tm_uk (by decide), tm_uj (by omega), tm_uj (by omega), tm_rr_g hx])) (fun b => (tm_uk (by decide)).trans ((tm_uk (by decide)).trans ((tm_ua b).trans (tm_row_s (fun b => (tm_uk (by decide)).trans ((tm_uk (by decide)).trans ((tm_uk (by decide)).trans ((tm_uk (by decide)).trans ((tm_uk (by decide)).trans ((tm_uk (by decide)).trans ((tm_uk (by decide)).trans ((tm_uk (by decide)).trans ((tm_uk (by decide)).trans (tm_rr_87 b)))))))))) e21 b)))) (fun b => (tm_uk (by decide)).trans ((tm_ua b).trans (tm_row_s (fun b => (tm_uk (by decide)).trans ((tm_uk (by decide)).trans ((tm_uk (by decide)).trans ((tm_uk (by decide)).trans ((tm_uk (by decide)).trans ((tm_uk (by decide)).trans ((tm_uk (by decide)).trans ((tm_uk (by decide)).trans ((tm_uk (by decide)).trans ((tm_uk (by decide)).trans (tm_rr_88 b))))))))))) e23 b))) (fun b => (tm_uk (by decide)).trans ((tm_uk (by decide)).trans ((tm_uk (by decide)).trans ((tm_uk (by decide)).trans ((tm_uk (by decide)).trans ((tm_uk (by decide)).trans ((tm_uk (by decide)).trans (((tm_ua b).trans (congrArg (fun y => if b = h then ((p 4 (sm_q p h)).toNat : Int) else y) ((tm_uk (by decide)).trans ((tm_ua b))))).trans (tm_row_t (fun b => (tm_uk (by decide)).trans ((tm_uk (by decide)).trans (tm_rr_89 b))) v89 b))))))))) (fun b => (tm_uk (by decide)).trans ((tm_uk (by decide)).trans ((tm_uk (by decide)).trans ((tm_uk (by decide)).trans ((tm_uk (by decide)).trans ((tm_uk (by decide)).trans ((tm_uk (by decide)).trans ((tm_uk (by decide)).trans ((tm_ua b).trans (tm_row_s (fun b => (tm_uk (by decide)).trans ((tm_uk (by decide)).trans ((tm_uk (by decide)).trans (tm_rr_90 b)))) v90 b)))))))))) (fun b => (tm_ua b).trans (tm_row_s (fun b => (tm_uk (by decide)).trans ((tm_uk (by decide)).trans ((tm_uk (by decide)).trans ((tm_uk (by decide)).trans ((tm_uk (by decide)).trans ((tm_uk (by decide)).trans ((tm_uk (by decide)).trans ((tm_uk (by decide)).trans ((tm_uk (by decide)).trans ((tm_uk (by decide)).trans ((tm_uk (by decide)).trans (tm_rr_91 b)))))))))))) v91 b)) (tm_end_n (fun b => (tm_uk (by decide)).trans ((tm_uk (by decide)).trans ((tm_uk (by decide)).trans ((tm_uk (by decide)).trans ((tm_uk (by decide)).trans ((tm_uk (by decide)).trans ((tm_uk (by decide)).trans ((tm_uk (by decide)).trans ((tm_uk (by decide)).trans ((tm_uk (by decide)).trans ((tm_uk (by decide)).trans ((tm_uk (by decide)).trans (tm_rr_92 b))))))))))))) hN) (fun a ha => by rw [tm_uf (show a ≠ 91 by omega), tm_uf (show a ≠ 88 by omega), tm_uf (show a ≠ 87 by omega), tm_uf (show a ≠ 74 by omega), tm_uf (show a ≠ 74 by omega), tm_uf (show a ≠ 74 by omega), tm_uf (show a ≠ 74 by omega), tm_uf (show a ≠ 89 by omega), tm_uf (show a ≠ 90 by omega), tm_uf (show a ≠ 89 by omega), tm_uf (show a ≠ 74 by omega), tm_uf (show a ≠ 74 by omega), tm_rr_o ha])
      · skip
        obtain rfl := hC hc
        refine tv_aload_n (pc := 51) 0 C dX8_goesBy_51 rfl rfl ?_
        refine tv_getr (pc := 52) (q := 87) C rfl rfl fl_X8_46 dX8_goesBy_52 ?_
        refine tv_iload_n (pc := 55) 1 C dX8_goesBy_55 rfl rfl ?_
        refine tv_aload_n (pc := 56) 0 C dX8_goesBy_56 rfl rfl ?_
        refine tv_geti (pc := 57) (z := max (sm_wet p h (sm_z p h) - (3 - (p 6 ((p 4 (sm_q p h)).toNat)))) 0) C rfl rfl fl_X8_176 dX8_goesBy_57 ((tm_uj (by decide)).trans ((tm_uk (by decide)).trans ((tm_uj (by decide)).trans ((tm_uj (by decide)).trans ((tm_uj (by decide)).trans (tm_us)))))) ?_
        refine tv_iast (pc := 60) (j := h) C rfl dX8_goesBy_60 (by omega) (by omega) ?_
        refine tv_aload_n (pc := 61) 0 C dX8_goesBy_61 rfl rfl ?_
        refine tv_getr (pc := 62) (q := 88) C rfl rfl fl_X8_49 dX8_goesBy_62 ?_
        refine tv_iload_n (pc := 65) 1 C dX8_goesBy_65 rfl rfl ?_
        refine tv_aload_n (pc := 66) 0 C dX8_goesBy_66 rfl rfl ?_
        refine tv_geti (pc := 67) (z := sm_t p h + 1) C rfl rfl fl_X8_194 dX8_goesBy_67 ((tm_uk (by decide)).trans ((tm_uj (by decide)).trans ((tm_uk (by decide)).trans ((tm_uj (by decide)).trans (tm_us))))) ?_
        refine tv_iast (pc := 70) (j := h) C rfl dX8_goesBy_70 (by omega) (by omega) ?_
        refine tv_aload_n (pc := 71) 0 C dX8_goesBy_71 rfl rfl ?_
        refine tv_getr (pc := 72) (q := 91) C rfl rfl fl_X8_58 dX8_goesBy_72 ?_
        refine tv_iload_n (pc := 75) 1 C dX8_goesBy_75 rfl rfl ?_
        refine tv_aload_n (pc := 76) 0 C dX8_goesBy_76 rfl rfl ?_
        refine tv_geti (pc := 77) (z := sm_w p h + 1) C rfl rfl fl_X8_188 dX8_goesBy_77 ((tm_uk (by decide)).trans ((tm_uk (by decide)).trans ((tm_uj (by decide)).trans ((tm_uk (by decide)).trans ((tm_uj (by decide)).trans ((tm_uj (by decide)).trans (tm_us))))))) ?_
        refine tv_aload_n (pc := 80) 0 C dX8_goesBy_80 rfl rfl ?_
        refine tv_getr (pc := 81) (q := 82) C rfl rfl fl_X8_31 dX8_goesBy_81 ?_
        refine tv_iconst (pc := 84) C dX8_goesBy_84 ?_
        refine tv_iald (pc := 85) (j := 4) (z := p 0 4) C rfl dX8_goesBy_85 (by omega) rfl ((tm_uk (by decide)).trans ((tm_uk (by decide)).trans ((tm_uk (by decide)).trans ((tm_uk (by decide)).trans ((tm_uk (by decide)).trans ((tm_uk (by decide)).trans ((tm_uk (by decide)).trans ((tm_uk (by decide)).trans ((tm_uk (by decide)).trans ((tm_uk (by decide)).trans ((tm_uk (by decide)).trans ((tm_uk (by decide)).trans ((tm_uk (by decide)).trans (((congrFun (tm_rr_o (by omega)) _).trans (by rw [hpe]; rfl)))))))))))))))) ?_
        refine tv_idiv (pc := 86) C dX8_goesBy_86 (by omega) (by omega) ?_
        refine tv_iast (pc := 87) (j := h) C rfl dX8_goesBy_87 (by omega) (by omega) ?_
        refine tv_vret (pc := 88) C dX8_goesBy_88 ?_
        have hG : sm_G p h = 1 := by rw [sm_G_eq ho hdr (by omega), if_pos (by omega)]
        have hN : sm_N p h = true := (sm_N_l ho (by omega)).mpr ⟨hG, hc.2⟩
        have hgg : sm_g p (sm_q p h) = p 6 (p 4 (sm_q p h)).toNat := sm_g_in ho (by omega)
        have e21 : max (sm_wet p h (sm_z p h) - (3 - (p 6 ((p 4 (sm_q p h)).toNat)))) 0 = sm_z p (h + 1) := by rw [sm_z_s, hG, hgg]; omega
        have e22 : sm_w p h + 1 = sm_w p (h + 1) := by rw [sm_w_s, if_neg hdr]; omega
        have e23 : sm_t p h + 1 = sm_t p (h + 1) := by rw [sm_t_s]; omega
        have e25 : sm_i p h = sm_i p (h + 1) := by rw [sm_i_s]; rw [if_neg hdr, if_neg (by omega), hG]; omega
        have e26 : (sm_q p h : Int) + 1 = (sm_q p (h + 1) : Int) := by rw [sm_q_s, if_pos hN]; omega
        have e27 : (if (sm_q p h : Int) + 1 < p 5 0 then (p 7 (p 4 (sm_q p h + 1)).toNat) else 0) = sm_l p (h + 1) := by rw [sm_l_y hN]
        have v89 : ((p 4 (sm_q p h)).toNat : Int) = sm_a p h := by unfold sm_a; rw [if_neg hdr, hff]; exact Int.toNat_of_nonneg hrow.1.1
        have v90 : 0 = sm_d p h := by unfold sm_d; rw [if_neg hdr, if_neg (by omega), hG]; rfl
        have v91 : (sm_w p h + 1) / (p 0 4) = sm_u p h := by unfold sm_u; rw [← e22, hp04]
        refine ⟨rfl, ?_⟩
        exact tm_rr_eq (tm_f74 (((tm_uk (by decide)).trans ((tm_uk (by decide)).trans ((tm_uk (by decide)).trans ((tm_uj (by decide)).trans ((tm_uk (by decide)).trans ((tm_uj (by decide)).trans ((tm_uj (by decide)).trans ((tm_uj (by decide)).trans (tm_us))))))))).trans e21) (((tm_uk (by decide)).trans ((tm_uk (by decide)).trans ((tm_uk (by decide)).trans ((tm_uj (by decide)).trans ((tm_uk (by decide)).trans ((tm_uj (by decide)).trans ((tm_uj (by decide)).trans (tm_us)))))))).trans e22) (((tm_uk (by decide)).trans ((tm_uk (by decide)).trans ((tm_uk (by decide)).trans ((tm_uj (by decide)).trans ((tm_uk (by decide)).trans ((tm_uj (by decide)).trans (tm_us))))))).trans e23) ((tm_uk (by decide)).trans ((tm_uk (by decide)).trans ((tm_uk (by decide)).trans ((tm_uj (by decide)).trans ((tm_uk (by decide)).trans ((tm_uj (by decide)).trans ((tm_uj (by decide)).trans ((tm_uj (by decide)).trans ((tm_uj (by decide)).trans ((tm_uk (by decide)).trans ((tm_uk (by decide)).trans ((tm_uk (by decide)).trans (tm_us))))))))))))) (((tm_uk (by decide)).trans ((tm_uk (by decide)).trans ((tm_uk (by decide)).trans ((tm_uj (by decide)).trans ((tm_uk (by decide)).trans ((tm_uj (by decide)).trans ((tm_uj (by decide)).trans ((tm_uj (by decide)).trans ((tm_uj (by decide)).trans ((tm_uk (by decide)).trans ((tm_uk (by decide)).trans ((tm_uk (by decide)).trans ((tm_uj (by decide)).trans ((tm_uj (by decide)).trans ((tm_rr_f 25)))))))))))))))).trans e25) (((tm_uk (by decide)).trans ((tm_uk (by decide)).trans ((tm_uk (by decide)).trans (tm_us)))).trans e26) (((tm_uk (by decide)).trans ((tm_uk (by decide)).trans ((tm_uk (by decide)).trans ((tm_uj (by decide)).trans ((tm_uk (by decide)).trans (tm_us)))))).trans e27) (fun x hx => by rw [tm_uk (by decide), tm_uk (by decide), tm_uk (by decide), tm_uj (by omega), tm_uk (by decide), tm_uj (by omega), tm_uj (by omega), tm_uj (by omega), tm_uj (by omega), tm_uk (by decide), tm_uk (by decide), tm_uk (by decide), tm_uj (by omega), tm_uj (by omega), tm_rr_g hx])) (fun b => (tm_uk (by decide)).trans ((tm_uk (by decide)).trans ((tm_ua b).trans (tm_row_s (fun b => (tm_uk (by decide)).trans ((tm_uk (by decide)).trans ((tm_uk (by decide)).trans ((tm_uk (by decide)).trans ((tm_uk (by decide)).trans ((tm_uk (by decide)).trans ((tm_uk (by decide)).trans ((tm_uk (by decide)).trans ((tm_uk (by decide)).trans ((tm_uk (by decide)).trans ((tm_uk (by decide)).trans (tm_rr_87 b)))))))))))) e21 b)))) (fun b => (tm_uk (by decide)).trans ((tm_ua b).trans (tm_row_s (fun b => (tm_uk (by decide)).trans ((tm_uk (by decide)).trans ((tm_uk (by decide)).trans ((tm_uk (by decide)).trans ((tm_uk (by decide)).trans ((tm_uk (by decide)).trans ((tm_uk (by decide)).trans ((tm_uk (by decide)).trans ((tm_uk (by decide)).trans ((tm_uk (by decide)).trans ((tm_uk (by decide)).trans ((tm_uk (by decide)).trans (tm_rr_88 b))))))))))))) e23 b))) (fun b => (tm_uk (by decide)).trans ((tm_uk (by decide)).trans ((tm_uk (by decide)).trans ((tm_uk (by decide)).trans ((tm_uk (by decide)).trans ((tm_uk (by decide)).trans ((tm_uk (by decide)).trans ((tm_uk (by decide)).trans ((tm_uk (by decide)).trans (((tm_ua b).trans (congrArg (fun y => if b = h then ((p 4 (sm_q p h)).toNat : Int) else y) ((tm_uk (by decide)).trans ((tm_ua b))))).trans (tm_row_t (fun b => (tm_uk (by decide)).trans ((tm_uk (by decide)).trans (tm_rr_89 b))) v89 b))))))))))) (fun b => (tm_uk (by decide)).trans ((tm_uk (by decide)).trans ((tm_uk (by decide)).trans ((tm_uk (by decide)).trans ((tm_uk (by decide)).trans ((tm_uk (by decide)).trans ((tm_uk (by decide)).trans ((tm_uk (by decide)).trans ((tm_uk (by decide)).trans ((tm_uk (by decide)).trans ((tm_ua b).trans (tm_row_s (fun b => (tm_uk (by decide)).trans ((tm_uk (by decide)).trans ((tm_uk (by decide)).trans (tm_rr_90 b)))) v90 b)))))))))))) (fun b => (tm_ua b).trans (tm_row_s (fun b => (tm_uk (by decide)).trans ((tm_uk (by decide)).trans ((tm_uk (by decide)).trans ((tm_uk (by decide)).trans ((tm_uk (by decide)).trans ((tm_uk (by decide)).trans ((tm_uk (by decide)).trans ((tm_uk (by decide)).trans ((tm_uk (by decide)).trans ((tm_uk (by decide)).trans ((tm_uk (by decide)).trans ((tm_uk (by decide)).trans ((tm_uk (by decide)).trans (tm_rr_91 b)))))))))))))) v91 b)) (fun b => (tm_uk (by decide)).trans ((tm_uk (by decide)).trans ((tm_uk (by decide)).trans ((tm_uk (by decide)).trans ((tm_ua b).trans (tm_end_s (fun b => (tm_uk (by decide)).trans ((tm_uk (by decide)).trans ((tm_uk (by decide)).trans ((tm_uk (by decide)).trans ((tm_uk (by decide)).trans ((tm_uk (by decide)).trans ((tm_uk (by decide)).trans ((tm_uk (by decide)).trans ((tm_uk (by decide)).trans (tm_rr_92 b)))))))))) hN rfl (by rw [hff]) (by omega) b)))))) (fun a ha => by rw [tm_uf (show a ≠ 91 by omega), tm_uf (show a ≠ 88 by omega), tm_uf (show a ≠ 87 by omega), tm_uf (show a ≠ 74 by omega), tm_uf (show a ≠ 92 by omega), tm_uf (show a ≠ 74 by omega), tm_uf (show a ≠ 74 by omega), tm_uf (show a ≠ 74 by omega), tm_uf (show a ≠ 74 by omega), tm_uf (show a ≠ 89 by omega), tm_uf (show a ≠ 90 by omega), tm_uf (show a ≠ 89 by omega), tm_uf (show a ≠ 74 by omega), tm_uf (show a ≠ 74 by omega), tm_rr_o ha])
  · skip
    rw [← hpe] at h24
    have hdr : 0 < p 3 h := h24
    refine tv_aload_n (pc := 27) 0 C dX8_goesBy_27 rfl rfl ?_
    refine tv_iconst (pc := 28) C dX8_goesBy_28 ?_
    refine tv_puti (pc := 29) C rfl rfl fp_X8_188 dX8_goesBy_29 ?_
    refine tv_goto (pc := 32) 51 C dX8_goesBy_32 (by decide) ?_
    refine tv_aload_n (pc := 51) 0 C dX8_goesBy_51 rfl rfl ?_
    refine tv_getr (pc := 52) (q := 87) C rfl rfl fl_X8_46 dX8_goesBy_52 ?_
    refine tv_iload_n (pc := 55) 1 C dX8_goesBy_55 rfl rfl ?_
    refine tv_aload_n (pc := 56) 0 C dX8_goesBy_56 rfl rfl ?_
    refine tv_geti (pc := 57) (z := sm_wet p h (sm_z p h)) C rfl rfl fl_X8_176 dX8_goesBy_57 ((tm_uj (by decide)).trans ((tm_uk (by decide)).trans ((tm_uk (by decide)).trans ((tm_uj (by decide)).trans (tm_us))))) ?_
    refine tv_iast (pc := 60) (j := h) C rfl dX8_goesBy_60 (by omega) (by omega) ?_
    refine tv_aload_n (pc := 61) 0 C dX8_goesBy_61 rfl rfl ?_
    refine tv_getr (pc := 62) (q := 88) C rfl rfl fl_X8_49 dX8_goesBy_62 ?_
    refine tv_iload_n (pc := 65) 1 C dX8_goesBy_65 rfl rfl ?_
    refine tv_aload_n (pc := 66) 0 C dX8_goesBy_66 rfl rfl ?_
    refine tv_geti (pc := 67) (z := sm_t p h) C rfl rfl fl_X8_194 dX8_goesBy_67 ((tm_uk (by decide)).trans ((tm_uj (by decide)).trans ((tm_uk (by decide)).trans ((tm_uk (by decide)).trans ((tm_uj (by decide)).trans ((tm_uj (by decide)).trans ((tm_rr_f 23)))))))) ?_
    refine tv_iast (pc := 70) (j := h) C rfl dX8_goesBy_70 (by omega) (by omega) ?_
    refine tv_aload_n (pc := 71) 0 C dX8_goesBy_71 rfl rfl ?_
    refine tv_getr (pc := 72) (q := 91) C rfl rfl fl_X8_58 dX8_goesBy_72 ?_
    refine tv_iload_n (pc := 75) 1 C dX8_goesBy_75 rfl rfl ?_
    refine tv_aload_n (pc := 76) 0 C dX8_goesBy_76 rfl rfl ?_
    refine tv_geti (pc := 77) (z := 0) C rfl rfl fl_X8_188 dX8_goesBy_77 ((tm_uk (by decide)).trans ((tm_uk (by decide)).trans (tm_us))) ?_
    refine tv_aload_n (pc := 80) 0 C dX8_goesBy_80 rfl rfl ?_
    refine tv_getr (pc := 81) (q := 82) C rfl rfl fl_X8_31 dX8_goesBy_81 ?_
    refine tv_iconst (pc := 84) C dX8_goesBy_84 ?_
    refine tv_iald (pc := 85) (j := 4) (z := p 0 4) C rfl dX8_goesBy_85 (by omega) rfl ((tm_uk (by decide)).trans ((tm_uk (by decide)).trans ((tm_uk (by decide)).trans ((tm_uk (by decide)).trans ((tm_uk (by decide)).trans ((tm_uk (by decide)).trans ((tm_uk (by decide)).trans (((congrFun (tm_rr_o (by omega)) _).trans (by rw [hpe]; rfl)))))))))) ?_
    refine tv_idiv (pc := 86) C dX8_goesBy_86 (by omega) (by omega) ?_
    refine tv_iast (pc := 87) (j := h) C rfl dX8_goesBy_87 (by omega) (by omega) ?_
    refine tv_vret (pc := 88) C dX8_goesBy_88 ?_
    have hG : sm_G p h = 0 := sm_G_d hdr
    have hN : ¬ sm_N p h = true := fun qq => by have q2 := ((sm_N_iff p h).mp qq).1; omega
    have e21 : sm_wet p h (sm_z p h) = sm_z p (h + 1) := by rw [sm_z_s, hG]; omega
    have e22 : 0 = sm_w p (h + 1) := by rw [sm_w_s, if_pos hdr]
    have e23 : sm_t p h = sm_t p (h + 1) := by rw [sm_t_s]; omega
    have e25 : sm_i p h = sm_i p (h + 1) := by rw [sm_i_s]; rw [if_pos hdr]; omega
    have e26 : (sm_q p h : Int) = (sm_q p (h + 1) : Int) := by rw [sm_q_s, if_neg hN]
    have e27 : (sm_l p h) = sm_l p (h + 1) := by rw [sm_l_n ho hN, hG]; omega
    have v89 : -1 = sm_a p h := by unfold sm_a; rw [if_pos hdr]
    have v90 : 0 = sm_d p h := by unfold sm_d; rw [if_pos hdr]
    have v91 : 0 / (p 0 4) = sm_u p h := by unfold sm_u; rw [← e22, hp04]
    refine ⟨rfl, ?_⟩
    exact tm_rr_eq (tm_f74 (((tm_uk (by decide)).trans ((tm_uk (by decide)).trans ((tm_uk (by decide)).trans ((tm_uj (by decide)).trans ((tm_uk (by decide)).trans ((tm_uk (by decide)).trans ((tm_uj (by decide)).trans (tm_us)))))))).trans e21) (((tm_uk (by decide)).trans ((tm_uk (by decide)).trans ((tm_uk (by decide)).trans (tm_us)))).trans e22) (((tm_uk (by decide)).trans ((tm_uk (by decide)).trans ((tm_uk (by decide)).trans ((tm_uj (by decide)).trans ((tm_uk (by decide)).trans ((tm_uk (by decide)).trans ((tm_uj (by decide)).trans ((tm_uj (by decide)).trans ((tm_rr_f 23)))))))))).trans e23) ((tm_uk (by decide)).trans ((tm_uk (by decide)).trans ((tm_uk (by decide)).trans ((tm_uj (by decide)).trans ((tm_uk (by decide)).trans ((tm_uk (by decide)).trans (tm_us))))))) (((tm_uk (by decide)).trans ((tm_uk (by decide)).trans ((tm_uk (by decide)).trans ((tm_uj (by decide)).trans ((tm_uk (by decide)).trans ((tm_uk (by decide)).trans ((tm_uj (by decide)).trans ((tm_uj (by decide)).trans ((tm_rr_f 25)))))))))).trans e25) (((tm_uk (by decide)).trans ((tm_uk (by decide)).trans ((tm_uk (by decide)).trans ((tm_uj (by decide)).trans ((tm_uk (by decide)).trans ((tm_uk (by decide)).trans ((tm_uj (by decide)).trans ((tm_uj (by decide)).trans ((tm_rr_f 26)))))))))).trans e26) (((tm_uk (by decide)).trans ((tm_uk (by decide)).trans ((tm_uk (by decide)).trans ((tm_uj (by decide)).trans ((tm_uk (by decide)).trans ((tm_uk (by decide)).trans ((tm_uj (by decide)).trans ((tm_uj (by decide)).trans ((tm_rr_f 27)))))))))).trans e27) (fun x hx => by rw [tm_uk (by decide), tm_uk (by decide), tm_uk (by decide), tm_uj (by omega), tm_uk (by decide), tm_uk (by decide), tm_uj (by omega), tm_uj (by omega), tm_rr_g hx])) (fun b => (tm_uk (by decide)).trans ((tm_uk (by decide)).trans ((tm_ua b).trans (tm_row_s (fun b => (tm_uk (by decide)).trans ((tm_uk (by decide)).trans ((tm_uk (by decide)).trans ((tm_uk (by decide)).trans ((tm_uk (by decide)).trans (tm_rr_87 b)))))) e21 b)))) (fun b => (tm_uk (by decide)).trans ((tm_ua b).trans (tm_row_s (fun b => (tm_uk (by decide)).trans ((tm_uk (by decide)).trans ((tm_uk (by decide)).trans ((tm_uk (by decide)).trans ((tm_uk (by decide)).trans ((tm_uk (by decide)).trans (tm_rr_88 b))))))) e23 b))) (fun b => (tm_uk (by decide)).trans ((tm_uk (by decide)).trans ((tm_uk (by decide)).trans ((tm_uk (by decide)).trans ((tm_uk (by decide)).trans ((tm_ua b).trans (tm_row_s (fun b => (tm_uk (by decide)).trans ((tm_uk (by decide)).trans (tm_rr_89 b))) v89 b))))))) (fun b => (tm_uk (by decide)).trans ((tm_uk (by decide)).trans ((tm_uk (by decide)).trans ((tm_uk (by decide)).trans ((tm_ua b).trans (tm_row_s (fun b => (tm_uk (by decide)).trans ((tm_uk (by decide)).trans ((tm_uk (by decide)).trans (tm_rr_90 b)))) v90 b)))))) (fun b => (tm_ua b).trans (tm_row_s (fun b => (tm_uk (by decide)).trans ((tm_uk (by decide)).trans ((tm_uk (by decide)).trans ((tm_uk (by decide)).trans ((tm_uk (by decide)).trans ((tm_uk (by decide)).trans ((tm_uk (by decide)).trans (tm_rr_91 b)))))))) v91 b)) (tm_end_n (fun b => (tm_uk (by decide)).trans ((tm_uk (by decide)).trans ((tm_uk (by decide)).trans ((tm_uk (by decide)).trans ((tm_uk (by decide)).trans ((tm_uk (by decide)).trans ((tm_uk (by decide)).trans ((tm_uk (by decide)).trans (tm_rr_92 b))))))))) hN) (fun a ha => by rw [tm_uf (show a ≠ 91 by omega), tm_uf (show a ≠ 88 by omega), tm_uf (show a ≠ 87 by omega), tm_uf (show a ≠ 74 by omega), tm_uf (show a ≠ 90 by omega), tm_uf (show a ≠ 89 by omega), tm_uf (show a ≠ 74 by omega), tm_uf (show a ≠ 74 by omega), tm_rr_o ha])
