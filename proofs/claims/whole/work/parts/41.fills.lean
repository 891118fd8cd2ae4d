theorem c8_isIn (E : tm_Ev) (l : Launch) (μ : tm_M) (x : Int) (k : Nat) (hx : 0 ≤ x ∧ x ≤ 2147483647) (hk : k < 32) : tm_Met E l yX8_isIn cX8_isIn 2 (some .boolean) 0 [tm_i x, tm_i (k : Int)] μ (tm_pi (fun z μ' => z = (if tb_t x k = true then 1 else 0) ∧ μ' = μ)) := by
  refine tm_intro [(0, tm_i x), (1, tm_i (k : Int))] rfl (by decide +kernel) (Nat.le_of_ble_eq_true rfl) ?_
  intro X hX C
  subst hX
  have hq : 0 ≤ x / 2 ^ k ∧ x / 2 ^ k ≤ x := ⟨Int.ediv_nonneg hx.1 (Int.le_of_lt (Int.pow_pos (by omega))), Int.ediv_le_self _ hx.1⟩
  have hq2 : 0 ≤ x / 2 ^ k % 2 ∧ x / 2 ^ k % 2 < 2 := by omega
  refine tv_iload_n (pc := 0) 0 C dX8_isIn_0 rfl rfl ?_
  refine tv_iload_n (pc := 1) 1 C dX8_isIn_1 rfl rfl ?_
  refine tv_ishr (pc := 2) (z := (x / 2 ^ k)) C dX8_isIn_2 (tb_shr hx hk) ?_
  refine tv_iconst (pc := 3) C dX8_isIn_3 ?_
  refine tv_iand (pc := 4) (z := (x / 2 ^ k % 2)) C dX8_isIn_4 (tb_and1 ⟨hq.1, Int.le_trans hq.2 hx.2⟩) ?_
  refine tv_iconst (pc := 5) C dX8_isIn_5 ?_
  refine tv_icmp_ne (pc := 6) 13 C dX8_isIn_6 (by decide) (by omega) (by omega) (fun h6 => ?_) (fun h6 => ?_)
  · skip
    refine tv_iconst (pc := 13) C dX8_isIn_13 ?_
    refine tv_zret (pc := 14) C dX8_isIn_14 (by omega) ?_
    exact ⟨_, rfl, by unfold tb_t; simp only [decide_eq_true_eq]; split <;> omega, rfl⟩
  · skip
    refine tv_iconst (pc := 9) C dX8_isIn_9 ?_
    refine tv_goto (pc := 10) 14 C dX8_isIn_10 (by decide) ?_
    refine tv_zret (pc := 14) C dX8_isIn_14 (by omega) ?_
    exact ⟨_, rfl, by unfold tb_t; simp only [decide_eq_true_eq]; split <;> omega, rfl⟩
set_option maxHeartbeats 4000000 in
theorem l_fills {E : tm_Ev} {X : tm_X} (C : tm_C E X yX8_fills.cls cX8_fills 4 none 1) (μ : tm_M) (h : Nat) (hh : h < 40) (hz : 0 ≤ μ 74 21 ∧ μ 74 21 ≤ 20) (hsea : 0 ≤ μ 85 h ∧ μ 85 h ≤ 18) (hfl : 1 ≤ μ 74 20 ∧ μ 74 20 ≤ 9) (hlk : 0 ≤ μ 82 2 ∧ μ 82 2 ≤ 9) (hnr : 0 ≤ μ 74 10 ∧ μ 74 10 ≤ 6) (hno : 0 ≤ μ 74 15 ∧ μ 74 15 ≤ 1000) (hls : 0 ≤ μ 74 24 ∧ μ 74 24 ≤ 100000) (hrh : ∀ k : Nat, (k : Int) < μ 74 10 → 0 ≤ μ 83 k ∧ μ 83 k ≤ 39) (post : Option Value → tm_M → Prop) (hpost : post none (tm_up (tm_up μ 74 21 (sp_wet (μ 85 h) (μ 74 21) (μ 74 20) (rm_c μ h (μ 74 10).toNat) (μ 82 2))) 74 24 (μ 74 24 + sp_spl (μ 85 h) (μ 74 21) (μ 74 20) (rm_c μ h (μ 74 10).toNat)))) : ∀ (f k : Nat) (x : Int), x = k → (k : Int) ≤ μ 74 10 → 6 - k < f → tm_V E X (tm_Q E X post) 4 47 [(3, tm_i x), (0, .ref (E.2.1 74)), (1, tm_i (h : Int))] [] (tm_up μ 74 21 ((μ 74 21 + min (max (μ 85 h - μ 74 21) 0) (μ 74 20)) + 3 * rm_c μ h k)) := by
  intro f
  induction f with
  | zero => intro k x hx hk hf; omega
  | succ f ih =>
    intro k x hx hk hf
    have hcb : 0 ≤ rm_c μ h k ∧ rm_c μ h k ≤ k := ct_bd _ k
    refine tv_iload_n (pc := 47) 0 C dX8_fills_47 rfl rfl ?_
    refine tv_aload_n (pc := 48) 1 C dX8_fills_48 rfl rfl ?_
    refine tv_geti (pc := 49) (z := μ 74 10) C rfl rfl fl_X8_146 dX8_fills_49 ((tm_uj (by decide)).trans (rfl)) ?_
    refine tv_icmp_ge (pc := 52) 96 C dX8_fills_52 (by decide) (by omega) (by omega) (fun h52 => ?_) (fun h52 => ?_)
    · skip
      refine tv_aload_n (pc := 96) 1 C dX8_fills_96 rfl rfl ?_
      refine tv_dup (pc := 97) C dX8_fills_97 rfl ?_
      refine tv_geti (pc := 98) (z := μ 74 24) C rfl rfl fl_X8_182 dX8_fills_98 ((tm_uj (by decide)).trans (rfl)) ?_
      refine tv_aload_n (pc := 101) 1 C dX8_fills_101 rfl rfl ?_
      refine tv_geti (pc := 102) (z := (μ 74 21 + min (max (μ 85 h - μ 74 21) 0) (μ 74 20)) + 3 * rm_c μ h k) C rfl rfl fl_X8_176 dX8_fills_102 tm_us ?_
      refine tv_bipush (pc := 105) C dX8_fills_105 (by decide) ?_
      refine tv_icmp_le (pc := 107) 120 C dX8_fills_107 (by decide) (by omega) (by omega) (fun h107 => ?_) (fun h107 => ?_)
      · skip
        refine tv_iconst (pc := 120) C dX8_fills_120 ?_
        refine tv_iadd (pc := 121) C dX8_fills_121 ?_
        refine tv_puti (pc := 122) C rfl rfl fp_X8_182 dX8_fills_122 ?_
        refine tv_aload_n (pc := 125) 1 C dX8_fills_125 rfl rfl ?_
        refine tv_aload_n (pc := 126) 1 C dX8_fills_126 rfl rfl ?_
        refine tv_geti (pc := 127) (z := (μ 74 21 + min (max (μ 85 h - μ 74 21) 0) (μ 74 20)) + 3 * rm_c μ h k) C rfl rfl fl_X8_176 dX8_fills_127 ((tm_uj (by decide)).trans (tm_us)) ?_
        refine tv_bipush (pc := 130) C dX8_fills_130 (by decide) ?_
        refine tv_icmp_le (pc := 132) 140 C dX8_fills_132 (by decide) (by omega) (by omega) (fun h132 => ?_) (fun h132 => ?_)
        · skip
          refine tv_aload_n (pc := 140) 1 C dX8_fills_140 rfl rfl ?_
          refine tv_geti (pc := 141) (z := (μ 74 21 + min (max (μ 85 h - μ 74 21) 0) (μ 74 20)) + 3 * rm_c μ h k) C rfl rfl fl_X8_176 dX8_fills_141 ((tm_uj (by decide)).trans (tm_us)) ?_
          refine tv_puti (pc := 144) C rfl rfl fp_X8_176 dX8_fills_144 ?_
          refine tv_mem (tm_up (tm_up μ 74 21 ((μ 74 21 + min (max (μ 85 h - μ 74 21) 0) (μ 74 20)) + 3 * rm_c μ h k)) 74 24 ((μ 74 24) + 0)) ((tm_uc (Or.inr (by decide))).trans (congrArg (fun m => tm_up m 74 24 ((μ 74 24) + 0)) tm_uu)) ?_
          refine tv_aload_n (pc := 147) 1 C dX8_fills_147 rfl rfl ?_
          refine tv_aload_n (pc := 148) 1 C dX8_fills_148 rfl rfl ?_
          refine tv_geti (pc := 149) (z := (μ 74 21 + min (max (μ 85 h - μ 74 21) 0) (μ 74 20)) + 3 * rm_c μ h k) C rfl rfl fl_X8_176 dX8_fills_149 ((tm_uj (by decide)).trans (tm_us)) ?_
          refine tv_aload_n (pc := 152) 1 C dX8_fills_152 rfl rfl ?_
          refine tv_getr (pc := 153) (q := 82) C rfl rfl fl_X8_31 dX8_fills_153 ?_
          refine tv_iconst (pc := 156) C dX8_fills_156 ?_
          refine tv_iald (pc := 157) (j := 2) (z := μ 82 2) C rfl dX8_fills_157 (by omega) rfl ((tm_uk (by decide)).trans ((tm_uk (by decide)).trans (rfl))) ?_
          refine tv_icmp_le (pc := 158) 175 C dX8_fills_158 (by decide) (by omega) (by omega) (fun h158 => ?_) (fun h158 => ?_)
          · skip
            refine tv_iconst (pc := 175) C dX8_fills_175 ?_
            refine tv_puti (pc := 176) C rfl rfl fp_X8_176 dX8_fills_176 ?_
            refine tv_mem (tm_up (tm_up μ 74 21 0) 74 24 ((μ 74 24) + 0)) ((tm_uc (Or.inr (by decide))).trans (congrArg (fun m => tm_up m 74 24 ((μ 74 24) + 0)) tm_uu)) ?_
            refine tv_vret (pc := 179) C dX8_fills_179 ?_
            have hrc : rm_c μ h k = rm_c μ h (μ 74 10).toNat := by congr 1; omega
            have ea : 0 = sp_wet (μ 85 h) (μ 74 21) (μ 74 20) (rm_c μ h (μ 74 10).toNat) (μ 82 2) := by rw [← hrc]; unfold sp_wet sp_fill; omega
            have eb : (μ 74 24) + 0 = μ 74 24 + sp_spl (μ 85 h) (μ 74 21) (μ 74 20) (rm_c μ h (μ 74 10).toNat) := by rw [← hrc]; unfold sp_spl sp_fill; omega
            rw [tm_cg (tm_cg rfl ea) eb]
            exact hpost
          · skip
            refine tv_aload_n (pc := 161) 1 C dX8_fills_161 rfl rfl ?_
            refine tv_geti (pc := 162) (z := (μ 74 21 + min (max (μ 85 h - μ 74 21) 0) (μ 74 20)) + 3 * rm_c μ h k) C rfl rfl fl_X8_176 dX8_fills_162 ((tm_uj (by decide)).trans (tm_us)) ?_
            refine tv_aload_n (pc := 165) 1 C dX8_fills_165 rfl rfl ?_
            refine tv_getr (pc := 166) (q := 82) C rfl rfl fl_X8_31 dX8_fills_166 ?_
            refine tv_iconst (pc := 169) C dX8_fills_169 ?_
            refine tv_iald (pc := 170) (j := 2) (z := μ 82 2) C rfl dX8_fills_170 (by omega) rfl ((tm_uk (by decide)).trans ((tm_uk (by decide)).trans (rfl))) ?_
            refine tv_isub (pc := 171) C dX8_fills_171 ?_
            refine tv_goto (pc := 172) 176 C dX8_fills_172 (by decide) ?_
            refine tv_puti (pc := 176) C rfl rfl fp_X8_176 dX8_fills_176 ?_
            refine tv_mem (tm_up (tm_up μ 74 21 (((μ 74 21 + min (max (μ 85 h - μ 74 21) 0) (μ 74 20)) + 3 * rm_c μ h k) - (μ 82 2))) 74 24 ((μ 74 24) + 0)) ((tm_uc (Or.inr (by decide))).trans (congrArg (fun m => tm_up m 74 24 ((μ 74 24) + 0)) tm_uu)) ?_
            refine tv_vret (pc := 179) C dX8_fills_179 ?_
            have hrc : rm_c μ h k = rm_c μ h (μ 74 10).toNat := by congr 1; omega
            have ea : ((μ 74 21 + min (max (μ 85 h - μ 74 21) 0) (μ 74 20)) + 3 * rm_c μ h k) - (μ 82 2) = sp_wet (μ 85 h) (μ 74 21) (μ 74 20) (rm_c μ h (μ 74 10).toNat) (μ 82 2) := by rw [← hrc]; unfold sp_wet sp_fill; omega
            have eb : (μ 74 24) + 0 = μ 74 24 + sp_spl (μ 85 h) (μ 74 21) (μ 74 20) (rm_c μ h (μ 74 10).toNat) := by rw [← hrc]; unfold sp_spl sp_fill; omega
            rw [tm_cg (tm_cg rfl ea) eb]
            exact hpost
        · skip
          refine tv_bipush (pc := 135) C dX8_fills_135 (by decide) ?_
          refine tv_goto (pc := 137) 144 C dX8_fills_137 (by decide) ?_
          refine tv_puti (pc := 144) C rfl rfl fp_X8_176 dX8_fills_144 ?_
          refine tv_mem (tm_up (tm_up μ 74 21 20) 74 24 ((μ 74 24) + 0)) ((tm_uc (Or.inr (by decide))).trans (congrArg (fun m => tm_up m 74 24 ((μ 74 24) + 0)) tm_uu)) ?_
          refine tv_aload_n (pc := 147) 1 C dX8_fills_147 rfl rfl ?_
          refine tv_aload_n (pc := 148) 1 C dX8_fills_148 rfl rfl ?_
          refine tv_geti (pc := 149) (z := 20) C rfl rfl fl_X8_176 dX8_fills_149 ((tm_uj (by decide)).trans (tm_us)) ?_
          refine tv_aload_n (pc := 152) 1 C dX8_fills_152 rfl rfl ?_
          refine tv_getr (pc := 153) (q := 82) C rfl rfl fl_X8_31 dX8_fills_153 ?_
          refine tv_iconst (pc := 156) C dX8_fills_156 ?_
          refine tv_iald (pc := 157) (j := 2) (z := μ 82 2) C rfl dX8_fills_157 (by omega) rfl ((tm_uk (by decide)).trans ((tm_uk (by decide)).trans (rfl))) ?_
          refine tv_icmp_le (pc := 158) 175 C dX8_fills_158 (by decide) (by omega) (by omega) (fun h158 => ?_) (fun h158 => ?_)
          · skip
            refine tv_iconst (pc := 175) C dX8_fills_175 ?_
            refine tv_puti (pc := 176) C rfl rfl fp_X8_176 dX8_fills_176 ?_
            refine tv_mem (tm_up (tm_up μ 74 21 0) 74 24 ((μ 74 24) + 0)) ((tm_uc (Or.inr (by decide))).trans (congrArg (fun m => tm_up m 74 24 ((μ 74 24) + 0)) tm_uu)) ?_
            refine tv_vret (pc := 179) C dX8_fills_179 ?_
            have hrc : rm_c μ h k = rm_c μ h (μ 74 10).toNat := by congr 1; omega
            have ea : 0 = sp_wet (μ 85 h) (μ 74 21) (μ 74 20) (rm_c μ h (μ 74 10).toNat) (μ 82 2) := by rw [← hrc]; unfold sp_wet sp_fill; omega
            have eb : (μ 74 24) + 0 = μ 74 24 + sp_spl (μ 85 h) (μ 74 21) (μ 74 20) (rm_c μ h (μ 74 10).toNat) := by rw [← hrc]; unfold sp_spl sp_fill; omega
            rw [tm_cg (tm_cg rfl ea) eb]
            exact hpost
          · skip
            refine tv_aload_n (pc := 161) 1 C dX8_fills_161 rfl rfl ?_
            refine tv_geti (pc := 162) (z := 20) C rfl rfl fl_X8_176 dX8_fills_162 ((tm_uj (by decide)).trans (tm_us)) ?_
            refine tv_aload_n (pc := 165) 1 C dX8_fills_165 rfl rfl ?_
            refine tv_getr (pc := 166) (q := 82) C rfl rfl fl_X8_31 dX8_fills_166 ?_
            refine tv_iconst (pc := 169) C dX8_fills_169 ?_
            refine tv_iald (pc := 170) (j := 2) (z := μ 82 2) C rfl dX8_fills_170 (by omega) rfl ((tm_uk (by decide)).trans ((tm_uk (by decide)).trans (rfl))) ?_
            refine tv_isub (pc := 171) C dX8_fills_171 ?_
            refine tv_goto (pc := 172) 176 C dX8_fills_172 (by decide) ?_
            refine tv_puti (pc := 176) C rfl rfl fp_X8_176 dX8_fills_176 ?_
            refine tv_mem (tm_up (tm_up μ 74 21 (20 - (μ 82 2))) 74 24 ((μ 74 24) + 0)) ((tm_uc (Or.inr (by decide))).trans (congrArg (fun m => tm_up m 74 24 ((μ 74 24) + 0)) tm_uu)) ?_
            refine tv_vret (pc := 179) C dX8_fills_179 ?_
            have hrc : rm_c μ h k = rm_c μ h (μ 74 10).toNat := by congr 1; omega
            have ea : 20 - (μ 82 2) = sp_wet (μ 85 h) (μ 74 21) (μ 74 20) (rm_c μ h (μ 74 10).toNat) (μ 82 2) := by rw [← hrc]; unfold sp_wet sp_fill; omega
            have eb : (μ 74 24) + 0 = μ 74 24 + sp_spl (μ 85 h) (μ 74 21) (μ 74 20) (rm_c μ h (μ 74 10).toNat) := by rw [← hrc]; unfold sp_spl sp_fill; omega
            rw [tm_cg (tm_cg rfl ea) eb]
            exact hpost
      · skip
        refine tv_aload_n (pc := 110) 1 C dX8_fills_110 rfl rfl ?_
        refine tv_geti (pc := 111) (z := (μ 74 21 + min (max (μ 85 h - μ 74 21) 0) (μ 74 20)) + 3 * rm_c μ h k) C rfl rfl fl_X8_176 dX8_fills_111 tm_us ?_
        refine tv_bipush (pc := 114) C dX8_fills_114 (by decide) ?_
        refine tv_isub (pc := 116) C dX8_fills_116 ?_
        refine tv_goto (pc := 117) 121 C dX8_fills_117 (by decide) ?_
        refine tv_iadd (pc := 121) C dX8_fills_121 ?_
        refine tv_puti (pc := 122) C rfl rfl fp_X8_182 dX8_fills_122 ?_
        refine tv_aload_n (pc := 125) 1 C dX8_fills_125 rfl rfl ?_
        refine tv_aload_n (pc := 126) 1 C dX8_fills_126 rfl rfl ?_
        refine tv_geti (pc := 127) (z := (μ 74 21 + min (max (μ 85 h - μ 74 21) 0) (μ 74 20)) + 3 * rm_c μ h k) C rfl rfl fl_X8_176 dX8_fills_127 ((tm_uj (by decide)).trans (tm_us)) ?_
        refine tv_bipush (pc := 130) C dX8_fills_130 (by decide) ?_
        refine tv_icmp_le (pc := 132) 140 C dX8_fills_132 (by decide) (by omega) (by omega) (fun h132 => ?_) (fun h132 => ?_)
        · skip
          refine tv_aload_n (pc := 140) 1 C dX8_fills_140 rfl rfl ?_
          refine tv_geti (pc := 141) (z := (μ 74 21 + min (max (μ 85 h - μ 74 21) 0) (μ 74 20)) + 3 * rm_c μ h k) C rfl rfl fl_X8_176 dX8_fills_141 ((tm_uj (by decide)).trans (tm_us)) ?_
          refine tv_puti (pc := 144) C rfl rfl fp_X8_176 dX8_fills_144 ?_
          refine tv_mem (tm_up (tm_up μ 74 21 ((μ 74 21 + min (max (μ 85 h - μ 74 21) 0) (μ 74 20)) + 3 * rm_c μ h k)) 74 24 ((μ 74 24) + (((μ 74 21 + min (max (μ 85 h - μ 74 21) 0) (μ 74 20)) + 3 * rm_c μ h k) - 20))) ((tm_uc (Or.inr (by decide))).trans (congrArg (fun m => tm_up m 74 24 ((μ 74 24) + (((μ 74 21 + min (max (μ 85 h - μ 74 21) 0) (μ 74 20)) + 3 * rm_c μ h k) - 20))) tm_uu)) ?_
          refine tv_aload_n (pc := 147) 1 C dX8_fills_147 rfl rfl ?_
          refine tv_aload_n (pc := 148) 1 C dX8_fills_148 rfl rfl ?_
          refine tv_geti (pc := 149) (z := (μ 74 21 + min (max (μ 85 h - μ 74 21) 0) (μ 74 20)) + 3 * rm_c μ h k) C rfl rfl fl_X8_176 dX8_fills_149 ((tm_uj (by decide)).trans (tm_us)) ?_
          refine tv_aload_n (pc := 152) 1 C dX8_fills_152 rfl rfl ?_
          refine tv_getr (pc := 153) (q := 82) C rfl rfl fl_X8_31 dX8_fills_153 ?_
          refine tv_iconst (pc := 156) C dX8_fills_156 ?_
          refine tv_iald (pc := 157) (j := 2) (z := μ 82 2) C rfl dX8_fills_157 (by omega) rfl ((tm_uk (by decide)).trans ((tm_uk (by decide)).trans (rfl))) ?_
          refine tv_icmp_le (pc := 158) 175 C dX8_fills_158 (by decide) (by omega) (by omega) (fun h158 => ?_) (fun h158 => ?_)
          · skip
            refine tv_iconst (pc := 175) C dX8_fills_175 ?_
            refine tv_puti (pc := 176) C rfl rfl fp_X8_176 dX8_fills_176 ?_
            refine tv_mem (tm_up (tm_up μ 74 21 0) 74 24 ((μ 74 24) + (((μ 74 21 + min (max (μ 85 h - μ 74 21) 0) (μ 74 20)) + 3 * rm_c μ h k) - 20))) ((tm_uc (Or.inr (by decide))).trans (congrArg (fun m => tm_up m 74 24 ((μ 74 24) + (((μ 74 21 + min (max (μ 85 h - μ 74 21) 0) (μ 74 20)) + 3 * rm_c μ h k) - 20))) tm_uu)) ?_
            refine tv_vret (pc := 179) C dX8_fills_179 ?_
            have hrc : rm_c μ h k = rm_c μ h (μ 74 10).toNat := by congr 1; omega
            have ea : 0 = sp_wet (μ 85 h) (μ 74 21) (μ 74 20) (rm_c μ h (μ 74 10).toNat) (μ 82 2) := by rw [← hrc]; unfold sp_wet sp_fill; omega
            have eb : (μ 74 24) + (((μ 74 21 + min (max (μ 85 h - μ 74 21) 0) (μ 74 20)) + 3 * rm_c μ h k) - 20) = μ 74 24 + sp_spl (μ 85 h) (μ 74 21) (μ 74 20) (rm_c μ h (μ 74 10).toNat) := by rw [← hrc]; unfold sp_spl sp_fill; omega
            rw [tm_cg (tm_cg rfl ea) eb]
            exact hpost
          · skip
            refine tv_aload_n (pc := 161) 1 C dX8_fills_161 rfl rfl ?_
            refine tv_geti (pc := 162) (z := (μ 74 21 + min (max (μ 85 h - μ 74 21) 0) (μ 74 20)) + 3 * rm_c μ h k) C rfl rfl fl_X8_176 dX8_fills_162 ((tm_uj (by decide)).trans (tm_us)) ?_
            refine tv_aload_n (pc := 165) 1 C dX8_fills_165 rfl rfl ?_
            refine tv_getr (pc := 166) (q := 82) C rfl rfl fl_X8_31 dX8_fills_166 ?_
            refine tv_iconst (pc := 169) C dX8_fills_169 ?_
            refine tv_iald (pc := 170) (j := 2) (z := μ 82 2) C rfl dX8_fills_170 (by omega) rfl ((tm_uk (by decide)).trans ((tm_uk (by decide)).trans (rfl))) ?_
            refine tv_isub (pc := 171) C dX8_fills_171 ?_
            refine tv_goto (pc := 172) 176 C dX8_fills_172 (by decide) ?_
            refine tv_puti (pc := 176) C rfl rfl fp_X8_176 dX8_fills_176 ?_
            refine tv_mem (tm_up (tm_up μ 74 21 (((μ 74 21 + min (max (μ 85 h - μ 74 21) 0) (μ 74 20)) + 3 * rm_c μ h k) - (μ 82 2))) 74 24 ((μ 74 24) + (((μ 74 21 + min (max (μ 85 h - μ 74 21) 0) (μ 74 20)) + 3 * rm_c μ h k) - 20))) ((tm_uc (Or.inr (by decide))).trans (congrArg (fun m => tm_up m 74 24 ((μ 74 24) + (((μ 74 21 + min (max (μ 85 h - μ 74 21) 0) (μ 74 20)) + 3 * rm_c μ h k) - 20))) tm_uu)) ?_
            refine tv_vret (pc := 179) C dX8_fills_179 ?_
            have hrc : rm_c μ h k = rm_c μ h (μ 74 10).toNat := by congr 1; omega
            have ea : ((μ 74 21 + min (max (μ 85 h - μ 74 21) 0) (μ 74 20)) + 3 * rm_c μ h k) - (μ 82 2) = sp_wet (μ 85 h) (μ 74 21) (μ 74 20) (rm_c μ h (μ 74 10).toNat) (μ 82 2) := by rw [← hrc]; unfold sp_wet sp_fill; omega
            have eb : (μ 74 24) + (((μ 74 21 + min (max (μ 85 h - μ 74 21) 0) (μ 74 20)) + 3 * rm_c μ h k) - 20) = μ 74 24 + sp_spl (μ 85 h) (μ 74 21) (μ 74 20) (rm_c μ h (μ 74 10).toNat) := by rw [← hrc]; unfold sp_spl sp_fill; omega
            rw [tm_cg (tm_cg rfl ea) eb]
            exact hpost
        · skip
          refine tv_bipush (pc := 135) C dX8_fills_135 (by decide) ?_
          refine tv_goto (pc := 137) 144 C dX8_fills_137 (by decide) ?_
          refine tv_puti (pc := 144) C rfl rfl fp_X8_176 dX8_fills_144 ?_
          refine tv_mem (tm_up (tm_up μ 74 21 20) 74 24 ((μ 74 24) + (((μ 74 21 + min (max (μ 85 h - μ 74 21) 0) (μ 74 20)) + 3 * rm_c μ h k) - 20))) ((tm_uc (Or.inr (by decide))).trans (congrArg (fun m => tm_up m 74 24 ((μ 74 24) + (((μ 74 21 + min (max (μ 85 h - μ 74 21) 0) (μ 74 20)) + 3 * rm_c μ h k) - 20))) tm_uu)) ?_
          refine tv_aload_n (pc := 147) 1 C dX8_fills_147 rfl rfl ?_
          refine tv_aload_n (pc := 148) 1 C dX8_fills_148 rfl rfl ?_
          refine tv_geti (pc := 149) (z := 20) C rfl rfl fl_X8_176 dX8_fills_149 ((tm_uj (by decide)).trans (tm_us)) ?_
          refine tv_aload_n (pc := 152) 1 C dX8_fills_152 rfl rfl ?_
          refine tv_getr (pc := 153) (q := 82) C rfl rfl fl_X8_31 dX8_fills_153 ?_
          refine tv_iconst (pc := 156) C dX8_fills_156 ?_
          refine tv_iald (pc := 157) (j := 2) (z := μ 82 2) C rfl dX8_fills_157 (by omega) rfl ((tm_uk (by decide)).trans ((tm_uk (by decide)).trans (rfl))) ?_
          refine tv_icmp_le (pc := 158) 175 C dX8_fills_158 (by decide) (by omega) (by omega) (fun h158 => ?_) (fun h158 => ?_)
          · skip
            refine tv_iconst (pc := 175) C dX8_fills_175 ?_
            refine tv_puti (pc := 176) C rfl rfl fp_X8_176 dX8_fills_176 ?_
            refine tv_mem (tm_up (tm_up μ 74 21 0) 74 24 ((μ 74 24) + (((μ 74 21 + min (max (μ 85 h - μ 74 21) 0) (μ 74 20)) + 3 * rm_c μ h k) - 20))) ((tm_uc (Or.inr (by decide))).trans (congrArg (fun m => tm_up m 74 24 ((μ 74 24) + (((μ 74 21 + min (max (μ 85 h - μ 74 21) 0) (μ 74 20)) + 3 * rm_c μ h k) - 20))) tm_uu)) ?_
            refine tv_vret (pc := 179) C dX8_fills_179 ?_
            have hrc : rm_c μ h k = rm_c μ h (μ 74 10).toNat := by congr 1; omega
            have ea : 0 = sp_wet (μ 85 h) (μ 74 21) (μ 74 20) (rm_c μ h (μ 74 10).toNat) (μ 82 2) := by rw [← hrc]; unfold sp_wet sp_fill; omega
            have eb : (μ 74 24) + (((μ 74 21 + min (max (μ 85 h - μ 74 21) 0) (μ 74 20)) + 3 * rm_c μ h k) - 20) = μ 74 24 + sp_spl (μ 85 h) (μ 74 21) (μ 74 20) (rm_c μ h (μ 74 10).toNat) := by rw [← hrc]; unfold sp_spl sp_fill; omega
            rw [tm_cg (tm_cg rfl ea) eb]
            exact hpost
          · skip
            refine tv_aload_n (pc := 161) 1 C dX8_fills_161 rfl rfl ?_
            refine tv_geti (pc := 162) (z := 20) C rfl rfl fl_X8_176 dX8_fills_162 ((tm_uj (by decide)).trans (tm_us)) ?_
            refine tv_aload_n (pc := 165) 1 C dX8_fills_165 rfl rfl ?_
            refine tv_getr (pc := 166) (q := 82) C rfl rfl fl_X8_31 dX8_fills_166 ?_
            refine tv_iconst (pc := 169) C dX8_fills_169 ?_
            refine tv_iald (pc := 170) (j := 2) (z := μ 82 2) C rfl dX8_fills_170 (by omega) rfl ((tm_uk (by decide)).trans ((tm_uk (by decide)).trans (rfl))) ?_
            refine tv_isub (pc := 171) C dX8_fills_171 ?_
            refine tv_goto (pc := 172) 176 C dX8_fills_172 (by decide) ?_
            refine tv_puti (pc := 176) C rfl rfl fp_X8_176 dX8_fills_176 ?_
            refine tv_mem (tm_up (tm_up μ 74 21 (20 - (μ 82 2))) 74 24 ((μ 74 24) + (((μ 74 21 + min (max (μ 85 h - μ 74 21) 0) (μ 74 20)) + 3 * rm_c μ h k) - 20))) ((tm_uc (Or.inr (by decide))).trans (congrArg (fun m => tm_up m 74 24 ((μ 74 24) + (((μ 74 21 + min (max (μ 85 h - μ 74 21) 0) (μ 74 20)) + 3 * rm_c μ h k) - 20))) tm_uu)) ?_
            refine tv_vret (pc := 179) C dX8_fills_179 ?_
            have hrc : rm_c μ h k = rm_c μ h (μ 74 10).toNat := by congr 1; omega
            have ea : 20 - (μ 82 2) = sp_wet (μ 85 h) (μ 74 21) (μ 74 20) (rm_c μ h (μ 74 10).toNat) (μ 82 2) := by rw [← hrc]; unfold sp_wet sp_fill; omega
            have eb : (μ 74 24) + (((μ 74 21 + min (max (μ 85 h - μ 74 21) 0) (μ 74 20)) + 3 * rm_c μ h k) - 20) = μ 74 24 + sp_spl (μ 85 h) (μ 74 21) (μ 74 20) (rm_c μ h (μ 74 10).toNat) := by rw [← hrc]; unfold sp_spl sp_fill; omega
            rw [tm_cg (tm_cg rfl ea) eb]
            exact hpost
    · skip
      have hk83 := hrh k (by omega)
      refine tv_aload_n (pc := 55) 1 C dX8_fills_55 rfl rfl ?_
      refine tv_dup (pc := 56) C dX8_fills_56 rfl ?_
      refine tv_geti (pc := 57) (z := (μ 74 21 + min (max (μ 85 h - μ 74 21) 0) (μ 74 20)) + 3 * rm_c μ h k) C rfl rfl fl_X8_176 dX8_fills_57 tm_us ?_
      refine tv_aload_n (pc := 60) 1 C dX8_fills_60 rfl rfl ?_
      refine tv_getr (pc := 61) (q := 83) C rfl rfl fl_X8_34 dX8_fills_61 ?_
      refine tv_iload_n (pc := 64) 0 C dX8_fills_64 rfl rfl ?_
      refine tv_iald (pc := 65) (j := k) (z := μ 83 k) C rfl dX8_fills_65 (by omega) (by omega) ((tm_uk (by decide)).trans (rfl)) ?_
      refine tv_iload_n (pc := 66) 2 C dX8_fills_66 rfl rfl ?_
      refine tv_icmp_ne (pc := 67) 85 C dX8_fills_67 (by decide) (by omega) (by omega) (fun h67 => ?_) (fun h67 => ?_)
      · skip
        refine tv_iconst (pc := 85) C dX8_fills_85 ?_
        refine tv_iadd (pc := 86) C dX8_fills_86 ?_
        refine tv_puti (pc := 87) C rfl rfl fp_X8_176 dX8_fills_87 ?_
        refine tv_mem (tm_up μ 74 21 (((μ 74 21 + min (max (μ 85 h - μ 74 21) 0) (μ 74 20)) + 3 * rm_c μ h k) + 0)) tm_uu ?_
        refine tv_iinc (pc := 90) 0 [(3, tm_i (x + 1)), (0, .ref (E.2.1 74)), (1, tm_i (h : Int))] C dX8_fills_90 rfl (by decide) rfl ?_
        refine tv_goto (pc := 93) 47 C dX8_fills_93 (by decide) ?_
        refine tv_sub (lv1 := [(3, tm_i (x + 1)), (0, .ref (E.2.1 74)), (1, tm_i (h : Int))]) [0, 1, 2] rfl ?_
        have hct : rm_c μ h (k + 1) = rm_c μ h k + (if (decide (μ 83 k = (h : Int)) && !(tb_t (μ 74 15) k)) = true then 1 else 0) := rfl
        have hv : ((μ 74 21 + min (max (μ 85 h - μ 74 21) 0) (μ 74 20)) + 3 * rm_c μ h k) + 0 = (μ 74 21 + min (max (μ 85 h - μ 74 21) 0) (μ 74 20)) + 3 * rm_c μ h (k + 1) := by
          rw [hct]
          first | (rw [if_pos (by simp [*])]; omega) | (rw [if_neg (by simp [*])]; omega)
        rw [hv]
        exact ih (k + 1) (x + 1) (by omega) (by omega) (by omega)
      · skip
        refine tv_aload_n (pc := 70) 1 C dX8_fills_70 rfl rfl ?_
        refine tv_geti (pc := 71) (z := μ 74 15) C rfl rfl fl_X8_161 dX8_fills_71 ((tm_uj (by decide)).trans (rfl)) ?_
        refine tv_iload_n (pc := 74) 0 C dX8_fills_74 rfl rfl ?_
        refine tv_callS (pc := 75) [tm_i (μ 74 15), tm_i x] [tm_i ((μ 74 21 + min (max (μ 85 h - μ 74 21) 0) (μ 74 20)) + 3 * rm_c μ h k), .ref (E.2.1 74)] C (by rw [hx]; exact c8_isIn E _ (tm_up μ 74 21 ((μ 74 21 + min (max (μ 85 h - μ 74 21) 0) (μ 74 20)) + 3 * rm_c μ h k)) (μ 74 15) k (by omega) (by omega)) cs_X8_179 (by decide) rfl (Nat.le_of_ble_eq_true rfl) rfl dX8_fills_75 (tm_kp ?_)
        refine tv_ifneB (pc := 78) 85 C dX8_fills_78 (by decide) (fun h78 => ?_) (fun h78 => ?_)
        · skip
          refine tv_iconst (pc := 85) C dX8_fills_85 ?_
          refine tv_iadd (pc := 86) C dX8_fills_86 ?_
          refine tv_puti (pc := 87) C rfl rfl fp_X8_176 dX8_fills_87 ?_
          refine tv_mem (tm_up μ 74 21 (((μ 74 21 + min (max (μ 85 h - μ 74 21) 0) (μ 74 20)) + 3 * rm_c μ h k) + 0)) tm_uu ?_
          refine tv_iinc (pc := 90) 0 [(3, tm_i (x + 1)), (0, .ref (E.2.1 74)), (1, tm_i (h : Int))] C dX8_fills_90 rfl (by decide) rfl ?_
          refine tv_goto (pc := 93) 47 C dX8_fills_93 (by decide) ?_
          refine tv_sub (lv1 := [(3, tm_i (x + 1)), (0, .ref (E.2.1 74)), (1, tm_i (h : Int))]) [0, 1, 2] rfl ?_
          have hct : rm_c μ h (k + 1) = rm_c μ h k + (if (decide (μ 83 k = (h : Int)) && !(tb_t (μ 74 15) k)) = true then 1 else 0) := rfl
          have hv : ((μ 74 21 + min (max (μ 85 h - μ 74 21) 0) (μ 74 20)) + 3 * rm_c μ h k) + 0 = (μ 74 21 + min (max (μ 85 h - μ 74 21) 0) (μ 74 20)) + 3 * rm_c μ h (k + 1) := by
            rw [hct]
            first | (rw [if_pos (by simp [*])]; omega) | (rw [if_neg (by simp [*])]; omega)
          rw [hv]
          exact ih (k + 1) (x + 1) (by omega) (by omega) (by omega)
        · skip
          refine tv_iconst (pc := 81) C dX8_fills_81 ?_
          refine tv_goto (pc := 82) 86 C dX8_fills_82 (by decide) ?_
          refine tv_iadd (pc := 86) C dX8_fills_86 ?_
          refine tv_puti (pc := 87) C rfl rfl fp_X8_176 dX8_fills_87 ?_
          refine tv_mem (tm_up μ 74 21 (((μ 74 21 + min (max (μ 85 h - μ 74 21) 0) (μ 74 20)) + 3 * rm_c μ h k) + 3)) tm_uu ?_
          refine tv_iinc (pc := 90) 0 [(3, tm_i (x + 1)), (0, .ref (E.2.1 74)), (1, tm_i (h : Int))] C dX8_fills_90 rfl (by decide) rfl ?_
          refine tv_goto (pc := 93) 47 C dX8_fills_93 (by decide) ?_
          refine tv_sub (lv1 := [(3, tm_i (x + 1)), (0, .ref (E.2.1 74)), (1, tm_i (h : Int))]) [0, 1, 2] rfl ?_
          have hct : rm_c μ h (k + 1) = rm_c μ h k + (if (decide (μ 83 k = (h : Int)) && !(tb_t (μ 74 15) k)) = true then 1 else 0) := rfl
          have hv : ((μ 74 21 + min (max (μ 85 h - μ 74 21) 0) (μ 74 20)) + 3 * rm_c μ h k) + 3 = (μ 74 21 + min (max (μ 85 h - μ 74 21) 0) (μ 74 20)) + 3 * rm_c μ h (k + 1) := by
            rw [hct]
            first | (rw [if_pos (by simp [*])]; omega) | (rw [if_neg (by simp [*])]; omega)
          rw [hv]
          exact ih (k + 1) (x + 1) (by omega) (by omega) (by omega)
set_option maxHeartbeats 4000000 in
theorem c8_fills (E : tm_Ev) (l : Launch) (μ : tm_M) (h : Nat) (hh : h < 40) (hz : 0 ≤ μ 74 21 ∧ μ 74 21 ≤ 20) (hsea : 0 ≤ μ 85 h ∧ μ 85 h ≤ 18) (hfl : 1 ≤ μ 74 20 ∧ μ 74 20 ≤ 9) (hlk : 0 ≤ μ 82 2 ∧ μ 82 2 ≤ 9) (hnr : 0 ≤ μ 74 10 ∧ μ 74 10 ≤ 6) (hno : 0 ≤ μ 74 15 ∧ μ 74 15 ≤ 1000) (hls : 0 ≤ μ 74 24 ∧ μ 74 24 ≤ 100000) (hrh : ∀ k : Nat, (k : Int) < μ 74 10 → 0 ≤ μ 83 k ∧ μ 83 k ≤ 39) : tm_Met E l yX8_fills cX8_fills 4 none 1 [.ref (E.2.1 74), tm_i (h : Int)] μ (tm_pv (fun μ' => μ' = (tm_up (tm_up μ 74 21 (sp_wet (μ 85 h) (μ 74 21) (μ 74 20) (rm_c μ h (μ 74 10).toNat) (μ 82 2))) 74 24 (μ 74 24 + sp_spl (μ 85 h) (μ 74 21) (μ 74 20) (rm_c μ h (μ 74 10).toNat))))) := by
  refine tm_intro [(0, .ref (E.2.1 74)), (1, tm_i (h : Int))] rfl (by decide +kernel) (Nat.le_of_ble_eq_true rfl) ?_
  intro X hX C
  subst hX
  refine tv_aload_n (pc := 0) 0 C dX8_fills_0 rfl rfl ?_
  refine tv_getr (pc := 1) (q := 85) C rfl rfl fl_X8_40 dX8_fills_1 ?_
  refine tv_iload_n (pc := 4) 1 C dX8_fills_4 rfl rfl ?_
  refine tv_iald (pc := 5) (j := h) (z := μ 85 h) C rfl dX8_fills_5 (by omega) (by omega) rfl ?_
  refine tv_aload_n (pc := 6) 0 C dX8_fills_6 rfl rfl ?_
  refine tv_geti (pc := 7) (z := μ 74 21) C rfl rfl fl_X8_176 dX8_fills_7 rfl ?_
  refine tv_isub (pc := 10) C dX8_fills_10 ?_
  refine tv_istore_n (pc := 11) [(2, tm_i ((μ 85 h) - (μ 74 21))), (0, .ref (E.2.1 74)), (1, tm_i (h : Int))] C dX8_fills_11 rfl (by decide) rfl ?_
  refine tv_aload_n (pc := 12) 1 C dX8_fills_12 rfl rfl ?_
  refine tv_dup (pc := 13) C dX8_fills_13 rfl ?_
  refine tv_geti (pc := 14) (z := μ 74 21) C rfl rfl fl_X8_176 dX8_fills_14 rfl ?_
  refine tv_iload_n (pc := 17) 0 C dX8_fills_17 rfl rfl ?_
  refine tv_if_gt (pc := 18) 25 C dX8_fills_18 (by decide) (by omega) (fun h18 => ?_) (fun h18 => ?_)
  · skip
    refine tv_iload_n (pc := 25) 0 C dX8_fills_25 rfl rfl ?_
    refine tv_aload_n (pc := 26) 1 C dX8_fills_26 rfl rfl ?_
    refine tv_geti (pc := 27) (z := μ 74 20) C rfl rfl fl_X8_173 dX8_fills_27 rfl ?_
    refine tv_icmp_ge (pc := 30) 37 C dX8_fills_30 (by decide) (by omega) (by omega) (fun h30 => ?_) (fun h30 => ?_)
    · skip
      refine tv_aload_n (pc := 37) 1 C dX8_fills_37 rfl rfl ?_
      refine tv_geti (pc := 38) (z := μ 74 20) C rfl rfl fl_X8_173 dX8_fills_38 rfl ?_
      refine tv_top (min (max (μ 85 h - μ 74 21) 0) (μ 74 20)) (by omega) ?_
      refine tv_iadd (pc := 41) C dX8_fills_41 ?_
      refine tv_puti (pc := 42) C rfl rfl fp_X8_176 dX8_fills_42 ?_
      refine tv_iconst (pc := 45) C dX8_fills_45 ?_
      refine tv_istore_n (pc := 46) [(3, tm_i 0), (2, tm_i ((μ 85 h) - (μ 74 21))), (0, .ref (E.2.1 74)), (1, tm_i (h : Int))] C dX8_fills_46 rfl (by decide) rfl ?_
      refine tv_sub (lv1 := [(3, tm_i 0), (0, .ref (E.2.1 74)), (1, tm_i (h : Int))]) [0, 2, 3] rfl ?_
      refine tv_mem (tm_up μ 74 21 ((μ 74 21 + min (max (μ 85 h - μ 74 21) 0) (μ 74 20)) + 3 * rm_c μ h 0)) (by rw [show rm_c μ h 0 = 0 from rfl]; congr 1; omega) ?_
      exact l_fills C μ h hh hz hsea hfl hlk hnr hno hls hrh _ ⟨rfl, rfl⟩ 7 0 0 rfl (by omega) (by omega)
    · skip
      refine tv_iload_n (pc := 33) 0 C dX8_fills_33 rfl rfl ?_
      refine tv_goto (pc := 34) 41 C dX8_fills_34 (by decide) ?_
      refine tv_top (min (max (μ 85 h - μ 74 21) 0) (μ 74 20)) (by omega) ?_
      refine tv_iadd (pc := 41) C dX8_fills_41 ?_
      refine tv_puti (pc := 42) C rfl rfl fp_X8_176 dX8_fills_42 ?_
      refine tv_iconst (pc := 45) C dX8_fills_45 ?_
      refine tv_istore_n (pc := 46) [(3, tm_i 0), (2, tm_i ((μ 85 h) - (μ 74 21))), (0, .ref (E.2.1 74)), (1, tm_i (h : Int))] C dX8_fills_46 rfl (by decide) rfl ?_
      refine tv_sub (lv1 := [(3, tm_i 0), (0, .ref (E.2.1 74)), (1, tm_i (h : Int))]) [0, 2, 3] rfl ?_
      refine tv_mem (tm_up μ 74 21 ((μ 74 21 + min (max (μ 85 h - μ 74 21) 0) (μ 74 20)) + 3 * rm_c μ h 0)) (by rw [show rm_c μ h 0 = 0 from rfl]; congr 1; omega) ?_
      exact l_fills C μ h hh hz hsea hfl hlk hnr hno hls hrh _ ⟨rfl, rfl⟩ 7 0 0 rfl (by omega) (by omega)
  · skip
    refine tv_iconst (pc := 21) C dX8_fills_21 ?_
    refine tv_goto (pc := 22) 41 C dX8_fills_22 (by decide) ?_
    refine tv_top (min (max (μ 85 h - μ 74 21) 0) (μ 74 20)) (by omega) ?_
    refine tv_iadd (pc := 41) C dX8_fills_41 ?_
    refine tv_puti (pc := 42) C rfl rfl fp_X8_176 dX8_fills_42 ?_
    refine tv_iconst (pc := 45) C dX8_fills_45 ?_
    refine tv_istore_n (pc := 46) [(3, tm_i 0), (2, tm_i ((μ 85 h) - (μ 74 21))), (0, .ref (E.2.1 74)), (1, tm_i (h : Int))] C dX8_fills_46 rfl (by decide) rfl ?_
    refine tv_sub (lv1 := [(3, tm_i 0), (0, .ref (E.2.1 74)), (1, tm_i (h : Int))]) [0, 2, 3] rfl ?_
    refine tv_mem (tm_up μ 74 21 ((μ 74 21 + min (max (μ 85 h - μ 74 21) 0) (μ 74 20)) + 3 * rm_c μ h 0)) (by rw [show rm_c μ h 0 = 0 from rfl]; congr 1; omega) ?_
    exact l_fills C μ h hh hz hsea hfl hlk hnr hno hls hrh _ ⟨rfl, rfl⟩ 7 0 0 rfl (by omega) (by omega)
theorem rm_dc_1 {μ : tm_M} {h k : Nat} {n : Int} (hc : 0 ≤ rm_dc μ h k ∧ rm_dc μ h k ≤ n) (hh : 0 < rm_dc μ h k ∨ μ 84 k = (h : Int)) : (1 : Int) = if 0 < rm_dc μ h (k + 1) then 1 else 0 := by
  have hct : rm_dc μ h (k + 1) = rm_dc μ h k + (if decide (μ 84 k = (h : Int)) = true then 1 else 0) := rfl
  have hp : 0 < rm_dc μ h (k + 1) := by
    rw [hct]
    rcases hh with q | q
    · split <;> omega
    · rw [if_pos (decide_eq_true q)]; omega
  rw [if_pos hp]
theorem rm_dc_0 {μ : tm_M} {h k : Nat} {n : Int} (hc : 0 ≤ rm_dc μ h k ∧ rm_dc μ h k ≤ n) (h1 : ¬ 0 < rm_dc μ h k) (h2 : ¬ μ 84 k = (h : Int)) : (0 : Int) = if 0 < rm_dc μ h (k + 1) then 1 else 0 := by
  have hct : rm_dc μ h (k + 1) = rm_dc μ h k + (if decide (μ 84 k = (h : Int)) = true then 1 else 0) := rfl
  have hp : ¬ 0 < rm_dc μ h (k + 1) := by
    rw [hct, if_neg (by simp [h2])]
    omega
  rw [if_neg hp]
theorem l_isDressed {E : tm_Ev} {X : tm_X} (C : tm_C E X yX8_isDressed.cls cX8_isDressed 4 (some .boolean) 0) (μ : tm_M) (h : Nat) (hh : h < 40) (hdn : 0 ≤ μ 74 16 ∧ μ 74 16 ≤ 7) (hdh : ∀ k : Nat, (k : Int) < μ 74 16 → 0 ≤ μ 84 k ∧ μ 84 k ≤ 39) (post : Option Value → tm_M → Prop) (hpost : post (some (tm_i (if 0 < rm_dc μ h (μ 74 16).toNat then 1 else 0))) μ) : ∀ (f k : Nat) (x y : Int), x = k → y = (if 0 < rm_dc μ h k then 1 else 0) → (k : Int) ≤ μ 74 16 → 7 - k < f → tm_V E X (tm_Q E X post) 4 4 [(3, tm_i x), (2, tm_i y), (0, .ref (E.2.1 74)), (1, tm_i (h : Int))] [] μ := by
  intro f
  induction f with
  | zero => intro k x y hx hy hk hf; omega
  | succ f ih =>
    intro k x y hx hy hk hf
    have hcb : 0 ≤ rm_dc μ h k ∧ rm_dc μ h k ≤ k := ct_bd _ k
    have hy01 : y = 0 ∨ y = 1 := by rw [hy]; split <;> simp
    refine tv_iload_n (pc := 4) 0 C dX8_isDressed_4 rfl rfl ?_
    refine tv_aload_n (pc := 5) 2 C dX8_isDressed_5 rfl rfl ?_
    refine tv_geti (pc := 6) (z := μ 74 16) C rfl rfl fl_X8_164 dX8_isDressed_6 rfl ?_
    refine tv_icmp_ge (pc := 9) 38 C dX8_isDressed_9 (by decide) (by omega) (by omega) (fun h9 => ?_) (fun h9 => ?_)
    · skip
      refine tv_iload_n (pc := 38) 1 C dX8_isDressed_38 rfl rfl ?_
      refine tv_zret (pc := 39) C dX8_isDressed_39 (by omega) ?_
      have hrc : rm_dc μ h k = rm_dc μ h (μ 74 16).toNat := by congr 1; omega
      rw [← hrc] at hpost
      rw [hy]
      exact hpost
    · skip
      have hk84 := hdh k (by omega)
      refine tv_iload_n (pc := 12) 1 C dX8_isDressed_12 rfl rfl ?_
      refine tv_if_ne (pc := 13) 26 C dX8_isDressed_13 (by decide) (by omega) (fun h13 => ?_) (fun h13 => ?_)
      · skip
        have hpos : 0 < rm_dc μ h k := by
          rcases Int.lt_or_le 0 (rm_dc μ h k) with q | q
          · exact q
          · rw [if_neg (by omega)] at hy; omega
        refine tv_iconst (pc := 26) C dX8_isDressed_26 ?_
        refine tv_goto (pc := 27) 31 C dX8_isDressed_27 (by decide) ?_
        refine tv_istore_n (pc := 31) [(2, tm_i 1), (3, tm_i x), (0, .ref (E.2.1 74)), (1, tm_i (h : Int))] C dX8_isDressed_31 rfl (by decide) rfl ?_
        refine tv_iinc (pc := 32) 1 [(3, tm_i (x + 1)), (2, tm_i 1), (0, .ref (E.2.1 74)), (1, tm_i (h : Int))] C dX8_isDressed_32 rfl (by decide) rfl ?_
        refine tv_goto (pc := 35) 4 C dX8_isDressed_35 (by decide) ?_
        refine tv_sub (lv1 := [(3, tm_i (x + 1)), (2, tm_i 1), (0, .ref (E.2.1 74)), (1, tm_i (h : Int))]) [0, 1, 2, 3] rfl ?_
        exact ih (k + 1) (x + 1) _ (by omega) (rm_dc_1 hcb (by first | exact Or.inl hpos | exact Or.inr h23)) (by omega) (by omega)
      · skip
        have hneg : ¬ 0 < rm_dc μ h k := fun q => by rw [if_pos q] at hy; omega
        refine tv_aload_n (pc := 16) 2 C dX8_isDressed_16 rfl rfl ?_
        refine tv_getr (pc := 17) (q := 84) C rfl rfl fl_X8_37 dX8_isDressed_17 ?_
        refine tv_iload_n (pc := 20) 0 C dX8_isDressed_20 rfl rfl ?_
        refine tv_iald (pc := 21) (j := k) (z := μ 84 k) C rfl dX8_isDressed_21 (by omega) (by omega) rfl ?_
        refine tv_iload_n (pc := 22) 3 C dX8_isDressed_22 rfl rfl ?_
        refine tv_icmp_ne (pc := 23) 30 C dX8_isDressed_23 (by decide) (by omega) (by omega) (fun h23 => ?_) (fun h23 => ?_)
        · skip
          refine tv_iconst (pc := 30) C dX8_isDressed_30 ?_
          refine tv_istore_n (pc := 31) [(2, tm_i 0), (3, tm_i x), (0, .ref (E.2.1 74)), (1, tm_i (h : Int))] C dX8_isDressed_31 rfl (by decide) rfl ?_
          refine tv_iinc (pc := 32) 1 [(3, tm_i (x + 1)), (2, tm_i 0), (0, .ref (E.2.1 74)), (1, tm_i (h : Int))] C dX8_isDressed_32 rfl (by decide) rfl ?_
          refine tv_goto (pc := 35) 4 C dX8_isDressed_35 (by decide) ?_
          refine tv_sub (lv1 := [(3, tm_i (x + 1)), (2, tm_i 0), (0, .ref (E.2.1 74)), (1, tm_i (h : Int))]) [0, 1, 2, 3] rfl ?_
          exact ih (k + 1) (x + 1) _ (by omega) (rm_dc_0 hcb hneg h23) (by omega) (by omega)
        · skip
          refine tv_iconst (pc := 26) C dX8_isDressed_26 ?_
          refine tv_goto (pc := 27) 31 C dX8_isDressed_27 (by decide) ?_
          refine tv_istore_n (pc := 31) [(2, tm_i 1), (3, tm_i x), (0, .ref (E.2.1 74)), (1, tm_i (h : Int))] C dX8_isDressed_31 rfl (by decide) rfl ?_
          refine tv_iinc (pc := 32) 1 [(3, tm_i (x + 1)), (2, tm_i 1), (0, .ref (E.2.1 74)), (1, tm_i (h : Int))] C dX8_isDressed_32 rfl (by decide) rfl ?_
          refine tv_goto (pc := 35) 4 C dX8_isDressed_35 (by decide) ?_
          refine tv_sub (lv1 := [(3, tm_i (x + 1)), (2, tm_i 1), (0, .ref (E.2.1 74)), (1, tm_i (h : Int))]) [0, 1, 2, 3] rfl ?_
          exact ih (k + 1) (x + 1) _ (by omega) (rm_dc_1 hcb (by first | exact Or.inl hpos | exact Or.inr h23)) (by omega) (by omega)
theorem c8_isDressed (E : tm_Ev) (l : Launch) (μ : tm_M) (h : Nat) (hh : h < 40) (hdn : 0 ≤ μ 74 16 ∧ μ 74 16 ≤ 7) (hdh : ∀ k : Nat, (k : Int) < μ 74 16 → 0 ≤ μ 84 k ∧ μ 84 k ≤ 39) : tm_Met E l yX8_isDressed cX8_isDressed 4 (some .boolean) 0 [.ref (E.2.1 74), tm_i (h : Int)] μ (tm_pi (fun z μ' => z = (if 0 < rm_dc μ h (μ 74 16).toNat then 1 else 0) ∧ μ' = μ)) := by
  refine tm_intro [(0, .ref (E.2.1 74)), (1, tm_i (h : Int))] rfl (by decide +kernel) (Nat.le_of_ble_eq_true rfl) ?_
  intro X hX C
  subst hX
  refine tv_iconst (pc := 0) C dX8_isDressed_0 ?_
  refine tv_istore_n (pc := 1) [(2, tm_i 0), (0, .ref (E.2.1 74)), (1, tm_i (h : Int))] C dX8_isDressed_1 rfl (by decide) rfl ?_
  refine tv_iconst (pc := 2) C dX8_isDressed_2 ?_
  refine tv_istore_n (pc := 3) [(3, tm_i 0), (2, tm_i 0), (0, .ref (E.2.1 74)), (1, tm_i (h : Int))] C dX8_isDressed_3 rfl (by decide) rfl ?_
  refine tv_sub (lv1 := [(3, tm_i 0), (2, tm_i 0), (0, .ref (E.2.1 74)), (1, tm_i (h : Int))]) [0, 1, 2, 3] rfl ?_
  exact l_isDressed C μ h hh hdn hdh _ ⟨_, rfl, rfl, rfl⟩ 8 0 0 0 rfl rfl (by omega) (by omega)
