set_option maxHeartbeats 4000000 in
theorem c5_pass_a (E : tm_Ev) (l : Launch) (μ p : tm_M) (h : Nat) (g : Int) (hpe : p = sm_p μ 29) (hp : sm_ok p) (hh : h < 40) (hg : g = sm_g p (sm_q p h)) : tm_Met E l yX4_pass cX4_pass 5 (some .boolean) 2 [.ref (E.2.1 36), .ref (E.2.1 29), tm_i g] (tm_rn μ p 35 h) (tm_pi (fun z μ' => z = sm_G p h ∧ μ' = (tm_pd (tm_rn μ p 35 h) 36 ((h : Int) + 1) (sm_z p (h + 1)) (sm_w p (h + 1)) (sm_s p (h + 1))))) := by
  obtain ⟨b1, b2, b3, b4, b5, b6, b7⟩ := sm_bd hp h (by omega)
  have e0 : (tm_rn μ p 35 h) 36 0 = (h : Int) := tm_rn_p 0
  have e1 : (tm_rn μ p 35 h) 36 1 = sm_z p h := tm_rn_p 1
  have e2 : (tm_rn μ p 35 h) 36 2 = sm_w p h := tm_rn_p 2
  have e3 : (tm_rn μ p 35 h) 36 3 = sm_s p h := tm_rn_p 3
  have f1 : (tm_rn μ p 35 h) 31 h = p 1 h := by rw [tm_rn_o (by omega), hpe]; rfl
  have f2 : (tm_rn μ p 35 h) 32 h = p 2 h := by rw [tm_rn_o (by omega), hpe]; rfl
  have f3 : (tm_rn μ p 35 h) 33 h = p 3 h := by rw [tm_rn_o (by omega), hpe]; rfl
  have g1 : (tm_rn μ p 35 h) 30 1 = p 0 1 := by rw [tm_rn_o (by omega), hpe]; rfl
  have g2 : (tm_rn μ p 35 h) 30 2 = p 0 2 := by rw [tm_rn_o (by omega), hpe]; rfl
  have g3 : (tm_rn μ p 35 h) 30 3 = p 0 3 := by rw [tm_rn_o (by omega), hpe]; rfl
  have g4 : (tm_rn μ p 35 h) 30 4 = p 0 4 := by rw [tm_rn_o (by omega), hpe]; rfl
  have hgr : g = -1 ∨ (0 ≤ g ∧ g ≤ 2) := by
    rcases sm_f_cases hp (sm_q p h) with ⟨a, b, c⟩ | ⟨a, b, c⟩
    · right; rw [hg, c]; exact (hp.2.2.2.2.2.2.2.2.2 _ a).2.1
    · left; rw [hg, c]
  have k := c4_pass_a E l (tm_rn μ p 35 h) 36 (Or.inl rfl) rfl h g e0 hh hgr (by rw [e1]; exact b1) (by rw [e2]; omega) (by rw [e3]; omega) (by rw [f1]; exact hp.2.2.2.2.2.1 h hh) (by rw [g1]; exact hp.2.1) (by rw [g2]; exact hp.2.2.1) (by rw [g3]; exact hp.2.2.2.1) (by rw [g4]; exact hp.2.2.2.2.1) (by rw [f2]; exact hp.2.2.2.2.2.2.1 h hh) (by rw [f3]; exact hp.2.2.2.2.2.2.2.1 h hh)
  rw [e1, e2, e3, f1, f2, f3, g1, g2, g3, g4, hg] at k
  rw [hg]
  exact k
set_option maxHeartbeats 8000000 in
theorem l_play_a {E : tm_Ev} {X : tm_X} (C : tm_C E X yX5_play.cls cX5_play 8 none 3) (μ p : tm_M) (hpe : p = sm_p μ 29) (hp : sm_ok p) (post : Option Value → tm_M → Prop) (hpost : post none (tm_rn μ p 35 40)) : ∀ (f h : Nat) (x a b c : Int), x = h → a = sm_t p h → b = sm_o p h → c = (sm_q p h : Int) → h ≤ 40 → 40 - h < f → tm_V E X (tm_Q E X post) 8 31 [(5, tm_i x), (4, tm_i a), (3, tm_i b), (2, tm_i c), (0, .ref (E.2.1 35)), (1, .ref (E.2.1 29))] [] (tm_rn μ p 35 h) := by
  have h58 := hp.2.2.2.2.2.2.2.2.1
  intro f
  induction f with
  | zero => intro h x a b c hx ha hb hc hh hf; omega
  | succ f ih =>
    intro h x a b c hx ha hb hc hh hf
    obtain ⟨b1, b2, b3, b4, b5, b6, b7⟩ := sm_bd hp h hh
    have h04 := hp.2.2.2.2.1
    have h39 : h < 40 → 0 ≤ p 3 h ∧ p 3 h ≤ 10 := hp.2.2.2.2.2.2.2.1 h
    have hw1 : h < 40 → 0 ≤ sm_w p (h + 1) ∧ sm_w p (h + 1) ≤ 40 := fun q => by have q2 := (sm_bd hp (h + 1) (by omega)).2.1; omega
    refine tv_iload (pc := 31) 0 C dX5_play_31 rfl ?_
    refine tv_bipush (pc := 33) C dX5_play_33 (by decide) ?_
    refine tv_icmp_ge (pc := 35) 243 C dX5_play_35 (by decide) (by omega) (by omega) (fun h35 => ?_) (fun h35 => ?_)
    · skip
      have hin : h = 40 := by omega
      subst hin
      refine tv_vret (pc := 243) C dX5_play_243 ?_
      exact hpost
    · skip
      refine tv_iload_n (pc := 38) 3 C dX5_play_38 rfl rfl ?_
      refine tv_aload_n (pc := 39) 5 C dX5_play_39 rfl rfl ?_
      refine tv_geti (pc := 40) (z := p 5 0) C rfl rfl fl_X5_51 dX5_play_40 ((congrFun (tm_rn_o (by omega)) _).trans (by rw [hpe]; rfl)) ?_
      refine tv_icmp_ge (pc := 43) 55 C dX5_play_43 (by decide) (by omega) (by omega) (fun h43 => ?_) (fun h43 => ?_)
      · skip
        have hff : sm_f p (sm_q p h) = -1 := by unfold sm_f; rw [if_neg (by omega)]
        have hgg : sm_g p (sm_q p h) = -1 := by unfold sm_g; rw [if_pos hff]
        refine tv_iconst (pc := 55) C dX5_play_55 ?_
        refine tv_istore (pc := 56) [(6, tm_i (-1)), (5, tm_i x), (4, tm_i a), (3, tm_i b), (2, tm_i c), (0, .ref (E.2.1 35)), (1, .ref (E.2.1 29))] C dX5_play_56 (by decide) rfl ?_
        refine tv_aload_n (pc := 58) 5 C dX5_play_58 rfl rfl ?_
        refine tv_getr (pc := 59) (q := 36) C rfl rfl fl_X5_12 dX5_play_59 ?_
        refine tv_aload_n (pc := 62) 6 C dX5_play_62 rfl rfl ?_
        refine tv_iload (pc := 63) 0 C dX5_play_63 rfl ?_
        refine tv_iconst (pc := 65) C dX5_play_65 ?_
        refine tv_icmp_ne (pc := 66) 73 C dX5_play_66 (by decide) (by omega) (by omega) (fun q => absurd q (by decide)) (fun _ => ?_)
        refine tv_iconst (pc := 69) C dX5_play_69 ?_
        refine tv_goto (pc := 70) 83 C dX5_play_70 (by decide) ?_
        refine tv_callV (pc := 83) [.ref (E.2.1 29), tm_i (-1)] [] C (c5_pass_a E _ μ p h (-1) hpe hp (by omega) hgg.symm) cv_X5_68 rfl rfl (by decide) rfl (Nat.le_of_ble_eq_true rfl) rfl dX5_play_83 (tm_ki ?_)
        rintro z _ ⟨hz, rfl⟩
        have h01 : z = 0 ∨ z = 1 := by rw [hz]; exact sm_G01 p h
        refine tv_istore (pc := 86) [(7, tm_i z), (6, tm_i (-1)), (5, tm_i x), (4, tm_i a), (3, tm_i b), (2, tm_i c), (0, .ref (E.2.1 35)), (1, .ref (E.2.1 29))] C dX5_play_86 (by decide) rfl ?_
        rcases h01 with rfl | rfl
        · skip
          refine tv_iload (pc := 88) 0 C dX5_play_88 rfl ?_
          refine tv_if_eq (pc := 90) 99 C dX5_play_90 (by decide) (by omega) (fun _ => ?_) (fun q => absurd q (by decide))
          refine tv_iload (pc := 99) 0 C dX5_play_99 rfl ?_
          refine tv_if_eq (pc := 101) 132 C dX5_play_101 (by decide) (by omega) (fun _ => ?_) (fun q => absurd q (by decide))
          refine tv_aload_n (pc := 132) 6 C dX5_play_132 rfl rfl ?_
          refine tv_getr (pc := 133) (q := 39) C rfl rfl fl_X5_25 dX5_play_133 ?_
          refine tv_iload (pc := 136) 2 C dX5_play_136 rfl ?_
          refine tv_aload_n (pc := 138) 7 C dX5_play_138 rfl rfl ?_
          refine tv_getr (pc := 139) (q := 33) C rfl rfl fl_X5_73 dX5_play_139 ?_
          refine tv_iload (pc := 142) 2 C dX5_play_142 rfl ?_
          refine tv_iald (pc := 144) (j := h) (z := p 3 h) C rfl dX5_play_144 (by omega) (by omega) ((congrFun (tm_pd_f (by decide)) _).trans ((congrFun (tm_rn_o (by omega)) _).trans (by rw [hpe]; rfl))) ?_
          refine tv_if_le (pc := 145) 152 C dX5_play_145 (by decide) (by omega) (fun h145 => ?_) (fun h145 => ?_)
          · skip
            refine tv_iload (pc := 152) 1 C dX5_play_152 rfl ?_
            refine tv_iast (pc := 154) (j := h) C rfl dX5_play_154 (by omega) (by omega) ?_
            refine tv_aload_n (pc := 155) 6 C dX5_play_155 rfl rfl ?_
            refine tv_getr (pc := 156) (q := 40) C rfl rfl fl_X5_28 dX5_play_156 ?_
            refine tv_iload (pc := 159) 2 C dX5_play_159 rfl ?_
            refine tv_aload_n (pc := 161) 6 C dX5_play_161 rfl rfl ?_
            refine tv_getr (pc := 162) (q := 39) C rfl rfl fl_X5_25 dX5_play_162 ?_
            refine tv_iload (pc := 165) 2 C dX5_play_165 rfl ?_
            refine tv_iald (pc := 167) (j := h) (z := -1) C rfl dX5_play_167 (by omega) (by omega) tm_us ?_
            refine tv_iconst (pc := 168) C dX5_play_168 ?_
            refine tv_icmp_eq (pc := 169) 181 C dX5_play_169 (by decide) (by omega) (by omega) (fun _ => ?_) (fun q => absurd q (by decide))
            refine tv_iconst (pc := 181) C dX5_play_181 ?_
            refine tv_iast (pc := 182) (j := h) C rfl dX5_play_182 (by omega) (by omega) ?_
            refine tv_aload_n (pc := 183) 6 C dX5_play_183 rfl rfl ?_
            refine tv_dup (pc := 184) C dX5_play_184 rfl ?_
            refine tv_geti (pc := 185) (z := sm_i p h) C rfl rfl fl_X5_43 dX5_play_185 ((tm_uk (by decide)).trans ((tm_uk (by decide)).trans ((congrFun (tm_pd_f (by decide)) _).trans tm_rn_i))) ?_
            refine tv_aload_n (pc := 188) 6 C dX5_play_188 rfl rfl ?_
            refine tv_getr (pc := 189) (q := 40) C rfl rfl fl_X5_28 dX5_play_189 ?_
            refine tv_iload (pc := 192) 2 C dX5_play_192 rfl ?_
            refine tv_iald (pc := 194) (j := h) (z := 0) C rfl dX5_play_194 (by omega) (by omega) tm_us ?_
            refine tv_iadd (pc := 195) C dX5_play_195 ?_
            refine tv_puti (pc := 196) C rfl rfl fp_X5_43 dX5_play_196 ?_
            refine tv_aload_n (pc := 199) 6 C dX5_play_199 rfl rfl ?_
            refine tv_getr (pc := 200) (q := 37) C rfl rfl fl_X5_18 dX5_play_200 ?_
            refine tv_iload (pc := 203) 2 C dX5_play_203 rfl ?_
            refine tv_aload_n (pc := 205) 6 C dX5_play_205 rfl rfl ?_
            refine tv_getr (pc := 206) (q := 36) C rfl rfl fl_X5_12 dX5_play_206 ?_
            refine tv_geti (pc := 209) (z := sm_z p (h + 1)) C rfl rfl fl_X5_76 dX5_play_209 ((tm_uk (by decide)).trans ((tm_uk (by decide)).trans ((tm_uk (by decide)).trans (tm_pd_1)))) ?_
            refine tv_iast (pc := 212) (j := h) C rfl dX5_play_212 (by omega) (by omega) ?_
            refine tv_aload_n (pc := 213) 6 C dX5_play_213 rfl rfl ?_
            refine tv_getr (pc := 214) (q := 38) C rfl rfl fl_X5_22 dX5_play_214 ?_
            refine tv_iload (pc := 217) 2 C dX5_play_217 rfl ?_
            refine tv_iload (pc := 219) 3 C dX5_play_219 rfl ?_
            refine tv_iast (pc := 221) (j := h) C rfl dX5_play_221 (by omega) (by omega) ?_
            refine tv_aload_n (pc := 222) 6 C dX5_play_222 rfl rfl ?_
            refine tv_getr (pc := 223) (q := 41) C rfl rfl fl_X5_31 dX5_play_223 ?_
            refine tv_iload (pc := 226) 2 C dX5_play_226 rfl ?_
            refine tv_aload_n (pc := 228) 6 C dX5_play_228 rfl rfl ?_
            refine tv_getr (pc := 229) (q := 36) C rfl rfl fl_X5_12 dX5_play_229 ?_
            refine tv_aload_n (pc := 232) 7 C dX5_play_232 rfl rfl ?_
            refine tv_callV (pc := 233) [.ref (E.2.1 29)] [tm_i x, .ref (E.2.1 41)] C (c4_dull_a E _ (tm_up (tm_up (tm_up (tm_up (tm_up (tm_pd (tm_rn μ p 35 h) 36 ((h : Int) + 1) (sm_z p (h + 1)) (sm_w p (h + 1)) (sm_s p (h + 1))) 39 h (-1)) 40 h 0) 35 7 ((sm_i p h) + 0)) 37 h (sm_z p (h + 1))) 38 h a) 36 (Or.inl rfl) rfl (by rw [show (tm_up (tm_up (tm_up (tm_up (tm_up (tm_pd (tm_rn μ p 35 h) 36 ((h : Int) + 1) (sm_z p (h + 1)) (sm_w p (h + 1)) (sm_s p (h + 1))) 39 h (-1)) 40 h 0) 35 7 ((sm_i p h) + 0)) 37 h (sm_z p (h + 1))) 38 h a) 36 2 = sm_w p (h + 1) from (tm_uk (by decide)).trans ((tm_uk (by decide)).trans ((tm_uk (by decide)).trans ((tm_uk (by decide)).trans ((tm_uk (by decide)).trans (tm_pd_2)))))]; omega) (by rw [show (tm_up (tm_up (tm_up (tm_up (tm_up (tm_pd (tm_rn μ p 35 h) 36 ((h : Int) + 1) (sm_z p (h + 1)) (sm_w p (h + 1)) (sm_s p (h + 1))) 39 h (-1)) 40 h 0) 35 7 ((sm_i p h) + 0)) 37 h (sm_z p (h + 1))) 38 h a) 30 4 = p 0 4 from (tm_uk (by decide)).trans ((tm_uk (by decide)).trans ((tm_uk (by decide)).trans ((tm_uk (by decide)).trans ((tm_uk (by decide)).trans ((congrFun (tm_pd_f (by decide)) _).trans ((congrFun (tm_rn_o (by omega)) _).trans (by rw [hpe]; rfl)))))))]; omega)) cv_X5_78 rfl rfl (by decide) rfl (Nat.le_of_ble_eq_true rfl) rfl dX5_play_233 (tm_ki ?_)
            rintro z9 _ ⟨hz9, rfl⟩
            rw [show (tm_up (tm_up (tm_up (tm_up (tm_up (tm_pd (tm_rn μ p 35 h) 36 ((h : Int) + 1) (sm_z p (h + 1)) (sm_w p (h + 1)) (sm_s p (h + 1))) 39 h (-1)) 40 h 0) 35 7 ((sm_i p h) + 0)) 37 h (sm_z p (h + 1))) 38 h a) 36 2 = sm_w p (h + 1) from (tm_uk (by decide)).trans ((tm_uk (by decide)).trans ((tm_uk (by decide)).trans ((tm_uk (by decide)).trans ((tm_uk (by decide)).trans (tm_pd_2))))), show (tm_up (tm_up (tm_up (tm_up (tm_up (tm_pd (tm_rn μ p 35 h) 36 ((h : Int) + 1) (sm_z p (h + 1)) (sm_w p (h + 1)) (sm_s p (h + 1))) 39 h (-1)) 40 h 0) 35 7 ((sm_i p h) + 0)) 37 h (sm_z p (h + 1))) 38 h a) 30 4 = p 0 4 from (tm_uk (by decide)).trans ((tm_uk (by decide)).trans ((tm_uk (by decide)).trans ((tm_uk (by decide)).trans ((tm_uk (by decide)).trans ((congrFun (tm_pd_f (by decide)) _).trans ((congrFun (tm_rn_o (by omega)) _).trans (by rw [hpe]; rfl)))))))] at hz9
            subst hz9
            refine tv_iast (pc := 236) (j := h) C rfl dX5_play_236 (by omega) (by omega) ?_
            refine tv_iinc (pc := 237) 2 [(5, tm_i (x + 1)), (7, tm_i 0), (6, tm_i (-1)), (4, tm_i a), (3, tm_i b), (2, tm_i c), (0, .ref (E.2.1 35)), (1, .ref (E.2.1 29))] C dX5_play_237 rfl (by decide) rfl ?_
            refine tv_goto (pc := 240) 31 C dX5_play_240 (by decide) ?_
            refine tv_sub (lv1 := [(5, tm_i (x + 1)), (4, tm_i a), (3, tm_i b), (2, tm_i c), (0, .ref (E.2.1 35)), (1, .ref (E.2.1 29))]) [0, 3, 4, 5, 6, 7] rfl ?_
            have hN : ¬ sm_N p h = true := fun q => by have q2 := (sm_N_iff p h).mp q; omega
            have e4 : a = sm_t p (h + 1) := by rw [sm_t_s]; omega
            have e3 : b = sm_o p (h + 1) := by rw [sm_o_s, if_neg hN]; omega
            have e2 : c = (sm_q p (h + 1) : Int) := by rw [sm_q_s, if_neg hN]; omega
            have v39 : -1 = sm_a p h := by unfold sm_a; first | (rw [if_pos (by omega)]; done) | (rw [if_neg (by omega), hff]; done)
            have v40 : 0 = sm_d p h := by unfold sm_d; first | (rw [if_pos (by omega)]; done) | (rw [if_neg (by omega), if_pos (by omega)]; done) | (rw [if_neg (by omega), if_neg (by omega)]; omega)
            have v35 : (sm_i p h) + 0 = sm_i p (h + 1) := by rw [sm_i_s]; first | (rw [if_pos (by omega)]; done) | (rw [if_neg (by omega), if_pos (by omega)]; done) | (rw [if_neg (by omega), if_neg (by omega)]; omega)
            refine tv_mem (tm_rn μ p 35 (h + 1)) (tm_rn_s (fun b => (tm_uk (by decide)).trans ((tm_uk (by decide)).trans ((tm_uk (by decide)).trans ((tm_ua b).trans (tm_obj_s (fun b => (tm_uk (by decide)).trans ((tm_uk (by decide)).trans ((congrFun (tm_pd_f (by decide)) b).trans (tm_rn_i0 b)))) v35 b))))) (fun b => (tm_uk (by decide)).trans ((tm_uk (by decide)).trans ((tm_uk (by decide)).trans ((tm_uk (by decide)).trans ((tm_uk (by decide)).trans ((tm_uk (by decide)).trans (tm_rn_pd b))))))) (fun b => (tm_uk (by decide)).trans ((tm_uk (by decide)).trans ((tm_ua b).trans (tm_row_s (fun b => (tm_uk (by decide)).trans ((tm_uk (by decide)).trans ((tm_uk (by decide)).trans ((congrFun (tm_pd_f (by decide)) b).trans (tm_rn_2 b))))) rfl b)))) (fun b => (tm_uk (by decide)).trans ((tm_ua b).trans (tm_row_s (fun b => (tm_uk (by decide)).trans ((tm_uk (by decide)).trans ((tm_uk (by decide)).trans ((tm_uk (by decide)).trans ((congrFun (tm_pd_f (by decide)) b).trans (tm_rn_3 b)))))) e4 b))) (fun b => (tm_uk (by decide)).trans ((tm_uk (by decide)).trans ((tm_uk (by decide)).trans ((tm_uk (by decide)).trans ((tm_uk (by decide)).trans ((tm_ua b).trans (tm_row_s (fun b => (congrFun (tm_pd_f (by decide)) b).trans (tm_rn_4 b)) v39 b))))))) (fun b => (tm_uk (by decide)).trans ((tm_uk (by decide)).trans ((tm_uk (by decide)).trans ((tm_uk (by decide)).trans ((tm_ua b).trans (tm_row_s (fun b => (tm_uk (by decide)).trans ((congrFun (tm_pd_f (by decide)) b).trans (tm_rn_5 b))) v40 b)))))) (fun b => (tm_ua b).trans (tm_row_s (fun b => (tm_uk (by decide)).trans ((tm_uk (by decide)).trans ((tm_uk (by decide)).trans ((tm_uk (by decide)).trans ((tm_uk (by decide)).trans ((congrFun (tm_pd_f (by decide)) b).trans (tm_rn_6 b))))))) rfl b)) (tm_end_n (fun b => (tm_uk (by decide)).trans ((tm_uk (by decide)).trans ((tm_uk (by decide)).trans ((tm_uk (by decide)).trans ((tm_uk (by decide)).trans ((tm_uk (by decide)).trans ((congrFun (tm_pd_f (by decide)) b).trans (tm_rn_7 b)))))))) hN) (fun a ha => by rw [tm_uf (show a ≠ 41 by omega), tm_uf (show a ≠ 38 by omega), tm_uf (show a ≠ 37 by omega), tm_uf (show a ≠ 35 by omega), tm_uf (show a ≠ 40 by omega), tm_uf (show a ≠ 39 by omega), tm_pd_f (by omega), tm_rn_o ha])) ?_
            exact ih (h + 1) _ _ _ _ (by omega) e4 e3 e2 (by omega) (by omega)
          · skip
            refine tv_iconst (pc := 148) C dX5_play_148 ?_
            refine tv_goto (pc := 149) 154 C dX5_play_149 (by decide) ?_
            refine tv_iast (pc := 154) (j := h) C rfl dX5_play_154 (by omega) (by omega) ?_
            refine tv_aload_n (pc := 155) 6 C dX5_play_155 rfl rfl ?_
            refine tv_getr (pc := 156) (q := 40) C rfl rfl fl_X5_28 dX5_play_156 ?_
            refine tv_iload (pc := 159) 2 C dX5_play_159 rfl ?_
            refine tv_aload_n (pc := 161) 6 C dX5_play_161 rfl rfl ?_
            refine tv_getr (pc := 162) (q := 39) C rfl rfl fl_X5_25 dX5_play_162 ?_
            refine tv_iload (pc := 165) 2 C dX5_play_165 rfl ?_
            refine tv_iald (pc := 167) (j := h) (z := -1) C rfl dX5_play_167 (by omega) (by omega) tm_us ?_
            refine tv_iconst (pc := 168) C dX5_play_168 ?_
            refine tv_icmp_eq (pc := 169) 181 C dX5_play_169 (by decide) (by omega) (by omega) (fun _ => ?_) (fun q => absurd q (by decide))
            refine tv_iconst (pc := 181) C dX5_play_181 ?_
            refine tv_iast (pc := 182) (j := h) C rfl dX5_play_182 (by omega) (by omega) ?_
            refine tv_aload_n (pc := 183) 6 C dX5_play_183 rfl rfl ?_
            refine tv_dup (pc := 184) C dX5_play_184 rfl ?_
            refine tv_geti (pc := 185) (z := sm_i p h) C rfl rfl fl_X5_43 dX5_play_185 ((tm_uk (by decide)).trans ((tm_uk (by decide)).trans ((congrFun (tm_pd_f (by decide)) _).trans tm_rn_i))) ?_
            refine tv_aload_n (pc := 188) 6 C dX5_play_188 rfl rfl ?_
            refine tv_getr (pc := 189) (q := 40) C rfl rfl fl_X5_28 dX5_play_189 ?_
            refine tv_iload (pc := 192) 2 C dX5_play_192 rfl ?_
            refine tv_iald (pc := 194) (j := h) (z := 0) C rfl dX5_play_194 (by omega) (by omega) tm_us ?_
            refine tv_iadd (pc := 195) C dX5_play_195 ?_
            refine tv_puti (pc := 196) C rfl rfl fp_X5_43 dX5_play_196 ?_
            refine tv_aload_n (pc := 199) 6 C dX5_play_199 rfl rfl ?_
            refine tv_getr (pc := 200) (q := 37) C rfl rfl fl_X5_18 dX5_play_200 ?_
            refine tv_iload (pc := 203) 2 C dX5_play_203 rfl ?_
            refine tv_aload_n (pc := 205) 6 C dX5_play_205 rfl rfl ?_
            refine tv_getr (pc := 206) (q := 36) C rfl rfl fl_X5_12 dX5_play_206 ?_
            refine tv_geti (pc := 209) (z := sm_z p (h + 1)) C rfl rfl fl_X5_76 dX5_play_209 ((tm_uk (by decide)).trans ((tm_uk (by decide)).trans ((tm_uk (by decide)).trans (tm_pd_1)))) ?_
            refine tv_iast (pc := 212) (j := h) C rfl dX5_play_212 (by omega) (by omega) ?_
            refine tv_aload_n (pc := 213) 6 C dX5_play_213 rfl rfl ?_
            refine tv_getr (pc := 214) (q := 38) C rfl rfl fl_X5_22 dX5_play_214 ?_
            refine tv_iload (pc := 217) 2 C dX5_play_217 rfl ?_
            refine tv_iload (pc := 219) 3 C dX5_play_219 rfl ?_
            refine tv_iast (pc := 221) (j := h) C rfl dX5_play_221 (by omega) (by omega) ?_
            refine tv_aload_n (pc := 222) 6 C dX5_play_222 rfl rfl ?_
            refine tv_getr (pc := 223) (q := 41) C rfl rfl fl_X5_31 dX5_play_223 ?_
            refine tv_iload (pc := 226) 2 C dX5_play_226 rfl ?_
            refine tv_aload_n (pc := 228) 6 C dX5_play_228 rfl rfl ?_
            refine tv_getr (pc := 229) (q := 36) C rfl rfl fl_X5_12 dX5_play_229 ?_
            refine tv_aload_n (pc := 232) 7 C dX5_play_232 rfl rfl ?_
            refine tv_callV (pc := 233) [.ref (E.2.1 29)] [tm_i x, .ref (E.2.1 41)] C (c4_dull_a E _ (tm_up (tm_up (tm_up (tm_up (tm_up (tm_pd (tm_rn μ p 35 h) 36 ((h : Int) + 1) (sm_z p (h + 1)) (sm_w p (h + 1)) (sm_s p (h + 1))) 39 h (-1)) 40 h 0) 35 7 ((sm_i p h) + 0)) 37 h (sm_z p (h + 1))) 38 h a) 36 (Or.inl rfl) rfl (by rw [show (tm_up (tm_up (tm_up (tm_up (tm_up (tm_pd (tm_rn μ p 35 h) 36 ((h : Int) + 1) (sm_z p (h + 1)) (sm_w p (h + 1)) (sm_s p (h + 1))) 39 h (-1)) 40 h 0) 35 7 ((sm_i p h) + 0)) 37 h (sm_z p (h + 1))) 38 h a) 36 2 = sm_w p (h + 1) from (tm_uk (by decide)).trans ((tm_uk (by decide)).trans ((tm_uk (by decide)).trans ((tm_uk (by decide)).trans ((tm_uk (by decide)).trans (tm_pd_2)))))]; omega) (by rw [show (tm_up (tm_up (tm_up (tm_up (tm_up (tm_pd (tm_rn μ p 35 h) 36 ((h : Int) + 1) (sm_z p (h + 1)) (sm_w p (h + 1)) (sm_s p (h + 1))) 39 h (-1)) 40 h 0) 35 7 ((sm_i p h) + 0)) 37 h (sm_z p (h + 1))) 38 h a) 30 4 = p 0 4 from (tm_uk (by decide)).trans ((tm_uk (by decide)).trans ((tm_uk (by decide)).trans ((tm_uk (by decide)).trans ((tm_uk (by decide)).trans ((congrFun (tm_pd_f (by decide)) _).trans ((congrFun (tm_rn_o (by omega)) _).trans (by rw [hpe]; rfl)))))))]; omega)) cv_X5_78 rfl rfl (by decide) rfl (Nat.le_of_ble_eq_true rfl) rfl dX5_play_233 (tm_ki ?_)
            rintro z9 _ ⟨hz9, rfl⟩
            rw [show (tm_up (tm_up (tm_up (tm_up (tm_up (tm_pd (tm_rn μ p 35 h) 36 ((h : Int) + 1) (sm_z p (h + 1)) (sm_w p (h + 1)) (sm_s p (h + 1))) 39 h (-1)) 40 h 0) 35 7 ((sm_i p h) + 0)) 37 h (sm_z p (h + 1))) 38 h a) 36 2 = sm_w p (h + 1) from (tm_uk (by decide)).trans ((tm_uk (by decide)).trans ((tm_uk (by decide)).trans ((tm_uk (by decide)).trans ((tm_uk (by decide)).trans (tm_pd_2))))), show (tm_up (tm_up (tm_up (tm_up (tm_up (tm_pd (tm_rn μ p 35 h) 36 ((h : Int) + 1) (sm_z p (h + 1)) (sm_w p (h + 1)) (sm_s p (h + 1))) 39 h (-1)) 40 h 0) 35 7 ((sm_i p h) + 0)) 37 h (sm_z p (h + 1))) 38 h a) 30 4 = p 0 4 from (tm_uk (by decide)).trans ((tm_uk (by decide)).trans ((tm_uk (by decide)).trans ((tm_uk (by decide)).trans ((tm_uk (by decide)).trans ((congrFun (tm_pd_f (by decide)) _).trans ((congrFun (tm_rn_o (by omega)) _).trans (by rw [hpe]; rfl)))))))] at hz9
            subst hz9
            refine tv_iast (pc := 236) (j := h) C rfl dX5_play_236 (by omega) (by omega) ?_
            refine tv_iinc (pc := 237) 2 [(5, tm_i (x + 1)), (7, tm_i 0), (6, tm_i (-1)), (4, tm_i a), (3, tm_i b), (2, tm_i c), (0, .ref (E.2.1 35)), (1, .ref (E.2.1 29))] C dX5_play_237 rfl (by decide) rfl ?_
            refine tv_goto (pc := 240) 31 C dX5_play_240 (by decide) ?_
            refine tv_sub (lv1 := [(5, tm_i (x + 1)), (4, tm_i a), (3, tm_i b), (2, tm_i c), (0, .ref (E.2.1 35)), (1, .ref (E.2.1 29))]) [0, 3, 4, 5, 6, 7] rfl ?_
            have hN : ¬ sm_N p h = true := fun q => by have q2 := (sm_N_iff p h).mp q; omega
            have e4 : a = sm_t p (h + 1) := by rw [sm_t_s]; omega
            have e3 : b = sm_o p (h + 1) := by rw [sm_o_s, if_neg hN]; omega
            have e2 : c = (sm_q p (h + 1) : Int) := by rw [sm_q_s, if_neg hN]; omega
            have v39 : -1 = sm_a p h := by unfold sm_a; first | (rw [if_pos (by omega)]; done) | (rw [if_neg (by omega), hff]; done)
            have v40 : 0 = sm_d p h := by unfold sm_d; first | (rw [if_pos (by omega)]; done) | (rw [if_neg (by omega), if_pos (by omega)]; done) | (rw [if_neg (by omega), if_neg (by omega)]; omega)
            have v35 : (sm_i p h) + 0 = sm_i p (h + 1) := by rw [sm_i_s]; first | (rw [if_pos (by omega)]; done) | (rw [if_neg (by omega), if_pos (by omega)]; done) | (rw [if_neg (by omega), if_neg (by omega)]; omega)
            refine tv_mem (tm_rn μ p 35 (h + 1)) (tm_rn_s (fun b => (tm_uk (by decide)).trans ((tm_uk (by decide)).trans ((tm_uk (by decide)).trans ((tm_ua b).trans (tm_obj_s (fun b => (tm_uk (by decide)).trans ((tm_uk (by decide)).trans ((congrFun (tm_pd_f (by decide)) b).trans (tm_rn_i0 b)))) v35 b))))) (fun b => (tm_uk (by decide)).trans ((tm_uk (by decide)).trans ((tm_uk (by decide)).trans ((tm_uk (by decide)).trans ((tm_uk (by decide)).trans ((tm_uk (by decide)).trans (tm_rn_pd b))))))) (fun b => (tm_uk (by decide)).trans ((tm_uk (by decide)).trans ((tm_ua b).trans (tm_row_s (fun b => (tm_uk (by decide)).trans ((tm_uk (by decide)).trans ((tm_uk (by decide)).trans ((congrFun (tm_pd_f (by decide)) b).trans (tm_rn_2 b))))) rfl b)))) (fun b => (tm_uk (by decide)).trans ((tm_ua b).trans (tm_row_s (fun b => (tm_uk (by decide)).trans ((tm_uk (by decide)).trans ((tm_uk (by decide)).trans ((tm_uk (by decide)).trans ((congrFun (tm_pd_f (by decide)) b).trans (tm_rn_3 b)))))) e4 b))) (fun b => (tm_uk (by decide)).trans ((tm_uk (by decide)).trans ((tm_uk (by decide)).trans ((tm_uk (by decide)).trans ((tm_uk (by decide)).trans ((tm_ua b).trans (tm_row_s (fun b => (congrFun (tm_pd_f (by decide)) b).trans (tm_rn_4 b)) v39 b))))))) (fun b => (tm_uk (by decide)).trans ((tm_uk (by decide)).trans ((tm_uk (by decide)).trans ((tm_uk (by decide)).trans ((tm_ua b).trans (tm_row_s (fun b => (tm_uk (by decide)).trans ((congrFun (tm_pd_f (by decide)) b).trans (tm_rn_5 b))) v40 b)))))) (fun b => (tm_ua b).trans (tm_row_s (fun b => (tm_uk (by decide)).trans ((tm_uk (by decide)).trans ((tm_uk (by decide)).trans ((tm_uk (by decide)).trans ((tm_uk (by decide)).trans ((congrFun (tm_pd_f (by decide)) b).trans (tm_rn_6 b))))))) rfl b)) (tm_end_n (fun b => (tm_uk (by decide)).trans ((tm_uk (by decide)).trans ((tm_uk (by decide)).trans ((tm_uk (by decide)).trans ((tm_uk (by decide)).trans ((tm_uk (by decide)).trans ((congrFun (tm_pd_f (by decide)) b).trans (tm_rn_7 b)))))))) hN) (fun a ha => by rw [tm_uf (show a ≠ 41 by omega), tm_uf (show a ≠ 38 by omega), tm_uf (show a ≠ 37 by omega), tm_uf (show a ≠ 35 by omega), tm_uf (show a ≠ 40 by omega), tm_uf (show a ≠ 39 by omega), tm_pd_f (by omega), tm_rn_o ha])) ?_
            exact ih (h + 1) _ _ _ _ (by omega) e4 e3 e2 (by omega) (by omega)
        · skip
          exfalso
          have q2 := (sm_G_1 hp hz.symm).2
          omega
      · skip
        have hrow := hp.2.2.2.2.2.2.2.2.2 (sm_q p h) (by omega)
        have hff : sm_f p (sm_q p h) = p 4 (sm_q p h) := by unfold sm_f; rw [if_pos (by omega)]
        have hgg : sm_g p (sm_q p h) = p 6 (p 4 (sm_q p h)).toNat := by unfold sm_g; rw [hff, if_neg (by omega)]
        refine tv_aload_n (pc := 46) 5 C dX5_play_46 rfl rfl ?_
        refine tv_getr (pc := 47) (q := 34) C rfl rfl fl_X5_56 dX5_play_47 ?_
        refine tv_iload_n (pc := 50) 3 C dX5_play_50 rfl rfl ?_
        refine tv_iald (pc := 51) (j := (sm_q p h)) (z := p 4 (sm_q p h)) C rfl dX5_play_51 (by omega) (by omega) ((congrFun (tm_rn_o (by omega)) _).trans (by rw [hpe]; rfl)) ?_
        refine tv_goto (pc := 52) 56 C dX5_play_52 (by decide) ?_
        refine tv_istore (pc := 56) [(6, tm_i (p 4 (sm_q p h))), (5, tm_i x), (4, tm_i a), (3, tm_i b), (2, tm_i c), (0, .ref (E.2.1 35)), (1, .ref (E.2.1 29))] C dX5_play_56 (by decide) rfl ?_
        refine tv_aload_n (pc := 58) 5 C dX5_play_58 rfl rfl ?_
        refine tv_getr (pc := 59) (q := 36) C rfl rfl fl_X5_12 dX5_play_59 ?_
        refine tv_aload_n (pc := 62) 6 C dX5_play_62 rfl rfl ?_
        refine tv_iload (pc := 63) 0 C dX5_play_63 rfl ?_
        refine tv_iconst (pc := 65) C dX5_play_65 ?_
        refine tv_icmp_ne (pc := 66) 73 C dX5_play_66 (by decide) (by omega) (by omega) (fun h66 => ?_) (fun h66 => ?_)
        · skip
          refine tv_aload_n (pc := 73) 6 C dX5_play_73 rfl rfl ?_
          refine tv_getr (pc := 74) (q := 23) C rfl rfl fl_X5_59 dX5_play_74 ?_
          refine tv_getr (pc := 77) (q := 24) C rfl rfl fl_X5_63 dX5_play_77 ?_
          refine tv_iload (pc := 80) 0 C dX5_play_80 rfl ?_
          refine tv_iald (pc := 82) (j := (p 4 (sm_q p h)).toNat) (z := p 6 ((p 4 (sm_q p h)).toNat)) C rfl dX5_play_82 (by omega) rfl ((congrFun (tm_rn_o (by omega)) _).trans (by rw [hpe]; rfl)) ?_
          refine tv_callV (pc := 83) [.ref (E.2.1 29), tm_i (p 6 ((p 4 (sm_q p h)).toNat))] [] C (c5_pass_a E _ μ p h (p 6 ((p 4 (sm_q p h)).toNat)) hpe hp (by omega) hgg.symm) cv_X5_68 rfl rfl (by decide) rfl (Nat.le_of_ble_eq_true rfl) rfl dX5_play_83 (tm_ki ?_)
          rintro z _ ⟨hz, rfl⟩
          have h01 : z = 0 ∨ z = 1 := by rw [hz]; exact sm_G01 p h
          refine tv_istore (pc := 86) [(7, tm_i z), (6, tm_i (p 4 (sm_q p h))), (5, tm_i x), (4, tm_i a), (3, tm_i b), (2, tm_i c), (0, .ref (E.2.1 35)), (1, .ref (E.2.1 29))] C dX5_play_86 (by decide) rfl ?_
          rcases h01 with rfl | rfl
          · skip
            refine tv_iload (pc := 88) 0 C dX5_play_88 rfl ?_
            refine tv_if_eq (pc := 90) 99 C dX5_play_90 (by decide) (by omega) (fun _ => ?_) (fun q => absurd q (by decide))
            refine tv_iload (pc := 99) 0 C dX5_play_99 rfl ?_
            refine tv_if_eq (pc := 101) 132 C dX5_play_101 (by decide) (by omega) (fun _ => ?_) (fun q => absurd q (by decide))
            refine tv_aload_n (pc := 132) 6 C dX5_play_132 rfl rfl ?_
            refine tv_getr (pc := 133) (q := 39) C rfl rfl fl_X5_25 dX5_play_133 ?_
            refine tv_iload (pc := 136) 2 C dX5_play_136 rfl ?_
            refine tv_aload_n (pc := 138) 7 C dX5_play_138 rfl rfl ?_
            refine tv_getr (pc := 139) (q := 33) C rfl rfl fl_X5_73 dX5_play_139 ?_
            refine tv_iload (pc := 142) 2 C dX5_play_142 rfl ?_
            refine tv_iald (pc := 144) (j := h) (z := p 3 h) C rfl dX5_play_144 (by omega) (by omega) ((congrFun (tm_pd_f (by decide)) _).trans ((congrFun (tm_rn_o (by omega)) _).trans (by rw [hpe]; rfl))) ?_
            refine tv_if_le (pc := 145) 152 C dX5_play_145 (by decide) (by omega) (fun h145 => ?_) (fun h145 => ?_)
            · skip
              refine tv_iload (pc := 152) 1 C dX5_play_152 rfl ?_
              refine tv_iast (pc := 154) (j := h) C rfl dX5_play_154 (by omega) (by omega) ?_
              refine tv_aload_n (pc := 155) 6 C dX5_play_155 rfl rfl ?_
              refine tv_getr (pc := 156) (q := 40) C rfl rfl fl_X5_28 dX5_play_156 ?_
              refine tv_iload (pc := 159) 2 C dX5_play_159 rfl ?_
              refine tv_aload_n (pc := 161) 6 C dX5_play_161 rfl rfl ?_
              refine tv_getr (pc := 162) (q := 39) C rfl rfl fl_X5_25 dX5_play_162 ?_
              refine tv_iload (pc := 165) 2 C dX5_play_165 rfl ?_
              refine tv_iald (pc := 167) (j := h) (z := p 4 (sm_q p h)) C rfl dX5_play_167 (by omega) (by omega) tm_us ?_
              refine tv_iconst (pc := 168) C dX5_play_168 ?_
              refine tv_icmp_eq (pc := 169) 181 C dX5_play_169 (by decide) (by omega) (by omega) (fun h169 => ?_) (fun h169 => ?_)
              · skip
                exfalso; omega
              · skip
                refine tv_iload (pc := 172) 0 C dX5_play_172 rfl ?_
                refine tv_if_ne (pc := 174) 181 C dX5_play_174 (by decide) (by omega) (fun q => absurd q (by decide)) (fun _ => ?_)
                refine tv_iconst (pc := 177) C dX5_play_177 ?_
                refine tv_goto (pc := 178) 182 C dX5_play_178 (by decide) ?_
                refine tv_iast (pc := 182) (j := h) C rfl dX5_play_182 (by omega) (by omega) ?_
                refine tv_aload_n (pc := 183) 6 C dX5_play_183 rfl rfl ?_
                refine tv_dup (pc := 184) C dX5_play_184 rfl ?_
                refine tv_geti (pc := 185) (z := sm_i p h) C rfl rfl fl_X5_43 dX5_play_185 ((tm_uk (by decide)).trans ((tm_uk (by decide)).trans ((congrFun (tm_pd_f (by decide)) _).trans tm_rn_i))) ?_
                refine tv_aload_n (pc := 188) 6 C dX5_play_188 rfl rfl ?_
                refine tv_getr (pc := 189) (q := 40) C rfl rfl fl_X5_28 dX5_play_189 ?_
                refine tv_iload (pc := 192) 2 C dX5_play_192 rfl ?_
                refine tv_iald (pc := 194) (j := h) (z := 1) C rfl dX5_play_194 (by omega) (by omega) tm_us ?_
                refine tv_iadd (pc := 195) C dX5_play_195 ?_
                refine tv_puti (pc := 196) C rfl rfl fp_X5_43 dX5_play_196 ?_
                refine tv_aload_n (pc := 199) 6 C dX5_play_199 rfl rfl ?_
                refine tv_getr (pc := 200) (q := 37) C rfl rfl fl_X5_18 dX5_play_200 ?_
                refine tv_iload (pc := 203) 2 C dX5_play_203 rfl ?_
                refine tv_aload_n (pc := 205) 6 C dX5_play_205 rfl rfl ?_
                refine tv_getr (pc := 206) (q := 36) C rfl rfl fl_X5_12 dX5_play_206 ?_
                refine tv_geti (pc := 209) (z := sm_z p (h + 1)) C rfl rfl fl_X5_76 dX5_play_209 ((tm_uk (by decide)).trans ((tm_uk (by decide)).trans ((tm_uk (by decide)).trans (tm_pd_1)))) ?_
                refine tv_iast (pc := 212) (j := h) C rfl dX5_play_212 (by omega) (by omega) ?_
                refine tv_aload_n (pc := 213) 6 C dX5_play_213 rfl rfl ?_
                refine tv_getr (pc := 214) (q := 38) C rfl rfl fl_X5_22 dX5_play_214 ?_
                refine tv_iload (pc := 217) 2 C dX5_play_217 rfl ?_
                refine tv_iload (pc := 219) 3 C dX5_play_219 rfl ?_
                refine tv_iast (pc := 221) (j := h) C rfl dX5_play_221 (by omega) (by omega) ?_
                refine tv_aload_n (pc := 222) 6 C dX5_play_222 rfl rfl ?_
                refine tv_getr (pc := 223) (q := 41) C rfl rfl fl_X5_31 dX5_play_223 ?_
                refine tv_iload (pc := 226) 2 C dX5_play_226 rfl ?_
                refine tv_aload_n (pc := 228) 6 C dX5_play_228 rfl rfl ?_
                refine tv_getr (pc := 229) (q := 36) C rfl rfl fl_X5_12 dX5_play_229 ?_
                refine tv_aload_n (pc := 232) 7 C dX5_play_232 rfl rfl ?_
                refine tv_callV (pc := 233) [.ref (E.2.1 29)] [tm_i x, .ref (E.2.1 41)] C (c4_dull_a E _ (tm_up (tm_up (tm_up (tm_up (tm_up (tm_pd (tm_rn μ p 35 h) 36 ((h : Int) + 1) (sm_z p (h + 1)) (sm_w p (h + 1)) (sm_s p (h + 1))) 39 h (p 4 (sm_q p h))) 40 h 1) 35 7 ((sm_i p h) + 1)) 37 h (sm_z p (h + 1))) 38 h a) 36 (Or.inl rfl) rfl (by rw [show (tm_up (tm_up (tm_up (tm_up (tm_up (tm_pd (tm_rn μ p 35 h) 36 ((h : Int) + 1) (sm_z p (h + 1)) (sm_w p (h + 1)) (sm_s p (h + 1))) 39 h (p 4 (sm_q p h))) 40 h 1) 35 7 ((sm_i p h) + 1)) 37 h (sm_z p (h + 1))) 38 h a) 36 2 = sm_w p (h + 1) from (tm_uk (by decide)).trans ((tm_uk (by decide)).trans ((tm_uk (by decide)).trans ((tm_uk (by decide)).trans ((tm_uk (by decide)).trans (tm_pd_2)))))]; omega) (by rw [show (tm_up (tm_up (tm_up (tm_up (tm_up (tm_pd (tm_rn μ p 35 h) 36 ((h : Int) + 1) (sm_z p (h + 1)) (sm_w p (h + 1)) (sm_s p (h + 1))) 39 h (p 4 (sm_q p h))) 40 h 1) 35 7 ((sm_i p h) + 1)) 37 h (sm_z p (h + 1))) 38 h a) 30 4 = p 0 4 from (tm_uk (by decide)).trans ((tm_uk (by decide)).trans ((tm_uk (by decide)).trans ((tm_uk (by decide)).trans ((tm_uk (by decide)).trans ((congrFun (tm_pd_f (by decide)) _).trans ((congrFun (tm_rn_o (by omega)) _).trans (by rw [hpe]; rfl)))))))]; omega)) cv_X5_78 rfl rfl (by decide) rfl (Nat.le_of_ble_eq_true rfl) rfl dX5_play_233 (tm_ki ?_)
                rintro z9 _ ⟨hz9, rfl⟩
                rw [show (tm_up (tm_up (tm_up (tm_up (tm_up (tm_pd (tm_rn μ p 35 h) 36 ((h : Int) + 1) (sm_z p (h + 1)) (sm_w p (h + 1)) (sm_s p (h + 1))) 39 h (p 4 (sm_q p h))) 40 h 1) 35 7 ((sm_i p h) + 1)) 37 h (sm_z p (h + 1))) 38 h a) 36 2 = sm_w p (h + 1) from (tm_uk (by decide)).trans ((tm_uk (by decide)).trans ((tm_uk (by decide)).trans ((tm_uk (by decide)).trans ((tm_uk (by decide)).trans (tm_pd_2))))), show (tm_up (tm_up (tm_up (tm_up (tm_up (tm_pd (tm_rn μ p 35 h) 36 ((h : Int) + 1) (sm_z p (h + 1)) (sm_w p (h + 1)) (sm_s p (h + 1))) 39 h (p 4 (sm_q p h))) 40 h 1) 35 7 ((sm_i p h) + 1)) 37 h (sm_z p (h + 1))) 38 h a) 30 4 = p 0 4 from (tm_uk (by decide)).trans ((tm_uk (by decide)).trans ((tm_uk (by decide)).trans ((tm_uk (by decide)).trans ((tm_uk (by decide)).trans ((congrFun (tm_pd_f (by decide)) _).trans ((congrFun (tm_rn_o (by omega)) _).trans (by rw [hpe]; rfl)))))))] at hz9
                subst hz9
                refine tv_iast (pc := 236) (j := h) C rfl dX5_play_236 (by omega) (by omega) ?_
                refine tv_iinc (pc := 237) 2 [(5, tm_i (x + 1)), (7, tm_i 0), (6, tm_i (p 4 (sm_q p h))), (4, tm_i a), (3, tm_i b), (2, tm_i c), (0, .ref (E.2.1 35)), (1, .ref (E.2.1 29))] C dX5_play_237 rfl (by decide) rfl ?_
                refine tv_goto (pc := 240) 31 C dX5_play_240 (by decide) ?_
                refine tv_sub (lv1 := [(5, tm_i (x + 1)), (4, tm_i a), (3, tm_i b), (2, tm_i c), (0, .ref (E.2.1 35)), (1, .ref (E.2.1 29))]) [0, 3, 4, 5, 6, 7] rfl ?_
                have hN : ¬ sm_N p h = true := fun q => by have q2 := (sm_N_iff p h).mp q; omega
                have e4 : a = sm_t p (h + 1) := by rw [sm_t_s]; omega
                have e3 : b = sm_o p (h + 1) := by rw [sm_o_s, if_neg hN]; omega
                have e2 : c = (sm_q p (h + 1) : Int) := by rw [sm_q_s, if_neg hN]; omega
                have v39 : p 4 (sm_q p h) = sm_a p h := by unfold sm_a; first | (rw [if_pos (by omega)]; done) | (rw [if_neg (by omega), hff]; done)
                have v40 : 1 = sm_d p h := by unfold sm_d; first | (rw [if_pos (by omega)]; done) | (rw [if_neg (by omega), if_pos (by omega)]; done) | (rw [if_neg (by omega), if_neg (by omega)]; omega)
                have v35 : (sm_i p h) + 1 = sm_i p (h + 1) := by rw [sm_i_s]; first | (rw [if_pos (by omega)]; done) | (rw [if_neg (by omega), if_pos (by omega)]; done) | (rw [if_neg (by omega), if_neg (by omega)]; omega)
                refine tv_mem (tm_rn μ p 35 (h + 1)) (tm_rn_s (fun b => (tm_uk (by decide)).trans ((tm_uk (by decide)).trans ((tm_uk (by decide)).trans ((tm_ua b).trans (tm_obj_s (fun b => (tm_uk (by decide)).trans ((tm_uk (by decide)).trans ((congrFun (tm_pd_f (by decide)) b).trans (tm_rn_i0 b)))) v35 b))))) (fun b => (tm_uk (by decide)).trans ((tm_uk (by decide)).trans ((tm_uk (by decide)).trans ((tm_uk (by decide)).trans ((tm_uk (by decide)).trans ((tm_uk (by decide)).trans (tm_rn_pd b))))))) (fun b => (tm_uk (by decide)).trans ((tm_uk (by decide)).trans ((tm_ua b).trans (tm_row_s (fun b => (tm_uk (by decide)).trans ((tm_uk (by decide)).trans ((tm_uk (by decide)).trans ((congrFun (tm_pd_f (by decide)) b).trans (tm_rn_2 b))))) rfl b)))) (fun b => (tm_uk (by decide)).trans ((tm_ua b).trans (tm_row_s (fun b => (tm_uk (by decide)).trans ((tm_uk (by decide)).trans ((tm_uk (by decide)).trans ((tm_uk (by decide)).trans ((congrFun (tm_pd_f (by decide)) b).trans (tm_rn_3 b)))))) e4 b))) (fun b => (tm_uk (by decide)).trans ((tm_uk (by decide)).trans ((tm_uk (by decide)).trans ((tm_uk (by decide)).trans ((tm_uk (by decide)).trans ((tm_ua b).trans (tm_row_s (fun b => (congrFun (tm_pd_f (by decide)) b).trans (tm_rn_4 b)) v39 b))))))) (fun b => (tm_uk (by decide)).trans ((tm_uk (by decide)).trans ((tm_uk (by decide)).trans ((tm_uk (by decide)).trans ((tm_ua b).trans (tm_row_s (fun b => (tm_uk (by decide)).trans ((congrFun (tm_pd_f (by decide)) b).trans (tm_rn_5 b))) v40 b)))))) (fun b => (tm_ua b).trans (tm_row_s (fun b => (tm_uk (by decide)).trans ((tm_uk (by decide)).trans ((tm_uk (by decide)).trans ((tm_uk (by decide)).trans ((tm_uk (by decide)).trans ((congrFun (tm_pd_f (by decide)) b).trans (tm_rn_6 b))))))) rfl b)) (tm_end_n (fun b => (tm_uk (by decide)).trans ((tm_uk (by decide)).trans ((tm_uk (by decide)).trans ((tm_uk (by decide)).trans ((tm_uk (by decide)).trans ((tm_uk (by decide)).trans ((congrFun (tm_pd_f (by decide)) b).trans (tm_rn_7 b)))))))) hN) (fun a ha => by rw [tm_uf (show a ≠ 41 by omega), tm_uf (show a ≠ 38 by omega), tm_uf (show a ≠ 37 by omega), tm_uf (show a ≠ 35 by omega), tm_uf (show a ≠ 40 by omega), tm_uf (show a ≠ 39 by omega), tm_pd_f (by omega), tm_rn_o ha])) ?_
                exact ih (h + 1) _ _ _ _ (by omega) e4 e3 e2 (by omega) (by omega)
            · skip
              refine tv_iconst (pc := 148) C dX5_play_148 ?_
              refine tv_goto (pc := 149) 154 C dX5_play_149 (by decide) ?_
              refine tv_iast (pc := 154) (j := h) C rfl dX5_play_154 (by omega) (by omega) ?_
              refine tv_aload_n (pc := 155) 6 C dX5_play_155 rfl rfl ?_
              refine tv_getr (pc := 156) (q := 40) C rfl rfl fl_X5_28 dX5_play_156 ?_
              refine tv_iload (pc := 159) 2 C dX5_play_159 rfl ?_
              refine tv_aload_n (pc := 161) 6 C dX5_play_161 rfl rfl ?_
              refine tv_getr (pc := 162) (q := 39) C rfl rfl fl_X5_25 dX5_play_162 ?_
              refine tv_iload (pc := 165) 2 C dX5_play_165 rfl ?_
              refine tv_iald (pc := 167) (j := h) (z := -1) C rfl dX5_play_167 (by omega) (by omega) tm_us ?_
              refine tv_iconst (pc := 168) C dX5_play_168 ?_
              refine tv_icmp_eq (pc := 169) 181 C dX5_play_169 (by decide) (by omega) (by omega) (fun _ => ?_) (fun q => absurd q (by decide))
              refine tv_iconst (pc := 181) C dX5_play_181 ?_
              refine tv_iast (pc := 182) (j := h) C rfl dX5_play_182 (by omega) (by omega) ?_
              refine tv_aload_n (pc := 183) 6 C dX5_play_183 rfl rfl ?_
              refine tv_dup (pc := 184) C dX5_play_184 rfl ?_
              refine tv_geti (pc := 185) (z := sm_i p h) C rfl rfl fl_X5_43 dX5_play_185 ((tm_uk (by decide)).trans ((tm_uk (by decide)).trans ((congrFun (tm_pd_f (by decide)) _).trans tm_rn_i))) ?_
              refine tv_aload_n (pc := 188) 6 C dX5_play_188 rfl rfl ?_
              refine tv_getr (pc := 189) (q := 40) C rfl rfl fl_X5_28 dX5_play_189 ?_
              refine tv_iload (pc := 192) 2 C dX5_play_192 rfl ?_
              refine tv_iald (pc := 194) (j := h) (z := 0) C rfl dX5_play_194 (by omega) (by omega) tm_us ?_
              refine tv_iadd (pc := 195) C dX5_play_195 ?_
              refine tv_puti (pc := 196) C rfl rfl fp_X5_43 dX5_play_196 ?_
              refine tv_aload_n (pc := 199) 6 C dX5_play_199 rfl rfl ?_
              refine tv_getr (pc := 200) (q := 37) C rfl rfl fl_X5_18 dX5_play_200 ?_
              refine tv_iload (pc := 203) 2 C dX5_play_203 rfl ?_
              refine tv_aload_n (pc := 205) 6 C dX5_play_205 rfl rfl ?_
              refine tv_getr (pc := 206) (q := 36) C rfl rfl fl_X5_12 dX5_play_206 ?_
              refine tv_geti (pc := 209) (z := sm_z p (h + 1)) C rfl rfl fl_X5_76 dX5_play_209 ((tm_uk (by decide)).trans ((tm_uk (by decide)).trans ((tm_uk (by decide)).trans (tm_pd_1)))) ?_
              refine tv_iast (pc := 212) (j := h) C rfl dX5_play_212 (by omega) (by omega) ?_
              refine tv_aload_n (pc := 213) 6 C dX5_play_213 rfl rfl ?_
              refine tv_getr (pc := 214) (q := 38) C rfl rfl fl_X5_22 dX5_play_214 ?_
              refine tv_iload (pc := 217) 2 C dX5_play_217 rfl ?_
              refine tv_iload (pc := 219) 3 C dX5_play_219 rfl ?_
              refine tv_iast (pc := 221) (j := h) C rfl dX5_play_221 (by omega) (by omega) ?_
              refine tv_aload_n (pc := 222) 6 C dX5_play_222 rfl rfl ?_
              refine tv_getr (pc := 223) (q := 41) C rfl rfl fl_X5_31 dX5_play_223 ?_
              refine tv_iload (pc := 226) 2 C dX5_play_226 rfl ?_
              refine tv_aload_n (pc := 228) 6 C dX5_play_228 rfl rfl ?_
              refine tv_getr (pc := 229) (q := 36) C rfl rfl fl_X5_12 dX5_play_229 ?_
              refine tv_aload_n (pc := 232) 7 C dX5_play_232 rfl rfl ?_
              refine tv_callV (pc := 233) [.ref (E.2.1 29)] [tm_i x, .ref (E.2.1 41)] C (c4_dull_a E _ (tm_up (tm_up (tm_up (tm_up (tm_up (tm_pd (tm_rn μ p 35 h) 36 ((h : Int) + 1) (sm_z p (h + 1)) (sm_w p (h + 1)) (sm_s p (h + 1))) 39 h (-1)) 40 h 0) 35 7 ((sm_i p h) + 0)) 37 h (sm_z p (h + 1))) 38 h a) 36 (Or.inl rfl) rfl (by rw [show (tm_up (tm_up (tm_up (tm_up (tm_up (tm_pd (tm_rn μ p 35 h) 36 ((h : Int) + 1) (sm_z p (h + 1)) (sm_w p (h + 1)) (sm_s p (h + 1))) 39 h (-1)) 40 h 0) 35 7 ((sm_i p h) + 0)) 37 h (sm_z p (h + 1))) 38 h a) 36 2 = sm_w p (h + 1) from (tm_uk (by decide)).trans ((tm_uk (by decide)).trans ((tm_uk (by decide)).trans ((tm_uk (by decide)).trans ((tm_uk (by decide)).trans (tm_pd_2)))))]; omega) (by rw [show (tm_up (tm_up (tm_up (tm_up (tm_up (tm_pd (tm_rn μ p 35 h) 36 ((h : Int) + 1) (sm_z p (h + 1)) (sm_w p (h + 1)) (sm_s p (h + 1))) 39 h (-1)) 40 h 0) 35 7 ((sm_i p h) + 0)) 37 h (sm_z p (h + 1))) 38 h a) 30 4 = p 0 4 from (tm_uk (by decide)).trans ((tm_uk (by decide)).trans ((tm_uk (by decide)).trans ((tm_uk (by decide)).trans ((tm_uk (by decide)).trans ((congrFun (tm_pd_f (by decide)) _).trans ((congrFun (tm_rn_o (by omega)) _).trans (by rw [hpe]; rfl)))))))]; omega)) cv_X5_78 rfl rfl (by decide) rfl (Nat.le_of_ble_eq_true rfl) rfl dX5_play_233 (tm_ki ?_)
              rintro z9 _ ⟨hz9, rfl⟩
              rw [show (tm_up (tm_up (tm_up (tm_up (tm_up (tm_pd (tm_rn μ p 35 h) 36 ((h : Int) + 1) (sm_z p (h + 1)) (sm_w p (h + 1)) (sm_s p (h + 1))) 39 h (-1)) 40 h 0) 35 7 ((sm_i p h) + 0)) 37 h (sm_z p (h + 1))) 38 h a) 36 2 = sm_w p (h + 1) from (tm_uk (by decide)).trans ((tm_uk (by decide)).trans ((tm_uk (by decide)).trans ((tm_uk (by decide)).trans ((tm_uk (by decide)).trans (tm_pd_2))))), show (tm_up (tm_up (tm_up (tm_up (tm_up (tm_pd (tm_rn μ p 35 h) 36 ((h : Int) + 1) (sm_z p (h + 1)) (sm_w p (h + 1)) (sm_s p (h + 1))) 39 h (-1)) 40 h 0) 35 7 ((sm_i p h) + 0)) 37 h (sm_z p (h + 1))) 38 h a) 30 4 = p 0 4 from (tm_uk (by decide)).trans ((tm_uk (by decide)).trans ((tm_uk (by decide)).trans ((tm_uk (by decide)).trans ((tm_uk (by decide)).trans ((congrFun (tm_pd_f (by decide)) _).trans ((congrFun (tm_rn_o (by omega)) _).trans (by rw [hpe]; rfl)))))))] at hz9
              subst hz9
              refine tv_iast (pc := 236) (j := h) C rfl dX5_play_236 (by omega) (by omega) ?_
              refine tv_iinc (pc := 237) 2 [(5, tm_i (x + 1)), (7, tm_i 0), (6, tm_i (p 4 (sm_q p h))), (4, tm_i a), (3, tm_i b), (2, tm_i c), (0, .ref (E.2.1 35)), (1, .ref (E.2.1 29))] C dX5_play_237 rfl (by decide) rfl ?_
              refine tv_goto (pc := 240) 31 C dX5_play_240 (by decide) ?_
              refine tv_sub (lv1 := [(5, tm_i (x + 1)), (4, tm_i a), (3, tm_i b), (2, tm_i c), (0, .ref (E.2.1 35)), (1, .ref (E.2.1 29))]) [0, 3, 4, 5, 6, 7] rfl ?_
              have hN : ¬ sm_N p h = true := fun q => by have q2 := (sm_N_iff p h).mp q; omega
              have e4 : a = sm_t p (h + 1) := by rw [sm_t_s]; omega
              have e3 : b = sm_o p (h + 1) := by rw [sm_o_s, if_neg hN]; omega
              have e2 : c = (sm_q p (h + 1) : Int) := by rw [sm_q_s, if_neg hN]; omega
              have v39 : -1 = sm_a p h := by unfold sm_a; first | (rw [if_pos (by omega)]; done) | (rw [if_neg (by omega), hff]; done)
              have v40 : 0 = sm_d p h := by unfold sm_d; first | (rw [if_pos (by omega)]; done) | (rw [if_neg (by omega), if_pos (by omega)]; done) | (rw [if_neg (by omega), if_neg (by omega)]; omega)
              have v35 : (sm_i p h) + 0 = sm_i p (h + 1) := by rw [sm_i_s]; first | (rw [if_pos (by omega)]; done) | (rw [if_neg (by omega), if_pos (by omega)]; done) | (rw [if_neg (by omega), if_neg (by omega)]; omega)
              refine tv_mem (tm_rn μ p 35 (h + 1)) (tm_rn_s (fun b => (tm_uk (by decide)).trans ((tm_uk (by decide)).trans ((tm_uk (by decide)).trans ((tm_ua b).trans (tm_obj_s (fun b => (tm_uk (by decide)).trans ((tm_uk (by decide)).trans ((congrFun (tm_pd_f (by decide)) b).trans (tm_rn_i0 b)))) v35 b))))) (fun b => (tm_uk (by decide)).trans ((tm_uk (by decide)).trans ((tm_uk (by decide)).trans ((tm_uk (by decide)).trans ((tm_uk (by decide)).trans ((tm_uk (by decide)).trans (tm_rn_pd b))))))) (fun b => (tm_uk (by decide)).trans ((tm_uk (by decide)).trans ((tm_ua b).trans (tm_row_s (fun b => (tm_uk (by decide)).trans ((tm_uk (by decide)).trans ((tm_uk (by decide)).trans ((congrFun (tm_pd_f (by decide)) b).trans (tm_rn_2 b))))) rfl b)))) (fun b => (tm_uk (by decide)).trans ((tm_ua b).trans (tm_row_s (fun b => (tm_uk (by decide)).trans ((tm_uk (by decide)).trans ((tm_uk (by decide)).trans ((tm_uk (by decide)).trans ((congrFun (tm_pd_f (by decide)) b).trans (tm_rn_3 b)))))) e4 b))) (fun b => (tm_uk (by decide)).trans ((tm_uk (by decide)).trans ((tm_uk (by decide)).trans ((tm_uk (by decide)).trans ((tm_uk (by decide)).trans ((tm_ua b).trans (tm_row_s (fun b => (congrFun (tm_pd_f (by decide)) b).trans (tm_rn_4 b)) v39 b))))))) (fun b => (tm_uk (by decide)).trans ((tm_uk (by decide)).trans ((tm_uk (by decide)).trans ((tm_uk (by decide)).trans ((tm_ua b).trans (tm_row_s (fun b => (tm_uk (by decide)).trans ((congrFun (tm_pd_f (by decide)) b).trans (tm_rn_5 b))) v40 b)))))) (fun b => (tm_ua b).trans (tm_row_s (fun b => (tm_uk (by decide)).trans ((tm_uk (by decide)).trans ((tm_uk (by decide)).trans ((tm_uk (by decide)).trans ((tm_uk (by decide)).trans ((congrFun (tm_pd_f (by decide)) b).trans (tm_rn_6 b))))))) rfl b)) (tm_end_n (fun b => (tm_uk (by decide)).trans ((tm_uk (by decide)).trans ((tm_uk (by decide)).trans ((tm_uk (by decide)).trans ((tm_uk (by decide)).trans ((tm_uk (by decide)).trans ((congrFun (tm_pd_f (by decide)) b).trans (tm_rn_7 b)))))))) hN) (fun a ha => by rw [tm_uf (show a ≠ 41 by omega), tm_uf (show a ≠ 38 by omega), tm_uf (show a ≠ 37 by omega), tm_uf (show a ≠ 35 by omega), tm_uf (show a ≠ 40 by omega), tm_uf (show a ≠ 39 by omega), tm_pd_f (by omega), tm_rn_o ha])) ?_
              exact ih (h + 1) _ _ _ _ (by omega) e4 e3 e2 (by omega) (by omega)
          · skip
            refine tv_iload (pc := 88) 0 C dX5_play_88 rfl ?_
            refine tv_if_eq (pc := 90) 99 C dX5_play_90 (by decide) (by omega) (fun q => absurd q (by decide)) (fun _ => ?_)
            refine tv_iinc (pc := 93) 3 [(4, tm_i (a + 1)), (7, tm_i 1), (6, tm_i (p 4 (sm_q p h))), (5, tm_i x), (3, tm_i b), (2, tm_i c), (0, .ref (E.2.1 35)), (1, .ref (E.2.1 29))] C dX5_play_93 rfl (by decide) rfl ?_
            refine tv_iinc (pc := 96) 4 [(3, tm_i (b + 1)), (4, tm_i (a + 1)), (7, tm_i 1), (6, tm_i (p 4 (sm_q p h))), (5, tm_i x), (2, tm_i c), (0, .ref (E.2.1 35)), (1, .ref (E.2.1 29))] C dX5_play_96 rfl (by decide) rfl ?_
            refine tv_iload (pc := 99) 2 C dX5_play_99 rfl ?_
            refine tv_if_eq (pc := 101) 132 C dX5_play_101 (by decide) (by omega) (fun q => absurd q (by decide)) (fun _ => ?_)
            refine tv_iload_n (pc := 104) 0 C dX5_play_104 rfl rfl ?_
            refine tv_aload_n (pc := 105) 7 C dX5_play_105 rfl rfl ?_
            refine tv_getr (pc := 106) (q := 23) C rfl rfl fl_X5_59 dX5_play_106 ?_
            refine tv_getr (pc := 109) (q := 25) C rfl rfl fl_X5_72 dX5_play_109 ?_
            refine tv_iload (pc := 112) 3 C dX5_play_112 rfl ?_
            refine tv_iald (pc := 114) (j := (p 4 (sm_q p h)).toNat) (z := p 7 ((p 4 (sm_q p h)).toNat)) C rfl dX5_play_114 (by omega) rfl ((congrFun (tm_pd_f (by decide)) _).trans ((congrFun (tm_rn_o (by omega)) _).trans (by rw [hpe]; rfl))) ?_
            refine tv_icmp_ne (pc := 115) 132 C dX5_play_115 (by decide) (by omega) (by omega) (fun h115 => ?_) (fun h115 => ?_)
            · skip
              refine tv_aload_n (pc := 132) 6 C dX5_play_132 rfl rfl ?_
              refine tv_getr (pc := 133) (q := 39) C rfl rfl fl_X5_25 dX5_play_133 ?_
              refine tv_iload (pc := 136) 4 C dX5_play_136 rfl ?_
              refine tv_aload_n (pc := 138) 7 C dX5_play_138 rfl rfl ?_
              refine tv_getr (pc := 139) (q := 33) C rfl rfl fl_X5_73 dX5_play_139 ?_
              refine tv_iload (pc := 142) 4 C dX5_play_142 rfl ?_
              refine tv_iald (pc := 144) (j := h) (z := p 3 h) C rfl dX5_play_144 (by omega) (by omega) ((congrFun (tm_pd_f (by decide)) _).trans ((congrFun (tm_rn_o (by omega)) _).trans (by rw [hpe]; rfl))) ?_
              refine tv_if_le (pc := 145) 152 C dX5_play_145 (by decide) (by omega) (fun h145 => ?_) (fun h145 => ?_)
              · skip
                refine tv_iload (pc := 152) 3 C dX5_play_152 rfl ?_
                refine tv_iast (pc := 154) (j := h) C rfl dX5_play_154 (by omega) (by omega) ?_
                refine tv_aload_n (pc := 155) 6 C dX5_play_155 rfl rfl ?_
                refine tv_getr (pc := 156) (q := 40) C rfl rfl fl_X5_28 dX5_play_156 ?_
                refine tv_iload (pc := 159) 4 C dX5_play_159 rfl ?_
                refine tv_aload_n (pc := 161) 6 C dX5_play_161 rfl rfl ?_
                refine tv_getr (pc := 162) (q := 39) C rfl rfl fl_X5_25 dX5_play_162 ?_
                refine tv_iload (pc := 165) 4 C dX5_play_165 rfl ?_
                refine tv_iald (pc := 167) (j := h) (z := p 4 (sm_q p h)) C rfl dX5_play_167 (by omega) (by omega) tm_us ?_
                refine tv_iconst (pc := 168) C dX5_play_168 ?_
                refine tv_icmp_eq (pc := 169) 181 C dX5_play_169 (by decide) (by omega) (by omega) (fun h169 => ?_) (fun h169 => ?_)
                · skip
                  exfalso; omega
                · skip
                  refine tv_iload (pc := 172) 2 C dX5_play_172 rfl ?_
                  refine tv_if_ne (pc := 174) 181 C dX5_play_174 (by decide) (by omega) (fun _ => ?_) (fun q => absurd q (by decide))
                  refine tv_iconst (pc := 181) C dX5_play_181 ?_
                  refine tv_iast (pc := 182) (j := h) C rfl dX5_play_182 (by omega) (by omega) ?_
                  refine tv_aload_n (pc := 183) 6 C dX5_play_183 rfl rfl ?_
                  refine tv_dup (pc := 184) C dX5_play_184 rfl ?_
                  refine tv_geti (pc := 185) (z := sm_i p h) C rfl rfl fl_X5_43 dX5_play_185 ((tm_uk (by decide)).trans ((tm_uk (by decide)).trans ((congrFun (tm_pd_f (by decide)) _).trans tm_rn_i))) ?_
                  refine tv_aload_n (pc := 188) 6 C dX5_play_188 rfl rfl ?_
                  refine tv_getr (pc := 189) (q := 40) C rfl rfl fl_X5_28 dX5_play_189 ?_
                  refine tv_iload (pc := 192) 4 C dX5_play_192 rfl ?_
                  refine tv_iald (pc := 194) (j := h) (z := 0) C rfl dX5_play_194 (by omega) (by omega) tm_us ?_
                  refine tv_iadd (pc := 195) C dX5_play_195 ?_
                  refine tv_puti (pc := 196) C rfl rfl fp_X5_43 dX5_play_196 ?_
                  refine tv_aload_n (pc := 199) 6 C dX5_play_199 rfl rfl ?_
                  refine tv_getr (pc := 200) (q := 37) C rfl rfl fl_X5_18 dX5_play_200 ?_
                  refine tv_iload (pc := 203) 4 C dX5_play_203 rfl ?_
                  refine tv_aload_n (pc := 205) 6 C dX5_play_205 rfl rfl ?_
                  refine tv_getr (pc := 206) (q := 36) C rfl rfl fl_X5_12 dX5_play_206 ?_
                  refine tv_geti (pc := 209) (z := sm_z p (h + 1)) C rfl rfl fl_X5_76 dX5_play_209 ((tm_uk (by decide)).trans ((tm_uk (by decide)).trans ((tm_uk (by decide)).trans (tm_pd_1)))) ?_
                  refine tv_iast (pc := 212) (j := h) C rfl dX5_play_212 (by omega) (by omega) ?_
                  refine tv_aload_n (pc := 213) 6 C dX5_play_213 rfl rfl ?_
                  refine tv_getr (pc := 214) (q := 38) C rfl rfl fl_X5_22 dX5_play_214 ?_
                  refine tv_iload (pc := 217) 4 C dX5_play_217 rfl ?_
                  refine tv_iload (pc := 219) 1 C dX5_play_219 rfl ?_
                  refine tv_iast (pc := 221) (j := h) C rfl dX5_play_221 (by omega) (by omega) ?_
                  refine tv_aload_n (pc := 222) 6 C dX5_play_222 rfl rfl ?_
                  refine tv_getr (pc := 223) (q := 41) C rfl rfl fl_X5_31 dX5_play_223 ?_
                  refine tv_iload (pc := 226) 4 C dX5_play_226 rfl ?_
                  refine tv_aload_n (pc := 228) 6 C dX5_play_228 rfl rfl ?_
                  refine tv_getr (pc := 229) (q := 36) C rfl rfl fl_X5_12 dX5_play_229 ?_
                  refine tv_aload_n (pc := 232) 7 C dX5_play_232 rfl rfl ?_
                  refine tv_callV (pc := 233) [.ref (E.2.1 29)] [tm_i x, .ref (E.2.1 41)] C (c4_dull_a E _ (tm_up (tm_up (tm_up (tm_up (tm_up (tm_pd (tm_rn μ p 35 h) 36 ((h : Int) + 1) (sm_z p (h + 1)) (sm_w p (h + 1)) (sm_s p (h + 1))) 39 h (p 4 (sm_q p h))) 40 h 0) 35 7 ((sm_i p h) + 0)) 37 h (sm_z p (h + 1))) 38 h (a + 1)) 36 (Or.inl rfl) rfl (by rw [show (tm_up (tm_up (tm_up (tm_up (tm_up (tm_pd (tm_rn μ p 35 h) 36 ((h : Int) + 1) (sm_z p (h + 1)) (sm_w p (h + 1)) (sm_s p (h + 1))) 39 h (p 4 (sm_q p h))) 40 h 0) 35 7 ((sm_i p h) + 0)) 37 h (sm_z p (h + 1))) 38 h (a + 1)) 36 2 = sm_w p (h + 1) from (tm_uk (by decide)).trans ((tm_uk (by decide)).trans ((tm_uk (by decide)).trans ((tm_uk (by decide)).trans ((tm_uk (by decide)).trans (tm_pd_2)))))]; omega) (by rw [show (tm_up (tm_up (tm_up (tm_up (tm_up (tm_pd (tm_rn μ p 35 h) 36 ((h : Int) + 1) (sm_z p (h + 1)) (sm_w p (h + 1)) (sm_s p (h + 1))) 39 h (p 4 (sm_q p h))) 40 h 0) 35 7 ((sm_i p h) + 0)) 37 h (sm_z p (h + 1))) 38 h (a + 1)) 30 4 = p 0 4 from (tm_uk (by decide)).trans ((tm_uk (by decide)).trans ((tm_uk (by decide)).trans ((tm_uk (by decide)).trans ((tm_uk (by decide)).trans ((congrFun (tm_pd_f (by decide)) _).trans ((congrFun (tm_rn_o (by omega)) _).trans (by rw [hpe]; rfl)))))))]; omega)) cv_X5_78 rfl rfl (by decide) rfl (Nat.le_of_ble_eq_true rfl) rfl dX5_play_233 (tm_ki ?_)
                  rintro z9 _ ⟨hz9, rfl⟩
                  rw [show (tm_up (tm_up (tm_up (tm_up (tm_up (tm_pd (tm_rn μ p 35 h) 36 ((h : Int) + 1) (sm_z p (h + 1)) (sm_w p (h + 1)) (sm_s p (h + 1))) 39 h (p 4 (sm_q p h))) 40 h 0) 35 7 ((sm_i p h) + 0)) 37 h (sm_z p (h + 1))) 38 h (a + 1)) 36 2 = sm_w p (h + 1) from (tm_uk (by decide)).trans ((tm_uk (by decide)).trans ((tm_uk (by decide)).trans ((tm_uk (by decide)).trans ((tm_uk (by decide)).trans (tm_pd_2))))), show (tm_up (tm_up (tm_up (tm_up (tm_up (tm_pd (tm_rn μ p 35 h) 36 ((h : Int) + 1) (sm_z p (h + 1)) (sm_w p (h + 1)) (sm_s p (h + 1))) 39 h (p 4 (sm_q p h))) 40 h 0) 35 7 ((sm_i p h) + 0)) 37 h (sm_z p (h + 1))) 38 h (a + 1)) 30 4 = p 0 4 from (tm_uk (by decide)).trans ((tm_uk (by decide)).trans ((tm_uk (by decide)).trans ((tm_uk (by decide)).trans ((tm_uk (by decide)).trans ((congrFun (tm_pd_f (by decide)) _).trans ((congrFun (tm_rn_o (by omega)) _).trans (by rw [hpe]; rfl)))))))] at hz9
                  subst hz9
                  refine tv_iast (pc := 236) (j := h) C rfl dX5_play_236 (by omega) (by omega) ?_
                  refine tv_iinc (pc := 237) 4 [(5, tm_i (x + 1)), (3, tm_i (b + 1)), (4, tm_i (a + 1)), (7, tm_i 1), (6, tm_i (p 4 (sm_q p h))), (2, tm_i c), (0, .ref (E.2.1 35)), (1, .ref (E.2.1 29))] C dX5_play_237 rfl (by decide) rfl ?_
                  refine tv_goto (pc := 240) 31 C dX5_play_240 (by decide) ?_
                  refine tv_sub (lv1 := [(5, tm_i (x + 1)), (4, tm_i (a + 1)), (3, tm_i (b + 1)), (2, tm_i c), (0, .ref (E.2.1 35)), (1, .ref (E.2.1 29))]) [0, 2, 1, 5, 6, 7] rfl ?_
                  have hN : ¬ sm_N p h = true := fun q => by have q2 := (sm_N_iff p h).mp q; rw [hff] at q2; omega
                  have e4 : a + 1 = sm_t p (h + 1) := by rw [sm_t_s]; omega
                  have e3 : b + 1 = sm_o p (h + 1) := by rw [sm_o_s, if_neg hN]; omega
                  have e2 : c = (sm_q p (h + 1) : Int) := by rw [sm_q_s, if_neg hN]; omega
                  have v39 : p 4 (sm_q p h) = sm_a p h := by unfold sm_a; first | (rw [if_pos (by omega)]; done) | (rw [if_neg (by omega), hff]; done)
                  have v40 : 0 = sm_d p h := by unfold sm_d; first | (rw [if_pos (by omega)]; done) | (rw [if_neg (by omega), if_pos (by omega)]; done) | (rw [if_neg (by omega), if_neg (by omega)]; omega)
                  have v35 : (sm_i p h) + 0 = sm_i p (h + 1) := by rw [sm_i_s]; first | (rw [if_pos (by omega)]; done) | (rw [if_neg (by omega), if_pos (by omega)]; done) | (rw [if_neg (by omega), if_neg (by omega)]; omega)
                  refine tv_mem (tm_rn μ p 35 (h + 1)) (tm_rn_s (fun b => (tm_uk (by decide)).trans ((tm_uk (by decide)).trans ((tm_uk (by decide)).trans ((tm_ua b).trans (tm_obj_s (fun b => (tm_uk (by decide)).trans ((tm_uk (by decide)).trans ((congrFun (tm_pd_f (by decide)) b).trans (tm_rn_i0 b)))) v35 b))))) (fun b => (tm_uk (by decide)).trans ((tm_uk (by decide)).trans ((tm_uk (by decide)).trans ((tm_uk (by decide)).trans ((tm_uk (by decide)).trans ((tm_uk (by decide)).trans (tm_rn_pd b))))))) (fun b => (tm_uk (by decide)).trans ((tm_uk (by decide)).trans ((tm_ua b).trans (tm_row_s (fun b => (tm_uk (by decide)).trans ((tm_uk (by decide)).trans ((tm_uk (by decide)).trans ((congrFun (tm_pd_f (by decide)) b).trans (tm_rn_2 b))))) rfl b)))) (fun b => (tm_uk (by decide)).trans ((tm_ua b).trans (tm_row_s (fun b => (tm_uk (by decide)).trans ((tm_uk (by decide)).trans ((tm_uk (by decide)).trans ((tm_uk (by decide)).trans ((congrFun (tm_pd_f (by decide)) b).trans (tm_rn_3 b)))))) e4 b))) (fun b => (tm_uk (by decide)).trans ((tm_uk (by decide)).trans ((tm_uk (by decide)).trans ((tm_uk (by decide)).trans ((tm_uk (by decide)).trans ((tm_ua b).trans (tm_row_s (fun b => (congrFun (tm_pd_f (by decide)) b).trans (tm_rn_4 b)) v39 b))))))) (fun b => (tm_uk (by decide)).trans ((tm_uk (by decide)).trans ((tm_uk (by decide)).trans ((tm_uk (by decide)).trans ((tm_ua b).trans (tm_row_s (fun b => (tm_uk (by decide)).trans ((congrFun (tm_pd_f (by decide)) b).trans (tm_rn_5 b))) v40 b)))))) (fun b => (tm_ua b).trans (tm_row_s (fun b => (tm_uk (by decide)).trans ((tm_uk (by decide)).trans ((tm_uk (by decide)).trans ((tm_uk (by decide)).trans ((tm_uk (by decide)).trans ((congrFun (tm_pd_f (by decide)) b).trans (tm_rn_6 b))))))) rfl b)) (tm_end_n (fun b => (tm_uk (by decide)).trans ((tm_uk (by decide)).trans ((tm_uk (by decide)).trans ((tm_uk (by decide)).trans ((tm_uk (by decide)).trans ((tm_uk (by decide)).trans ((congrFun (tm_pd_f (by decide)) b).trans (tm_rn_7 b)))))))) hN) (fun a ha => by rw [tm_uf (show a ≠ 41 by omega), tm_uf (show a ≠ 38 by omega), tm_uf (show a ≠ 37 by omega), tm_uf (show a ≠ 35 by omega), tm_uf (show a ≠ 40 by omega), tm_uf (show a ≠ 39 by omega), tm_pd_f (by omega), tm_rn_o ha])) ?_
                  exact ih (h + 1) _ _ _ _ (by omega) e4 e3 e2 (by omega) (by omega)
              · skip
                exfalso
                have q2 := (sm_G_1 hp hz.symm).1
                omega
            · skip
              refine tv_aload_n (pc := 118) 6 C dX5_play_118 rfl rfl ?_
              refine tv_getr (pc := 119) (q := 42) C rfl rfl fl_X5_34 dX5_play_119 ?_
              refine tv_iload (pc := 122) 3 C dX5_play_122 rfl ?_
              refine tv_iload (pc := 124) 4 C dX5_play_124 rfl ?_
              refine tv_iast (pc := 126) (j := (p 4 (sm_q p h)).toNat) C rfl dX5_play_126 (by omega) rfl ?_
              refine tv_iinc (pc := 127) 5 [(2, tm_i (c + 1)), (3, tm_i (b + 1)), (4, tm_i (a + 1)), (7, tm_i 1), (6, tm_i (p 4 (sm_q p h))), (5, tm_i x), (0, .ref (E.2.1 35)), (1, .ref (E.2.1 29))] C dX5_play_127 rfl (by decide) rfl ?_
              refine tv_iconst (pc := 130) C dX5_play_130 ?_
              refine tv_istore_n (pc := 131) [(3, tm_i 0), (2, tm_i (c + 1)), (4, tm_i (a + 1)), (7, tm_i 1), (6, tm_i (p 4 (sm_q p h))), (5, tm_i x), (0, .ref (E.2.1 35)), (1, .ref (E.2.1 29))] C dX5_play_131 rfl (by decide) rfl ?_
              refine tv_aload_n (pc := 132) 6 C dX5_play_132 rfl rfl ?_
              refine tv_getr (pc := 133) (q := 39) C rfl rfl fl_X5_25 dX5_play_133 ?_
              refine tv_iload (pc := 136) 5 C dX5_play_136 rfl ?_
              refine tv_aload_n (pc := 138) 7 C dX5_play_138 rfl rfl ?_
              refine tv_getr (pc := 139) (q := 33) C rfl rfl fl_X5_73 dX5_play_139 ?_
              refine tv_iload (pc := 142) 5 C dX5_play_142 rfl ?_
              refine tv_iald (pc := 144) (j := h) (z := p 3 h) C rfl dX5_play_144 (by omega) (by omega) ((tm_uk (by decide)).trans ((congrFun (tm_pd_f (by decide)) _).trans ((congrFun (tm_rn_o (by omega)) _).trans (by rw [hpe]; rfl)))) ?_
              refine tv_if_le (pc := 145) 152 C dX5_play_145 (by decide) (by omega) (fun h145 => ?_) (fun h145 => ?_)
              · skip
                refine tv_iload (pc := 152) 4 C dX5_play_152 rfl ?_
                refine tv_iast (pc := 154) (j := h) C rfl dX5_play_154 (by omega) (by omega) ?_
                refine tv_aload_n (pc := 155) 6 C dX5_play_155 rfl rfl ?_
                refine tv_getr (pc := 156) (q := 40) C rfl rfl fl_X5_28 dX5_play_156 ?_
                refine tv_iload (pc := 159) 5 C dX5_play_159 rfl ?_
                refine tv_aload_n (pc := 161) 6 C dX5_play_161 rfl rfl ?_
                refine tv_getr (pc := 162) (q := 39) C rfl rfl fl_X5_25 dX5_play_162 ?_
                refine tv_iload (pc := 165) 5 C dX5_play_165 rfl ?_
                refine tv_iald (pc := 167) (j := h) (z := p 4 (sm_q p h)) C rfl dX5_play_167 (by omega) (by omega) tm_us ?_
                refine tv_iconst (pc := 168) C dX5_play_168 ?_
                refine tv_icmp_eq (pc := 169) 181 C dX5_play_169 (by decide) (by omega) (by omega) (fun h169 => ?_) (fun h169 => ?_)
                · skip
                  exfalso; omega
                · skip
                  refine tv_iload (pc := 172) 3 C dX5_play_172 rfl ?_
                  refine tv_if_ne (pc := 174) 181 C dX5_play_174 (by decide) (by omega) (fun _ => ?_) (fun q => absurd q (by decide))
                  refine tv_iconst (pc := 181) C dX5_play_181 ?_
                  refine tv_iast (pc := 182) (j := h) C rfl dX5_play_182 (by omega) (by omega) ?_
                  refine tv_aload_n (pc := 183) 6 C dX5_play_183 rfl rfl ?_
                  refine tv_dup (pc := 184) C dX5_play_184 rfl ?_
                  refine tv_geti (pc := 185) (z := sm_i p h) C rfl rfl fl_X5_43 dX5_play_185 ((tm_uk (by decide)).trans ((tm_uk (by decide)).trans ((tm_uk (by decide)).trans ((congrFun (tm_pd_f (by decide)) _).trans tm_rn_i)))) ?_
                  refine tv_aload_n (pc := 188) 6 C dX5_play_188 rfl rfl ?_
                  refine tv_getr (pc := 189) (q := 40) C rfl rfl fl_X5_28 dX5_play_189 ?_
                  refine tv_iload (pc := 192) 5 C dX5_play_192 rfl ?_
                  refine tv_iald (pc := 194) (j := h) (z := 0) C rfl dX5_play_194 (by omega) (by omega) tm_us ?_
                  refine tv_iadd (pc := 195) C dX5_play_195 ?_
                  refine tv_puti (pc := 196) C rfl rfl fp_X5_43 dX5_play_196 ?_
                  refine tv_aload_n (pc := 199) 6 C dX5_play_199 rfl rfl ?_
                  refine tv_getr (pc := 200) (q := 37) C rfl rfl fl_X5_18 dX5_play_200 ?_
                  refine tv_iload (pc := 203) 5 C dX5_play_203 rfl ?_
                  refine tv_aload_n (pc := 205) 6 C dX5_play_205 rfl rfl ?_
                  refine tv_getr (pc := 206) (q := 36) C rfl rfl fl_X5_12 dX5_play_206 ?_
                  refine tv_geti (pc := 209) (z := sm_z p (h + 1)) C rfl rfl fl_X5_76 dX5_play_209 ((tm_uk (by decide)).trans ((tm_uk (by decide)).trans ((tm_uk (by decide)).trans ((tm_uk (by decide)).trans (tm_pd_1))))) ?_
                  refine tv_iast (pc := 212) (j := h) C rfl dX5_play_212 (by omega) (by omega) ?_
                  refine tv_aload_n (pc := 213) 6 C dX5_play_213 rfl rfl ?_
                  refine tv_getr (pc := 214) (q := 38) C rfl rfl fl_X5_22 dX5_play_214 ?_
                  refine tv_iload (pc := 217) 5 C dX5_play_217 rfl ?_
                  refine tv_iload (pc := 219) 2 C dX5_play_219 rfl ?_
                  refine tv_iast (pc := 221) (j := h) C rfl dX5_play_221 (by omega) (by omega) ?_
                  refine tv_aload_n (pc := 222) 6 C dX5_play_222 rfl rfl ?_
                  refine tv_getr (pc := 223) (q := 41) C rfl rfl fl_X5_31 dX5_play_223 ?_
                  refine tv_iload (pc := 226) 5 C dX5_play_226 rfl ?_
                  refine tv_aload_n (pc := 228) 6 C dX5_play_228 rfl rfl ?_
                  refine tv_getr (pc := 229) (q := 36) C rfl rfl fl_X5_12 dX5_play_229 ?_
                  refine tv_aload_n (pc := 232) 7 C dX5_play_232 rfl rfl ?_
                  refine tv_callV (pc := 233) [.ref (E.2.1 29)] [tm_i x, .ref (E.2.1 41)] C (c4_dull_a E _ (tm_up (tm_up (tm_up (tm_up (tm_up (tm_up (tm_pd (tm_rn μ p 35 h) 36 ((h : Int) + 1) (sm_z p (h + 1)) (sm_w p (h + 1)) (sm_s p (h + 1))) 42 ((p 4 (sm_q p h)).toNat) x) 39 h (p 4 (sm_q p h))) 40 h 0) 35 7 ((sm_i p h) + 0)) 37 h (sm_z p (h + 1))) 38 h (a + 1)) 36 (Or.inl rfl) rfl (by rw [show (tm_up (tm_up (tm_up (tm_up (tm_up (tm_up (tm_pd (tm_rn μ p 35 h) 36 ((h : Int) + 1) (sm_z p (h + 1)) (sm_w p (h + 1)) (sm_s p (h + 1))) 42 ((p 4 (sm_q p h)).toNat) x) 39 h (p 4 (sm_q p h))) 40 h 0) 35 7 ((sm_i p h) + 0)) 37 h (sm_z p (h + 1))) 38 h (a + 1)) 36 2 = sm_w p (h + 1) from (tm_uk (by decide)).trans ((tm_uk (by decide)).trans ((tm_uk (by decide)).trans ((tm_uk (by decide)).trans ((tm_uk (by decide)).trans ((tm_uk (by decide)).trans (tm_pd_2))))))]; omega) (by rw [show (tm_up (tm_up (tm_up (tm_up (tm_up (tm_up (tm_pd (tm_rn μ p 35 h) 36 ((h : Int) + 1) (sm_z p (h + 1)) (sm_w p (h + 1)) (sm_s p (h + 1))) 42 ((p 4 (sm_q p h)).toNat) x) 39 h (p 4 (sm_q p h))) 40 h 0) 35 7 ((sm_i p h) + 0)) 37 h (sm_z p (h + 1))) 38 h (a + 1)) 30 4 = p 0 4 from (tm_uk (by decide)).trans ((tm_uk (by decide)).trans ((tm_uk (by decide)).trans ((tm_uk (by decide)).trans ((tm_uk (by decide)).trans ((tm_uk (by decide)).trans ((congrFun (tm_pd_f (by decide)) _).trans ((congrFun (tm_rn_o (by omega)) _).trans (by rw [hpe]; rfl))))))))]; omega)) cv_X5_78 rfl rfl (by decide) rfl (Nat.le_of_ble_eq_true rfl) rfl dX5_play_233 (tm_ki ?_)
                  rintro z9 _ ⟨hz9, rfl⟩
                  rw [show (tm_up (tm_up (tm_up (tm_up (tm_up (tm_up (tm_pd (tm_rn μ p 35 h) 36 ((h : Int) + 1) (sm_z p (h + 1)) (sm_w p (h + 1)) (sm_s p (h + 1))) 42 ((p 4 (sm_q p h)).toNat) x) 39 h (p 4 (sm_q p h))) 40 h 0) 35 7 ((sm_i p h) + 0)) 37 h (sm_z p (h + 1))) 38 h (a + 1)) 36 2 = sm_w p (h + 1) from (tm_uk (by decide)).trans ((tm_uk (by decide)).trans ((tm_uk (by decide)).trans ((tm_uk (by decide)).trans ((tm_uk (by decide)).trans ((tm_uk (by decide)).trans (tm_pd_2)))))), show (tm_up (tm_up (tm_up (tm_up (tm_up (tm_up (tm_pd (tm_rn μ p 35 h) 36 ((h : Int) + 1) (sm_z p (h + 1)) (sm_w p (h + 1)) (sm_s p (h + 1))) 42 ((p 4 (sm_q p h)).toNat) x) 39 h (p 4 (sm_q p h))) 40 h 0) 35 7 ((sm_i p h) + 0)) 37 h (sm_z p (h + 1))) 38 h (a + 1)) 30 4 = p 0 4 from (tm_uk (by decide)).trans ((tm_uk (by decide)).trans ((tm_uk (by decide)).trans ((tm_uk (by decide)).trans ((tm_uk (by decide)).trans ((tm_uk (by decide)).trans ((congrFun (tm_pd_f (by decide)) _).trans ((congrFun (tm_rn_o (by omega)) _).trans (by rw [hpe]; rfl))))))))] at hz9
                  subst hz9
                  refine tv_iast (pc := 236) (j := h) C rfl dX5_play_236 (by omega) (by omega) ?_
                  refine tv_iinc (pc := 237) 5 [(5, tm_i (x + 1)), (3, tm_i 0), (2, tm_i (c + 1)), (4, tm_i (a + 1)), (7, tm_i 1), (6, tm_i (p 4 (sm_q p h))), (0, .ref (E.2.1 35)), (1, .ref (E.2.1 29))] C dX5_play_237 rfl (by decide) rfl ?_
                  refine tv_goto (pc := 240) 31 C dX5_play_240 (by decide) ?_
                  refine tv_sub (lv1 := [(5, tm_i (x + 1)), (4, tm_i (a + 1)), (3, tm_i 0), (2, tm_i (c + 1)), (0, .ref (E.2.1 35)), (1, .ref (E.2.1 29))]) [0, 3, 1, 2, 6, 7] rfl ?_
                  have hN : sm_N p h = true := (sm_N_iff p h).mpr ⟨hz.symm, by rw [hff]; omega⟩
                  have e4 : a + 1 = sm_t p (h + 1) := by rw [sm_t_s]; omega
                  have e3 : 0 = sm_o p (h + 1) := by rw [sm_o_s, if_pos hN]
                  have e2 : c + 1 = (sm_q p (h + 1) : Int) := by rw [sm_q_s, if_pos hN]; omega
                  have v39 : p 4 (sm_q p h) = sm_a p h := by unfold sm_a; first | (rw [if_pos (by omega)]; done) | (rw [if_neg (by omega), hff]; done)
                  have v40 : 0 = sm_d p h := by unfold sm_d; first | (rw [if_pos (by omega)]; done) | (rw [if_neg (by omega), if_pos (by omega)]; done) | (rw [if_neg (by omega), if_neg (by omega)]; omega)
                  have v35 : (sm_i p h) + 0 = sm_i p (h + 1) := by rw [sm_i_s]; first | (rw [if_pos (by omega)]; done) | (rw [if_neg (by omega), if_pos (by omega)]; done) | (rw [if_neg (by omega), if_neg (by omega)]; omega)
                  refine tv_mem (tm_rn μ p 35 (h + 1)) (tm_rn_s (fun b => (tm_uk (by decide)).trans ((tm_uk (by decide)).trans ((tm_uk (by decide)).trans ((tm_ua b).trans (tm_obj_s (fun b => (tm_uk (by decide)).trans ((tm_uk (by decide)).trans ((tm_uk (by decide)).trans ((congrFun (tm_pd_f (by decide)) b).trans (tm_rn_i0 b))))) v35 b))))) (fun b => (tm_uk (by decide)).trans ((tm_uk (by decide)).trans ((tm_uk (by decide)).trans ((tm_uk (by decide)).trans ((tm_uk (by decide)).trans ((tm_uk (by decide)).trans ((tm_uk (by decide)).trans (tm_rn_pd b)))))))) (fun b => (tm_uk (by decide)).trans ((tm_uk (by decide)).trans ((tm_ua b).trans (tm_row_s (fun b => (tm_uk (by decide)).trans ((tm_uk (by decide)).trans ((tm_uk (by decide)).trans ((tm_uk (by decide)).trans ((congrFun (tm_pd_f (by decide)) b).trans (tm_rn_2 b)))))) rfl b)))) (fun b => (tm_uk (by decide)).trans ((tm_ua b).trans (tm_row_s (fun b => (tm_uk (by decide)).trans ((tm_uk (by decide)).trans ((tm_uk (by decide)).trans ((tm_uk (by decide)).trans ((tm_uk (by decide)).trans ((congrFun (tm_pd_f (by decide)) b).trans (tm_rn_3 b))))))) e4 b))) (fun b => (tm_uk (by decide)).trans ((tm_uk (by decide)).trans ((tm_uk (by decide)).trans ((tm_uk (by decide)).trans ((tm_uk (by decide)).trans ((tm_ua b).trans (tm_row_s (fun b => (tm_uk (by decide)).trans ((congrFun (tm_pd_f (by decide)) b).trans (tm_rn_4 b))) v39 b))))))) (fun b => (tm_uk (by decide)).trans ((tm_uk (by decide)).trans ((tm_uk (by decide)).trans ((tm_uk (by decide)).trans ((tm_ua b).trans (tm_row_s (fun b => (tm_uk (by decide)).trans ((tm_uk (by decide)).trans ((congrFun (tm_pd_f (by decide)) b).trans (tm_rn_5 b)))) v40 b)))))) (fun b => (tm_ua b).trans (tm_row_s (fun b => (tm_uk (by decide)).trans ((tm_uk (by decide)).trans ((tm_uk (by decide)).trans ((tm_uk (by decide)).trans ((tm_uk (by decide)).trans ((tm_uk (by decide)).trans ((congrFun (tm_pd_f (by decide)) b).trans (tm_rn_6 b)))))))) rfl b)) (fun b => (tm_uk (by decide)).trans ((tm_uk (by decide)).trans ((tm_uk (by decide)).trans ((tm_uk (by decide)).trans ((tm_uk (by decide)).trans ((tm_uk (by decide)).trans ((tm_ua b).trans (tm_end_s (fun b => (congrFun (tm_pd_f (by decide)) b).trans (tm_rn_7 b)) hN hx (by rw [hff]) (by omega) b)))))))) (fun a ha => by rw [tm_uf (show a ≠ 41 by omega), tm_uf (show a ≠ 38 by omega), tm_uf (show a ≠ 37 by omega), tm_uf (show a ≠ 35 by omega), tm_uf (show a ≠ 40 by omega), tm_uf (show a ≠ 39 by omega), tm_uf (show a ≠ 42 by omega), tm_pd_f (by omega), tm_rn_o ha])) ?_
                  exact ih (h + 1) _ _ _ _ (by omega) e4 e3 e2 (by omega) (by omega)
              · skip
                exfalso
                have q2 := (sm_G_1 hp hz.symm).1
                omega
        · skip
          exfalso; omega
/-- a run of 40 hours -/
theorem c5_play_a (E : tm_Ev) (l : Launch) (μ : tm_M) (hp : sm_ok (sm_p μ 29)) : tm_Met E l yX5_play cX5_play 8 none 3 [.ref (E.2.1 35), .ref (E.2.1 29)] μ (tm_pv (fun μ' => μ' = tm_rn μ (sm_p μ 29) 35 40)) := by
  refine tm_intro [(0, .ref (E.2.1 35)), (1, .ref (E.2.1 29))] rfl (by decide +kernel) (Nat.le_of_ble_eq_true rfl) ?_
  intro X hX C
  subst hX
  refine tv_aload_n (pc := 0) 0 C dX5_play_0 rfl rfl ?_
  refine tv_getr (pc := 1) (q := 42) C rfl rfl fl_X5_34 dX5_play_1 ?_
  refine tv_iconst (pc := 4) C dX5_play_4 ?_
  refine tv_callS (pc := 5) [.ref (E.2.1 42), tm_i (-1)] [] C (cJ_fill E _ μ 42 8 (-1) rfl) cs_X5_37 (by decide) rfl (Nat.le_of_ble_eq_true rfl) rfl dX5_play_5 (tm_kv ?_)
  rintro _ rfl
  refine tv_aload_n (pc := 8) 0 C dX5_play_8 rfl rfl ?_
  refine tv_iconst (pc := 9) C dX5_play_9 ?_
  refine tv_puti (pc := 10) C rfl rfl fp_X5_43 dX5_play_10 ?_
  refine tv_aload_n (pc := 13) 0 C dX5_play_13 rfl rfl ?_
  refine tv_getr (pc := 14) (q := 36) C rfl rfl fl_X5_12 dX5_play_14 ?_
  refine tv_aload_n (pc := 17) 1 C dX5_play_17 rfl rfl ?_
  refine tv_callV (pc := 18) [.ref (E.2.1 29)] [] C (c4_begin_a E _ (tm_up (tm_fill μ 42 8 (-1)) 35 7 0) 36 (Or.inl rfl) rfl) cv_X5_47 rfl rfl (by decide) rfl (Nat.le_of_ble_eq_true rfl) rfl dX5_play_18 (tm_kv ?_)
  rintro _ rfl
  rw [show (tm_up (tm_fill μ 42 8 (-1)) 35 7 0) 30 0 = sm_p μ 29 0 0 from (tm_uk (by decide)).trans (tm_fill_k (by decide))]
  refine tv_iconst (pc := 21) C dX5_play_21 ?_
  refine tv_istore_n (pc := 22) [(2, tm_i 0), (0, .ref (E.2.1 35)), (1, .ref (E.2.1 29))] C dX5_play_22 rfl (by decide) rfl ?_
  refine tv_iconst (pc := 23) C dX5_play_23 ?_
  refine tv_istore_n (pc := 24) [(3, tm_i 0), (2, tm_i 0), (0, .ref (E.2.1 35)), (1, .ref (E.2.1 29))] C dX5_play_24 rfl (by decide) rfl ?_
  refine tv_iconst (pc := 25) C dX5_play_25 ?_
  refine tv_istore (pc := 26) [(4, tm_i 0), (3, tm_i 0), (2, tm_i 0), (0, .ref (E.2.1 35)), (1, .ref (E.2.1 29))] C dX5_play_26 (by decide) rfl ?_
  refine tv_iconst (pc := 28) C dX5_play_28 ?_
  refine tv_istore (pc := 29) [(5, tm_i 0), (4, tm_i 0), (3, tm_i 0), (2, tm_i 0), (0, .ref (E.2.1 35)), (1, .ref (E.2.1 29))] C dX5_play_29 (by decide) rfl ?_
  refine tv_sub (lv1 := [(5, tm_i 0), (4, tm_i 0), (3, tm_i 0), (2, tm_i 0), (0, .ref (E.2.1 35)), (1, .ref (E.2.1 29))]) [0, 1, 2, 3, 4, 5] rfl ?_
  refine tv_mem (tm_rn μ (sm_p μ 29) 35 0) tm_rn_0 ?_
  exact l_play_a C μ _ rfl hp _ ⟨rfl, rfl⟩ 41 0 0 0 0 0 rfl rfl rfl rfl (by omega) (by omega)
set_option maxHeartbeats 4000000 in
theorem c5_pass_b (E : tm_Ev) (l : Launch) (μ p : tm_M) (h : Nat) (g : Int) (hpe : p = sm_p μ 43) (hp : sm_ok p) (hh : h < 40) (hg : g = sm_g p (sm_q p h)) : tm_Met E l yX4_pass cX4_pass 5 (some .boolean) 2 [.ref (E.2.1 50), .ref (E.2.1 43), tm_i g] (tm_rn μ p 49 h) (tm_pi (fun z μ' => z = sm_G p h ∧ μ' = (tm_pd (tm_rn μ p 49 h) 50 ((h : Int) + 1) (sm_z p (h + 1)) (sm_w p (h + 1)) (sm_s p (h + 1))))) := by
  obtain ⟨b1, b2, b3, b4, b5, b6, b7⟩ := sm_bd hp h (by omega)
  have e0 : (tm_rn μ p 49 h) 50 0 = (h : Int) := tm_rn_p 0
  have e1 : (tm_rn μ p 49 h) 50 1 = sm_z p h := tm_rn_p 1
  have e2 : (tm_rn μ p 49 h) 50 2 = sm_w p h := tm_rn_p 2
  have e3 : (tm_rn μ p 49 h) 50 3 = sm_s p h := tm_rn_p 3
  have f1 : (tm_rn μ p 49 h) 45 h = p 1 h := by rw [tm_rn_o (by omega), hpe]; rfl
  have f2 : (tm_rn μ p 49 h) 46 h = p 2 h := by rw [tm_rn_o (by omega), hpe]; rfl
  have f3 : (tm_rn μ p 49 h) 47 h = p 3 h := by rw [tm_rn_o (by omega), hpe]; rfl
  have g1 : (tm_rn μ p 49 h) 44 1 = p 0 1 := by rw [tm_rn_o (by omega), hpe]; rfl
  have g2 : (tm_rn μ p 49 h) 44 2 = p 0 2 := by rw [tm_rn_o (by omega), hpe]; rfl
  have g3 : (tm_rn μ p 49 h) 44 3 = p 0 3 := by rw [tm_rn_o (by omega), hpe]; rfl
  have g4 : (tm_rn μ p 49 h) 44 4 = p 0 4 := by rw [tm_rn_o (by omega), hpe]; rfl
  have hgr : g = -1 ∨ (0 ≤ g ∧ g ≤ 2) := by
    rcases sm_f_cases hp (sm_q p h) with ⟨a, b, c⟩ | ⟨a, b, c⟩
    · right; rw [hg, c]; exact (hp.2.2.2.2.2.2.2.2.2 _ a).2.1
    · left; rw [hg, c]
  have k := c4_pass_b E l (tm_rn μ p 49 h) 50 (rfl) rfl h g e0 hh hgr (by rw [e1]; exact b1) (by rw [e2]; omega) (by rw [e3]; omega) (by rw [f1]; exact hp.2.2.2.2.2.1 h hh) (by rw [g1]; exact hp.2.1) (by rw [g2]; exact hp.2.2.1) (by rw [g3]; exact hp.2.2.2.1) (by rw [g4]; exact hp.2.2.2.2.1) (by rw [f2]; exact hp.2.2.2.2.2.2.1 h hh) (by rw [f3]; exact hp.2.2.2.2.2.2.2.1 h hh)
  rw [e1, e2, e3, f1, f2, f3, g1, g2, g3, g4, hg] at k
  rw [hg]
  exact k
set_option maxHeartbeats 8000000 in
theorem l_play_b {E : tm_Ev} {X : tm_X} (C : tm_C E X yX5_play.cls cX5_play 8 none 3) (μ p : tm_M) (hpe : p = sm_p μ 43) (hp : sm_ok p) (post : Option Value → tm_M → Prop) (hpost : post none (tm_rn μ p 49 40)) : ∀ (f h : Nat) (x a b c : Int), x = h → a = sm_t p h → b = sm_o p h → c = (sm_q p h : Int) → h ≤ 40 → 40 - h < f → tm_V E X (tm_Q E X post) 8 31 [(5, tm_i x), (4, tm_i a), (3, tm_i b), (2, tm_i c), (0, .ref (E.2.1 49)), (1, .ref (E.2.1 43))] [] (tm_rn μ p 49 h) := by
  have h58 := hp.2.2.2.2.2.2.2.2.1
  intro f
  induction f with
  | zero => intro h x a b c hx ha hb hc hh hf; omega
  | succ f ih =>
    intro h x a b c hx ha hb hc hh hf
    obtain ⟨b1, b2, b3, b4, b5, b6, b7⟩ := sm_bd hp h hh
    have h04 := hp.2.2.2.2.1
    have h39 : h < 40 → 0 ≤ p 3 h ∧ p 3 h ≤ 10 := hp.2.2.2.2.2.2.2.1 h
    have hw1 : h < 40 → 0 ≤ sm_w p (h + 1) ∧ sm_w p (h + 1) ≤ 40 := fun q => by have q2 := (sm_bd hp (h + 1) (by omega)).2.1; omega
    refine tv_iload (pc := 31) 0 C dX5_play_31 rfl ?_
    refine tv_bipush (pc := 33) C dX5_play_33 (by decide) ?_
    refine tv_icmp_ge (pc := 35) 243 C dX5_play_35 (by decide) (by omega) (by omega) (fun h35 => ?_) (fun h35 => ?_)
    · skip
      have hin : h = 40 := by omega
      subst hin
      refine tv_vret (pc := 243) C dX5_play_243 ?_
      exact hpost
    · skip
      refine tv_iload_n (pc := 38) 3 C dX5_play_38 rfl rfl ?_
      refine tv_aload_n (pc := 39) 5 C dX5_play_39 rfl rfl ?_
      refine tv_geti (pc := 40) (z := p 5 0) C rfl rfl fl_X5_51 dX5_play_40 ((congrFun (tm_rn_o (by omega)) _).trans (by rw [hpe]; rfl)) ?_
      refine tv_icmp_ge (pc := 43) 55 C dX5_play_43 (by decide) (by omega) (by omega) (fun h43 => ?_) (fun h43 => ?_)
      · skip
        have hff : sm_f p (sm_q p h) = -1 := by unfold sm_f; rw [if_neg (by omega)]
        have hgg : sm_g p (sm_q p h) = -1 := by unfold sm_g; rw [if_pos hff]
        refine tv_iconst (pc := 55) C dX5_play_55 ?_
        refine tv_istore (pc := 56) [(6, tm_i (-1)), (5, tm_i x), (4, tm_i a), (3, tm_i b), (2, tm_i c), (0, .ref (E.2.1 49)), (1, .ref (E.2.1 43))] C dX5_play_56 (by decide) rfl ?_
        refine tv_aload_n (pc := 58) 5 C dX5_play_58 rfl rfl ?_
        refine tv_getr (pc := 59) (q := 50) C rfl rfl fl_X5_12 dX5_play_59 ?_
        refine tv_aload_n (pc := 62) 6 C dX5_play_62 rfl rfl ?_
        refine tv_iload (pc := 63) 0 C dX5_play_63 rfl ?_
        refine tv_iconst (pc := 65) C dX5_play_65 ?_
        refine tv_icmp_ne (pc := 66) 73 C dX5_play_66 (by decide) (by omega) (by omega) (fun q => absurd q (by decide)) (fun _ => ?_)
        refine tv_iconst (pc := 69) C dX5_play_69 ?_
        refine tv_goto (pc := 70) 83 C dX5_play_70 (by decide) ?_
        refine tv_callV (pc := 83) [.ref (E.2.1 43), tm_i (-1)] [] C (c5_pass_b E _ μ p h (-1) hpe hp (by omega) hgg.symm) cv_X5_68 rfl rfl (by decide) rfl (Nat.le_of_ble_eq_true rfl) rfl dX5_play_83 (tm_ki ?_)
        rintro z _ ⟨hz, rfl⟩
        have h01 : z = 0 ∨ z = 1 := by rw [hz]; exact sm_G01 p h
        refine tv_istore (pc := 86) [(7, tm_i z), (6, tm_i (-1)), (5, tm_i x), (4, tm_i a), (3, tm_i b), (2, tm_i c), (0, .ref (E.2.1 49)), (1, .ref (E.2.1 43))] C dX5_play_86 (by decide) rfl ?_
        rcases h01 with rfl | rfl
        · skip
          refine tv_iload (pc := 88) 0 C dX5_play_88 rfl ?_
          refine tv_if_eq (pc := 90) 99 C dX5_play_90 (by decide) (by omega) (fun _ => ?_) (fun q => absurd q (by decide))
          refine tv_iload (pc := 99) 0 C dX5_play_99 rfl ?_
          refine tv_if_eq (pc := 101) 132 C dX5_play_101 (by decide) (by omega) (fun _ => ?_) (fun q => absurd q (by decide))
          refine tv_aload_n (pc := 132) 6 C dX5_play_132 rfl rfl ?_
          refine tv_getr (pc := 133) (q := 53) C rfl rfl fl_X5_25 dX5_play_133 ?_
          refine tv_iload (pc := 136) 2 C dX5_play_136 rfl ?_
          refine tv_aload_n (pc := 138) 7 C dX5_play_138 rfl rfl ?_
          refine tv_getr (pc := 139) (q := 47) C rfl rfl fl_X5_73 dX5_play_139 ?_
          refine tv_iload (pc := 142) 2 C dX5_play_142 rfl ?_
          refine tv_iald (pc := 144) (j := h) (z := p 3 h) C rfl dX5_play_144 (by omega) (by omega) ((congrFun (tm_pd_f (by decide)) _).trans ((congrFun (tm_rn_o (by omega)) _).trans (by rw [hpe]; rfl))) ?_
          refine tv_if_le (pc := 145) 152 C dX5_play_145 (by decide) (by omega) (fun h145 => ?_) (fun h145 => ?_)
          · skip
            refine tv_iload (pc := 152) 1 C dX5_play_152 rfl ?_
            refine tv_iast (pc := 154) (j := h) C rfl dX5_play_154 (by omega) (by omega) ?_
            refine tv_aload_n (pc := 155) 6 C dX5_play_155 rfl rfl ?_
            refine tv_getr (pc := 156) (q := 54) C rfl rfl fl_X5_28 dX5_play_156 ?_
            refine tv_iload (pc := 159) 2 C dX5_play_159 rfl ?_
            refine tv_aload_n (pc := 161) 6 C dX5_play_161 rfl rfl ?_
            refine tv_getr (pc := 162) (q := 53) C rfl rfl fl_X5_25 dX5_play_162 ?_
            refine tv_iload (pc := 165) 2 C dX5_play_165 rfl ?_
            refine tv_iald (pc := 167) (j := h) (z := -1) C rfl dX5_play_167 (by omega) (by omega) tm_us ?_
            refine tv_iconst (pc := 168) C dX5_play_168 ?_
            refine tv_icmp_eq (pc := 169) 181 C dX5_play_169 (by decide) (by omega) (by omega) (fun _ => ?_) (fun q => absurd q (by decide))
            refine tv_iconst (pc := 181) C dX5_play_181 ?_
            refine tv_iast (pc := 182) (j := h) C rfl dX5_play_182 (by omega) (by omega) ?_
            refine tv_aload_n (pc := 183) 6 C dX5_play_183 rfl rfl ?_
            refine tv_dup (pc := 184) C dX5_play_184 rfl ?_
            refine tv_geti (pc := 185) (z := sm_i p h) C rfl rfl fl_X5_43 dX5_play_185 ((tm_uk (by decide)).trans ((tm_uk (by decide)).trans ((congrFun (tm_pd_f (by decide)) _).trans tm_rn_i))) ?_
            refine tv_aload_n (pc := 188) 6 C dX5_play_188 rfl rfl ?_
            refine tv_getr (pc := 189) (q := 54) C rfl rfl fl_X5_28 dX5_play_189 ?_
            refine tv_iload (pc := 192) 2 C dX5_play_192 rfl ?_
            refine tv_iald (pc := 194) (j := h) (z := 0) C rfl dX5_play_194 (by omega) (by omega) tm_us ?_
            refine tv_iadd (pc := 195) C dX5_play_195 ?_
            refine tv_puti (pc := 196) C rfl rfl fp_X5_43 dX5_play_196 ?_
            refine tv_aload_n (pc := 199) 6 C dX5_play_199 rfl rfl ?_
            refine tv_getr (pc := 200) (q := 51) C rfl rfl fl_X5_18 dX5_play_200 ?_
            refine tv_iload (pc := 203) 2 C dX5_play_203 rfl ?_
            refine tv_aload_n (pc := 205) 6 C dX5_play_205 rfl rfl ?_
            refine tv_getr (pc := 206) (q := 50) C rfl rfl fl_X5_12 dX5_play_206 ?_
            refine tv_geti (pc := 209) (z := sm_z p (h + 1)) C rfl rfl fl_X5_76 dX5_play_209 ((tm_uk (by decide)).trans ((tm_uk (by decide)).trans ((tm_uk (by decide)).trans (tm_pd_1)))) ?_
            refine tv_iast (pc := 212) (j := h) C rfl dX5_play_212 (by omega) (by omega) ?_
            refine tv_aload_n (pc := 213) 6 C dX5_play_213 rfl rfl ?_
            refine tv_getr (pc := 214) (q := 52) C rfl rfl fl_X5_22 dX5_play_214 ?_
            refine tv_iload (pc := 217) 2 C dX5_play_217 rfl ?_
            refine tv_iload (pc := 219) 3 C dX5_play_219 rfl ?_
            refine tv_iast (pc := 221) (j := h) C rfl dX5_play_221 (by omega) (by omega) ?_
            refine tv_aload_n (pc := 222) 6 C dX5_play_222 rfl rfl ?_
            refine tv_getr (pc := 223) (q := 55) C rfl rfl fl_X5_31 dX5_play_223 ?_
            refine tv_iload (pc := 226) 2 C dX5_play_226 rfl ?_
            refine tv_aload_n (pc := 228) 6 C dX5_play_228 rfl rfl ?_
            refine tv_getr (pc := 229) (q := 50) C rfl rfl fl_X5_12 dX5_play_229 ?_
            refine tv_aload_n (pc := 232) 7 C dX5_play_232 rfl rfl ?_
            refine tv_callV (pc := 233) [.ref (E.2.1 43)] [tm_i x, .ref (E.2.1 55)] C (c4_dull_b E _ (tm_up (tm_up (tm_up (tm_up (tm_up (tm_pd (tm_rn μ p 49 h) 50 ((h : Int) + 1) (sm_z p (h + 1)) (sm_w p (h + 1)) (sm_s p (h + 1))) 53 h (-1)) 54 h 0) 49 7 ((sm_i p h) + 0)) 51 h (sm_z p (h + 1))) 52 h a) 50 (rfl) rfl (by rw [show (tm_up (tm_up (tm_up (tm_up (tm_up (tm_pd (tm_rn μ p 49 h) 50 ((h : Int) + 1) (sm_z p (h + 1)) (sm_w p (h + 1)) (sm_s p (h + 1))) 53 h (-1)) 54 h 0) 49 7 ((sm_i p h) + 0)) 51 h (sm_z p (h + 1))) 52 h a) 50 2 = sm_w p (h + 1) from (tm_uk (by decide)).trans ((tm_uk (by decide)).trans ((tm_uk (by decide)).trans ((tm_uk (by decide)).trans ((tm_uk (by decide)).trans (tm_pd_2)))))]; omega) (by rw [show (tm_up (tm_up (tm_up (tm_up (tm_up (tm_pd (tm_rn μ p 49 h) 50 ((h : Int) + 1) (sm_z p (h + 1)) (sm_w p (h + 1)) (sm_s p (h + 1))) 53 h (-1)) 54 h 0) 49 7 ((sm_i p h) + 0)) 51 h (sm_z p (h + 1))) 52 h a) 44 4 = p 0 4 from (tm_uk (by decide)).trans ((tm_uk (by decide)).trans ((tm_uk (by decide)).trans ((tm_uk (by decide)).trans ((tm_uk (by decide)).trans ((congrFun (tm_pd_f (by decide)) _).trans ((congrFun (tm_rn_o (by omega)) _).trans (by rw [hpe]; rfl)))))))]; omega)) cv_X5_78 rfl rfl (by decide) rfl (Nat.le_of_ble_eq_true rfl) rfl dX5_play_233 (tm_ki ?_)
            rintro z9 _ ⟨hz9, rfl⟩
            rw [show (tm_up (tm_up (tm_up (tm_up (tm_up (tm_pd (tm_rn μ p 49 h) 50 ((h : Int) + 1) (sm_z p (h + 1)) (sm_w p (h + 1)) (sm_s p (h + 1))) 53 h (-1)) 54 h 0) 49 7 ((sm_i p h) + 0)) 51 h (sm_z p (h + 1))) 52 h a) 50 2 = sm_w p (h + 1) from (tm_uk (by decide)).trans ((tm_uk (by decide)).trans ((tm_uk (by decide)).trans ((tm_uk (by decide)).trans ((tm_uk (by decide)).trans (tm_pd_2))))), show (tm_up (tm_up (tm_up (tm_up (tm_up (tm_pd (tm_rn μ p 49 h) 50 ((h : Int) + 1) (sm_z p (h + 1)) (sm_w p (h + 1)) (sm_s p (h + 1))) 53 h (-1)) 54 h 0) 49 7 ((sm_i p h) + 0)) 51 h (sm_z p (h + 1))) 52 h a) 44 4 = p 0 4 from (tm_uk (by decide)).trans ((tm_uk (by decide)).trans ((tm_uk (by decide)).trans ((tm_uk (by decide)).trans ((tm_uk (by decide)).trans ((congrFun (tm_pd_f (by decide)) _).trans ((congrFun (tm_rn_o (by omega)) _).trans (by rw [hpe]; rfl)))))))] at hz9
            subst hz9
            refine tv_iast (pc := 236) (j := h) C rfl dX5_play_236 (by omega) (by omega) ?_
            refine tv_iinc (pc := 237) 2 [(5, tm_i (x + 1)), (7, tm_i 0), (6, tm_i (-1)), (4, tm_i a), (3, tm_i b), (2, tm_i c), (0, .ref (E.2.1 49)), (1, .ref (E.2.1 43))] C dX5_play_237 rfl (by decide) rfl ?_
            refine tv_goto (pc := 240) 31 C dX5_play_240 (by decide) ?_
            refine tv_sub (lv1 := [(5, tm_i (x + 1)), (4, tm_i a), (3, tm_i b), (2, tm_i c), (0, .ref (E.2.1 49)), (1, .ref (E.2.1 43))]) [0, 3, 4, 5, 6, 7] rfl ?_
            have hN : ¬ sm_N p h = true := fun q => by have q2 := (sm_N_iff p h).mp q; omega
            have e4 : a = sm_t p (h + 1) := by rw [sm_t_s]; omega
            have e3 : b = sm_o p (h + 1) := by rw [sm_o_s, if_neg hN]; omega
            have e2 : c = (sm_q p (h + 1) : Int) := by rw [sm_q_s, if_neg hN]; omega
            have v39 : -1 = sm_a p h := by unfold sm_a; first | (rw [if_pos (by omega)]; done) | (rw [if_neg (by omega), hff]; done)
            have v40 : 0 = sm_d p h := by unfold sm_d; first | (rw [if_pos (by omega)]; done) | (rw [if_neg (by omega), if_pos (by omega)]; done) | (rw [if_neg (by omega), if_neg (by omega)]; omega)
            have v35 : (sm_i p h) + 0 = sm_i p (h + 1) := by rw [sm_i_s]; first | (rw [if_pos (by omega)]; done) | (rw [if_neg (by omega), if_pos (by omega)]; done) | (rw [if_neg (by omega), if_neg (by omega)]; omega)
            refine tv_mem (tm_rn μ p 49 (h + 1)) (tm_rn_s (fun b => (tm_uk (by decide)).trans ((tm_uk (by decide)).trans ((tm_uk (by decide)).trans ((tm_ua b).trans (tm_obj_s (fun b => (tm_uk (by decide)).trans ((tm_uk (by decide)).trans ((congrFun (tm_pd_f (by decide)) b).trans (tm_rn_i0 b)))) v35 b))))) (fun b => (tm_uk (by decide)).trans ((tm_uk (by decide)).trans ((tm_uk (by decide)).trans ((tm_uk (by decide)).trans ((tm_uk (by decide)).trans ((tm_uk (by decide)).trans (tm_rn_pd b))))))) (fun b => (tm_uk (by decide)).trans ((tm_uk (by decide)).trans ((tm_ua b).trans (tm_row_s (fun b => (tm_uk (by decide)).trans ((tm_uk (by decide)).trans ((tm_uk (by decide)).trans ((congrFun (tm_pd_f (by decide)) b).trans (tm_rn_2 b))))) rfl b)))) (fun b => (tm_uk (by decide)).trans ((tm_ua b).trans (tm_row_s (fun b => (tm_uk (by decide)).trans ((tm_uk (by decide)).trans ((tm_uk (by decide)).trans ((tm_uk (by decide)).trans ((congrFun (tm_pd_f (by decide)) b).trans (tm_rn_3 b)))))) e4 b))) (fun b => (tm_uk (by decide)).trans ((tm_uk (by decide)).trans ((tm_uk (by decide)).trans ((tm_uk (by decide)).trans ((tm_uk (by decide)).trans ((tm_ua b).trans (tm_row_s (fun b => (congrFun (tm_pd_f (by decide)) b).trans (tm_rn_4 b)) v39 b))))))) (fun b => (tm_uk (by decide)).trans ((tm_uk (by decide)).trans ((tm_uk (by decide)).trans ((tm_uk (by decide)).trans ((tm_ua b).trans (tm_row_s (fun b => (tm_uk (by decide)).trans ((congrFun (tm_pd_f (by decide)) b).trans (tm_rn_5 b))) v40 b)))))) (fun b => (tm_ua b).trans (tm_row_s (fun b => (tm_uk (by decide)).trans ((tm_uk (by decide)).trans ((tm_uk (by decide)).trans ((tm_uk (by decide)).trans ((tm_uk (by decide)).trans ((congrFun (tm_pd_f (by decide)) b).trans (tm_rn_6 b))))))) rfl b)) (tm_end_n (fun b => (tm_uk (by decide)).trans ((tm_uk (by decide)).trans ((tm_uk (by decide)).trans ((tm_uk (by decide)).trans ((tm_uk (by decide)).trans ((tm_uk (by decide)).trans ((congrFun (tm_pd_f (by decide)) b).trans (tm_rn_7 b)))))))) hN) (fun a ha => by rw [tm_uf (show a ≠ 55 by omega), tm_uf (show a ≠ 52 by omega), tm_uf (show a ≠ 51 by omega), tm_uf (show a ≠ 49 by omega), tm_uf (show a ≠ 54 by omega), tm_uf (show a ≠ 53 by omega), tm_pd_f (by omega), tm_rn_o ha])) ?_
            exact ih (h + 1) _ _ _ _ (by omega) e4 e3 e2 (by omega) (by omega)
          · skip
            refine tv_iconst (pc := 148) C dX5_play_148 ?_
            refine tv_goto (pc := 149) 154 C dX5_play_149 (by decide) ?_
            refine tv_iast (pc := 154) (j := h) C rfl dX5_play_154 (by omega) (by omega) ?_
            refine tv_aload_n (pc := 155) 6 C dX5_play_155 rfl rfl ?_
            refine tv_getr (pc := 156) (q := 54) C rfl rfl fl_X5_28 dX5_play_156 ?_
            refine tv_iload (pc := 159) 2 C dX5_play_159 rfl ?_
            refine tv_aload_n (pc := 161) 6 C dX5_play_161 rfl rfl ?_
            refine tv_getr (pc := 162) (q := 53) C rfl rfl fl_X5_25 dX5_play_162 ?_
            refine tv_iload (pc := 165) 2 C dX5_play_165 rfl ?_
            refine tv_iald (pc := 167) (j := h) (z := -1) C rfl dX5_play_167 (by omega) (by omega) tm_us ?_
            refine tv_iconst (pc := 168) C dX5_play_168 ?_
            refine tv_icmp_eq (pc := 169) 181 C dX5_play_169 (by decide) (by omega) (by omega) (fun _ => ?_) (fun q => absurd q (by decide))
            refine tv_iconst (pc := 181) C dX5_play_181 ?_
            refine tv_iast (pc := 182) (j := h) C rfl dX5_play_182 (by omega) (by omega) ?_
            refine tv_aload_n (pc := 183) 6 C dX5_play_183 rfl rfl ?_
            refine tv_dup (pc := 184) C dX5_play_184 rfl ?_
            refine tv_geti (pc := 185) (z := sm_i p h) C rfl rfl fl_X5_43 dX5_play_185 ((tm_uk (by decide)).trans ((tm_uk (by decide)).trans ((congrFun (tm_pd_f (by decide)) _).trans tm_rn_i))) ?_
            refine tv_aload_n (pc := 188) 6 C dX5_play_188 rfl rfl ?_
            refine tv_getr (pc := 189) (q := 54) C rfl rfl fl_X5_28 dX5_play_189 ?_
            refine tv_iload (pc := 192) 2 C dX5_play_192 rfl ?_
            refine tv_iald (pc := 194) (j := h) (z := 0) C rfl dX5_play_194 (by omega) (by omega) tm_us ?_
            refine tv_iadd (pc := 195) C dX5_play_195 ?_
            refine tv_puti (pc := 196) C rfl rfl fp_X5_43 dX5_play_196 ?_
            refine tv_aload_n (pc := 199) 6 C dX5_play_199 rfl rfl ?_
            refine tv_getr (pc := 200) (q := 51) C rfl rfl fl_X5_18 dX5_play_200 ?_
            refine tv_iload (pc := 203) 2 C dX5_play_203 rfl ?_
            refine tv_aload_n (pc := 205) 6 C dX5_play_205 rfl rfl ?_
            refine tv_getr (pc := 206) (q := 50) C rfl rfl fl_X5_12 dX5_play_206 ?_
            refine tv_geti (pc := 209) (z := sm_z p (h + 1)) C rfl rfl fl_X5_76 dX5_play_209 ((tm_uk (by decide)).trans ((tm_uk (by decide)).trans ((tm_uk (by decide)).trans (tm_pd_1)))) ?_
            refine tv_iast (pc := 212) (j := h) C rfl dX5_play_212 (by omega) (by omega) ?_
            refine tv_aload_n (pc := 213) 6 C dX5_play_213 rfl rfl ?_
            refine tv_getr (pc := 214) (q := 52) C rfl rfl fl_X5_22 dX5_play_214 ?_
            refine tv_iload (pc := 217) 2 C dX5_play_217 rfl ?_
            refine tv_iload (pc := 219) 3 C dX5_play_219 rfl ?_
            refine tv_iast (pc := 221) (j := h) C rfl dX5_play_221 (by omega) (by omega) ?_
            refine tv_aload_n (pc := 222) 6 C dX5_play_222 rfl rfl ?_
            refine tv_getr (pc := 223) (q := 55) C rfl rfl fl_X5_31 dX5_play_223 ?_
            refine tv_iload (pc := 226) 2 C dX5_play_226 rfl ?_
            refine tv_aload_n (pc := 228) 6 C dX5_play_228 rfl rfl ?_
            refine tv_getr (pc := 229) (q := 50) C rfl rfl fl_X5_12 dX5_play_229 ?_
            refine tv_aload_n (pc := 232) 7 C dX5_play_232 rfl rfl ?_
            refine tv_callV (pc := 233) [.ref (E.2.1 43)] [tm_i x, .ref (E.2.1 55)] C (c4_dull_b E _ (tm_up (tm_up (tm_up (tm_up (tm_up (tm_pd (tm_rn μ p 49 h) 50 ((h : Int) + 1) (sm_z p (h + 1)) (sm_w p (h + 1)) (sm_s p (h + 1))) 53 h (-1)) 54 h 0) 49 7 ((sm_i p h) + 0)) 51 h (sm_z p (h + 1))) 52 h a) 50 (rfl) rfl (by rw [show (tm_up (tm_up (tm_up (tm_up (tm_up (tm_pd (tm_rn μ p 49 h) 50 ((h : Int) + 1) (sm_z p (h + 1)) (sm_w p (h + 1)) (sm_s p (h + 1))) 53 h (-1)) 54 h 0) 49 7 ((sm_i p h) + 0)) 51 h (sm_z p (h + 1))) 52 h a) 50 2 = sm_w p (h + 1) from (tm_uk (by decide)).trans ((tm_uk (by decide)).trans ((tm_uk (by decide)).trans ((tm_uk (by decide)).trans ((tm_uk (by decide)).trans (tm_pd_2)))))]; omega) (by rw [show (tm_up (tm_up (tm_up (tm_up (tm_up (tm_pd (tm_rn μ p 49 h) 50 ((h : Int) + 1) (sm_z p (h + 1)) (sm_w p (h + 1)) (sm_s p (h + 1))) 53 h (-1)) 54 h 0) 49 7 ((sm_i p h) + 0)) 51 h (sm_z p (h + 1))) 52 h a) 44 4 = p 0 4 from (tm_uk (by decide)).trans ((tm_uk (by decide)).trans ((tm_uk (by decide)).trans ((tm_uk (by decide)).trans ((tm_uk (by decide)).trans ((congrFun (tm_pd_f (by decide)) _).trans ((congrFun (tm_rn_o (by omega)) _).trans (by rw [hpe]; rfl)))))))]; omega)) cv_X5_78 rfl rfl (by decide) rfl (Nat.le_of_ble_eq_true rfl) rfl dX5_play_233 (tm_ki ?_)
            rintro z9 _ ⟨hz9, rfl⟩
            rw [show (tm_up (tm_up (tm_up (tm_up (tm_up (tm_pd (tm_rn μ p 49 h) 50 ((h : Int) + 1) (sm_z p (h + 1)) (sm_w p (h + 1)) (sm_s p (h + 1))) 53 h (-1)) 54 h 0) 49 7 ((sm_i p h) + 0)) 51 h (sm_z p (h + 1))) 52 h a) 50 2 = sm_w p (h + 1) from (tm_uk (by decide)).trans ((tm_uk (by decide)).trans ((tm_uk (by decide)).trans ((tm_uk (by decide)).trans ((tm_uk (by decide)).trans (tm_pd_2))))), show (tm_up (tm_up (tm_up (tm_up (tm_up (tm_pd (tm_rn μ p 49 h) 50 ((h : Int) + 1) (sm_z p (h + 1)) (sm_w p (h + 1)) (sm_s p (h + 1))) 53 h (-1)) 54 h 0) 49 7 ((sm_i p h) + 0)) 51 h (sm_z p (h + 1))) 52 h a) 44 4 = p 0 4 from (tm_uk (by decide)).trans ((tm_uk (by decide)).trans ((tm_uk (by decide)).trans ((tm_uk (by decide)).trans ((tm_uk (by decide)).trans ((congrFun (tm_pd_f (by decide)) _).trans ((congrFun (tm_rn_o (by omega)) _).trans (by rw [hpe]; rfl)))))))] at hz9
            subst hz9
            refine tv_iast (pc := 236) (j := h) C rfl dX5_play_236 (by omega) (by omega) ?_
            refine tv_iinc (pc := 237) 2 [(5, tm_i (x + 1)), (7, tm_i 0), (6, tm_i (-1)), (4, tm_i a), (3, tm_i b), (2, tm_i c), (0, .ref (E.2.1 49)), (1, .ref (E.2.1 43))] C dX5_play_237 rfl (by decide) rfl ?_
            refine tv_goto (pc := 240) 31 C dX5_play_240 (by decide) ?_
            refine tv_sub (lv1 := [(5, tm_i (x + 1)), (4, tm_i a), (3, tm_i b), (2, tm_i c), (0, .ref (E.2.1 49)), (1, .ref (E.2.1 43))]) [0, 3, 4, 5, 6, 7] rfl ?_
            have hN : ¬ sm_N p h = true := fun q => by have q2 := (sm_N_iff p h).mp q; omega
            have e4 : a = sm_t p (h + 1) := by rw [sm_t_s]; omega
            have e3 : b = sm_o p (h + 1) := by rw [sm_o_s, if_neg hN]; omega
            have e2 : c = (sm_q p (h + 1) : Int) := by rw [sm_q_s, if_neg hN]; omega
            have v39 : -1 = sm_a p h := by unfold sm_a; first | (rw [if_pos (by omega)]; done) | (rw [if_neg (by omega), hff]; done)
            have v40 : 0 = sm_d p h := by unfold sm_d; first | (rw [if_pos (by omega)]; done) | (rw [if_neg (by omega), if_pos (by omega)]; done) | (rw [if_neg (by omega), if_neg (by omega)]; omega)
            have v35 : (sm_i p h) + 0 = sm_i p (h + 1) := by rw [sm_i_s]; first | (rw [if_pos (by omega)]; done) | (rw [if_neg (by omega), if_pos (by omega)]; done) | (rw [if_neg (by omega), if_neg (by omega)]; omega)
            refine tv_mem (tm_rn μ p 49 (h + 1)) (tm_rn_s (fun b => (tm_uk (by decide)).trans ((tm_uk (by decide)).trans ((tm_uk (by decide)).trans ((tm_ua b).trans (tm_obj_s (fun b => (tm_uk (by decide)).trans ((tm_uk (by decide)).trans ((congrFun (tm_pd_f (by decide)) b).trans (tm_rn_i0 b)))) v35 b))))) (fun b => (tm_uk (by decide)).trans ((tm_uk (by decide)).trans ((tm_uk (by decide)).trans ((tm_uk (by decide)).trans ((tm_uk (by decide)).trans ((tm_uk (by decide)).trans (tm_rn_pd b))))))) (fun b => (tm_uk (by decide)).trans ((tm_uk (by decide)).trans ((tm_ua b).trans (tm_row_s (fun b => (tm_uk (by decide)).trans ((tm_uk (by decide)).trans ((tm_uk (by decide)).trans ((congrFun (tm_pd_f (by decide)) b).trans (tm_rn_2 b))))) rfl b)))) (fun b => (tm_uk (by decide)).trans ((tm_ua b).trans (tm_row_s (fun b => (tm_uk (by decide)).trans ((tm_uk (by decide)).trans ((tm_uk (by decide)).trans ((tm_uk (by decide)).trans ((congrFun (tm_pd_f (by decide)) b).trans (tm_rn_3 b)))))) e4 b))) (fun b => (tm_uk (by decide)).trans ((tm_uk (by decide)).trans ((tm_uk (by decide)).trans ((tm_uk (by decide)).trans ((tm_uk (by decide)).trans ((tm_ua b).trans (tm_row_s (fun b => (congrFun (tm_pd_f (by decide)) b).trans (tm_rn_4 b)) v39 b))))))) (fun b => (tm_uk (by decide)).trans ((tm_uk (by decide)).trans ((tm_uk (by decide)).trans ((tm_uk (by decide)).trans ((tm_ua b).trans (tm_row_s (fun b => (tm_uk (by decide)).trans ((congrFun (tm_pd_f (by decide)) b).trans (tm_rn_5 b))) v40 b)))))) (fun b => (tm_ua b).trans (tm_row_s (fun b => (tm_uk (by decide)).trans ((tm_uk (by decide)).trans ((tm_uk (by decide)).trans ((tm_uk (by decide)).trans ((tm_uk (by decide)).trans ((congrFun (tm_pd_f (by decide)) b).trans (tm_rn_6 b))))))) rfl b)) (tm_end_n (fun b => (tm_uk (by decide)).trans ((tm_uk (by decide)).trans ((tm_uk (by decide)).trans ((tm_uk (by decide)).trans ((tm_uk (by decide)).trans ((tm_uk (by decide)).trans ((congrFun (tm_pd_f (by decide)) b).trans (tm_rn_7 b)))))))) hN) (fun a ha => by rw [tm_uf (show a ≠ 55 by omega), tm_uf (show a ≠ 52 by omega), tm_uf (show a ≠ 51 by omega), tm_uf (show a ≠ 49 by omega), tm_uf (show a ≠ 54 by omega), tm_uf (show a ≠ 53 by omega), tm_pd_f (by omega), tm_rn_o ha])) ?_
            exact ih (h + 1) _ _ _ _ (by omega) e4 e3 e2 (by omega) (by omega)
        · skip
          exfalso
          have q2 := (sm_G_1 hp hz.symm).2
          omega
      · skip
        have hrow := hp.2.2.2.2.2.2.2.2.2 (sm_q p h) (by omega)
        have hff : sm_f p (sm_q p h) = p 4 (sm_q p h) := by unfold sm_f; rw [if_pos (by omega)]
        have hgg : sm_g p (sm_q p h) = p 6 (p 4 (sm_q p h)).toNat := by unfold sm_g; rw [hff, if_neg (by omega)]
        refine tv_aload_n (pc := 46) 5 C dX5_play_46 rfl rfl ?_
        refine tv_getr (pc := 47) (q := 48) C rfl rfl fl_X5_56 dX5_play_47 ?_
        refine tv_iload_n (pc := 50) 3 C dX5_play_50 rfl rfl ?_
        refine tv_iald (pc := 51) (j := (sm_q p h)) (z := p 4 (sm_q p h)) C rfl dX5_play_51 (by omega) (by omega) ((congrFun (tm_rn_o (by omega)) _).trans (by rw [hpe]; rfl)) ?_
        refine tv_goto (pc := 52) 56 C dX5_play_52 (by decide) ?_
        refine tv_istore (pc := 56) [(6, tm_i (p 4 (sm_q p h))), (5, tm_i x), (4, tm_i a), (3, tm_i b), (2, tm_i c), (0, .ref (E.2.1 49)), (1, .ref (E.2.1 43))] C dX5_play_56 (by decide) rfl ?_
        refine tv_aload_n (pc := 58) 5 C dX5_play_58 rfl rfl ?_
        refine tv_getr (pc := 59) (q := 50) C rfl rfl fl_X5_12 dX5_play_59 ?_
        refine tv_aload_n (pc := 62) 6 C dX5_play_62 rfl rfl ?_
        refine tv_iload (pc := 63) 0 C dX5_play_63 rfl ?_
        refine tv_iconst (pc := 65) C dX5_play_65 ?_
        refine tv_icmp_ne (pc := 66) 73 C dX5_play_66 (by decide) (by omega) (by omega) (fun h66 => ?_) (fun h66 => ?_)
        · skip
          refine tv_aload_n (pc := 73) 6 C dX5_play_73 rfl rfl ?_
          refine tv_getr (pc := 74) (q := 23) C rfl rfl fl_X5_59 dX5_play_74 ?_
          refine tv_getr (pc := 77) (q := 24) C rfl rfl fl_X5_63 dX5_play_77 ?_
          refine tv_iload (pc := 80) 0 C dX5_play_80 rfl ?_
          refine tv_iald (pc := 82) (j := (p 4 (sm_q p h)).toNat) (z := p 6 ((p 4 (sm_q p h)).toNat)) C rfl dX5_play_82 (by omega) rfl ((congrFun (tm_rn_o (by omega)) _).trans (by rw [hpe]; rfl)) ?_
          refine tv_callV (pc := 83) [.ref (E.2.1 43), tm_i (p 6 ((p 4 (sm_q p h)).toNat))] [] C (c5_pass_b E _ μ p h (p 6 ((p 4 (sm_q p h)).toNat)) hpe hp (by omega) hgg.symm) cv_X5_68 rfl rfl (by decide) rfl (Nat.le_of_ble_eq_true rfl) rfl dX5_play_83 (tm_ki ?_)
          rintro z _ ⟨hz, rfl⟩
          have h01 : z = 0 ∨ z = 1 := by rw [hz]; exact sm_G01 p h
          refine tv_istore (pc := 86) [(7, tm_i z), (6, tm_i (p 4 (sm_q p h))), (5, tm_i x), (4, tm_i a), (3, tm_i b), (2, tm_i c), (0, .ref (E.2.1 49)), (1, .ref (E.2.1 43))] C dX5_play_86 (by decide) rfl ?_
          rcases h01 with rfl | rfl
          · skip
            refine tv_iload (pc := 88) 0 C dX5_play_88 rfl ?_
            refine tv_if_eq (pc := 90) 99 C dX5_play_90 (by decide) (by omega) (fun _ => ?_) (fun q => absurd q (by decide))
            refine tv_iload (pc := 99) 0 C dX5_play_99 rfl ?_
            refine tv_if_eq (pc := 101) 132 C dX5_play_101 (by decide) (by omega) (fun _ => ?_) (fun q => absurd q (by decide))
            refine tv_aload_n (pc := 132) 6 C dX5_play_132 rfl rfl ?_
            refine tv_getr (pc := 133) (q := 53) C rfl rfl fl_X5_25 dX5_play_133 ?_
            refine tv_iload (pc := 136) 2 C dX5_play_136 rfl ?_
            refine tv_aload_n (pc := 138) 7 C dX5_play_138 rfl rfl ?_
            refine tv_getr (pc := 139) (q := 47) C rfl rfl fl_X5_73 dX5_play_139 ?_
            refine tv_iload (pc := 142) 2 C dX5_play_142 rfl ?_
            refine tv_iald (pc := 144) (j := h) (z := p 3 h) C rfl dX5_play_144 (by omega) (by omega) ((congrFun (tm_pd_f (by decide)) _).trans ((congrFun (tm_rn_o (by omega)) _).trans (by rw [hpe]; rfl))) ?_
            refine tv_if_le (pc := 145) 152 C dX5_play_145 (by decide) (by omega) (fun h145 => ?_) (fun h145 => ?_)
            · skip
              refine tv_iload (pc := 152) 1 C dX5_play_152 rfl ?_
              refine tv_iast (pc := 154) (j := h) C rfl dX5_play_154 (by omega) (by omega) ?_
              refine tv_aload_n (pc := 155) 6 C dX5_play_155 rfl rfl ?_
              refine tv_getr (pc := 156) (q := 54) C rfl rfl fl_X5_28 dX5_play_156 ?_
              refine tv_iload (pc := 159) 2 C dX5_play_159 rfl ?_
              refine tv_aload_n (pc := 161) 6 C dX5_play_161 rfl rfl ?_
              refine tv_getr (pc := 162) (q := 53) C rfl rfl fl_X5_25 dX5_play_162 ?_
              refine tv_iload (pc := 165) 2 C dX5_play_165 rfl ?_
              refine tv_iald (pc := 167) (j := h) (z := p 4 (sm_q p h)) C rfl dX5_play_167 (by omega) (by omega) tm_us ?_
              refine tv_iconst (pc := 168) C dX5_play_168 ?_
              refine tv_icmp_eq (pc := 169) 181 C dX5_play_169 (by decide) (by omega) (by omega) (fun h169 => ?_) (fun h169 => ?_)
              · skip
                exfalso; omega
              · skip
                refine tv_iload (pc := 172) 0 C dX5_play_172 rfl ?_
                refine tv_if_ne (pc := 174) 181 C dX5_play_174 (by decide) (by omega) (fun q => absurd q (by decide)) (fun _ => ?_)
                refine tv_iconst (pc := 177) C dX5_play_177 ?_
                refine tv_goto (pc := 178) 182 C dX5_play_178 (by decide) ?_
                refine tv_iast (pc := 182) (j := h) C rfl dX5_play_182 (by omega) (by omega) ?_
                refine tv_aload_n (pc := 183) 6 C dX5_play_183 rfl rfl ?_
                refine tv_dup (pc := 184) C dX5_play_184 rfl ?_
                refine tv_geti (pc := 185) (z := sm_i p h) C rfl rfl fl_X5_43 dX5_play_185 ((tm_uk (by decide)).trans ((tm_uk (by decide)).trans ((congrFun (tm_pd_f (by decide)) _).trans tm_rn_i))) ?_
                refine tv_aload_n (pc := 188) 6 C dX5_play_188 rfl rfl ?_
                refine tv_getr (pc := 189) (q := 54) C rfl rfl fl_X5_28 dX5_play_189 ?_
                refine tv_iload (pc := 192) 2 C dX5_play_192 rfl ?_
                refine tv_iald (pc := 194) (j := h) (z := 1) C rfl dX5_play_194 (by omega) (by omega) tm_us ?_
                refine tv_iadd (pc := 195) C dX5_play_195 ?_
                refine tv_puti (pc := 196) C rfl rfl fp_X5_43 dX5_play_196 ?_
                refine tv_aload_n (pc := 199) 6 C dX5_play_199 rfl rfl ?_
                refine tv_getr (pc := 200) (q := 51) C rfl rfl fl_X5_18 dX5_play_200 ?_
                refine tv_iload (pc := 203) 2 C dX5_play_203 rfl ?_
                refine tv_aload_n (pc := 205) 6 C dX5_play_205 rfl rfl ?_
                refine tv_getr (pc := 206) (q := 50) C rfl rfl fl_X5_12 dX5_play_206 ?_
                refine tv_geti (pc := 209) (z := sm_z p (h + 1)) C rfl rfl fl_X5_76 dX5_play_209 ((tm_uk (by decide)).trans ((tm_uk (by decide)).trans ((tm_uk (by decide)).trans (tm_pd_1)))) ?_
                refine tv_iast (pc := 212) (j := h) C rfl dX5_play_212 (by omega) (by omega) ?_
                refine tv_aload_n (pc := 213) 6 C dX5_play_213 rfl rfl ?_
                refine tv_getr (pc := 214) (q := 52) C rfl rfl fl_X5_22 dX5_play_214 ?_
                refine tv_iload (pc := 217) 2 C dX5_play_217 rfl ?_
                refine tv_iload (pc := 219) 3 C dX5_play_219 rfl ?_
                refine tv_iast (pc := 221) (j := h) C rfl dX5_play_221 (by omega) (by omega) ?_
                refine tv_aload_n (pc := 222) 6 C dX5_play_222 rfl rfl ?_
                refine tv_getr (pc := 223) (q := 55) C rfl rfl fl_X5_31 dX5_play_223 ?_
                refine tv_iload (pc := 226) 2 C dX5_play_226 rfl ?_
                refine tv_aload_n (pc := 228) 6 C dX5_play_228 rfl rfl ?_
                refine tv_getr (pc := 229) (q := 50) C rfl rfl fl_X5_12 dX5_play_229 ?_
                refine tv_aload_n (pc := 232) 7 C dX5_play_232 rfl rfl ?_
                refine tv_callV (pc := 233) [.ref (E.2.1 43)] [tm_i x, .ref (E.2.1 55)] C (c4_dull_b E _ (tm_up (tm_up (tm_up (tm_up (tm_up (tm_pd (tm_rn μ p 49 h) 50 ((h : Int) + 1) (sm_z p (h + 1)) (sm_w p (h + 1)) (sm_s p (h + 1))) 53 h (p 4 (sm_q p h))) 54 h 1) 49 7 ((sm_i p h) + 1)) 51 h (sm_z p (h + 1))) 52 h a) 50 (rfl) rfl (by rw [show (tm_up (tm_up (tm_up (tm_up (tm_up (tm_pd (tm_rn μ p 49 h) 50 ((h : Int) + 1) (sm_z p (h + 1)) (sm_w p (h + 1)) (sm_s p (h + 1))) 53 h (p 4 (sm_q p h))) 54 h 1) 49 7 ((sm_i p h) + 1)) 51 h (sm_z p (h + 1))) 52 h a) 50 2 = sm_w p (h + 1) from (tm_uk (by decide)).trans ((tm_uk (by decide)).trans ((tm_uk (by decide)).trans ((tm_uk (by decide)).trans ((tm_uk (by decide)).trans (tm_pd_2)))))]; omega) (by rw [show (tm_up (tm_up (tm_up (tm_up (tm_up (tm_pd (tm_rn μ p 49 h) 50 ((h : Int) + 1) (sm_z p (h + 1)) (sm_w p (h + 1)) (sm_s p (h + 1))) 53 h (p 4 (sm_q p h))) 54 h 1) 49 7 ((sm_i p h) + 1)) 51 h (sm_z p (h + 1))) 52 h a) 44 4 = p 0 4 from (tm_uk (by decide)).trans ((tm_uk (by decide)).trans ((tm_uk (by decide)).trans ((tm_uk (by decide)).trans ((tm_uk (by decide)).trans ((congrFun (tm_pd_f (by decide)) _).trans ((congrFun (tm_rn_o (by omega)) _).trans (by rw [hpe]; rfl)))))))]; omega)) cv_X5_78 rfl rfl (by decide) rfl (Nat.le_of_ble_eq_true rfl) rfl dX5_play_233 (tm_ki ?_)
                rintro z9 _ ⟨hz9, rfl⟩
                rw [show (tm_up (tm_up (tm_up (tm_up (tm_up (tm_pd (tm_rn μ p 49 h) 50 ((h : Int) + 1) (sm_z p (h + 1)) (sm_w p (h + 1)) (sm_s p (h + 1))) 53 h (p 4 (sm_q p h))) 54 h 1) 49 7 ((sm_i p h) + 1)) 51 h (sm_z p (h + 1))) 52 h a) 50 2 = sm_w p (h + 1) from (tm_uk (by decide)).trans ((tm_uk (by decide)).trans ((tm_uk (by decide)).trans ((tm_uk (by decide)).trans ((tm_uk (by decide)).trans (tm_pd_2))))), show (tm_up (tm_up (tm_up (tm_up (tm_up (tm_pd (tm_rn μ p 49 h) 50 ((h : Int) + 1) (sm_z p (h + 1)) (sm_w p (h + 1)) (sm_s p (h + 1))) 53 h (p 4 (sm_q p h))) 54 h 1) 49 7 ((sm_i p h) + 1)) 51 h (sm_z p (h + 1))) 52 h a) 44 4 = p 0 4 from (tm_uk (by decide)).trans ((tm_uk (by decide)).trans ((tm_uk (by decide)).trans ((tm_uk (by decide)).trans ((tm_uk (by decide)).trans ((congrFun (tm_pd_f (by decide)) _).trans ((congrFun (tm_rn_o (by omega)) _).trans (by rw [hpe]; rfl)))))))] at hz9
                subst hz9
                refine tv_iast (pc := 236) (j := h) C rfl dX5_play_236 (by omega) (by omega) ?_
                refine tv_iinc (pc := 237) 2 [(5, tm_i (x + 1)), (7, tm_i 0), (6, tm_i (p 4 (sm_q p h))), (4, tm_i a), (3, tm_i b), (2, tm_i c), (0, .ref (E.2.1 49)), (1, .ref (E.2.1 43))] C dX5_play_237 rfl (by decide) rfl ?_
                refine tv_goto (pc := 240) 31 C dX5_play_240 (by decide) ?_
                refine tv_sub (lv1 := [(5, tm_i (x + 1)), (4, tm_i a), (3, tm_i b), (2, tm_i c), (0, .ref (E.2.1 49)), (1, .ref (E.2.1 43))]) [0, 3, 4, 5, 6, 7] rfl ?_
                have hN : ¬ sm_N p h = true := fun q => by have q2 := (sm_N_iff p h).mp q; omega
                have e4 : a = sm_t p (h + 1) := by rw [sm_t_s]; omega
                have e3 : b = sm_o p (h + 1) := by rw [sm_o_s, if_neg hN]; omega
                have e2 : c = (sm_q p (h + 1) : Int) := by rw [sm_q_s, if_neg hN]; omega
                have v39 : p 4 (sm_q p h) = sm_a p h := by unfold sm_a; first | (rw [if_pos (by omega)]; done) | (rw [if_neg (by omega), hff]; done)
                have v40 : 1 = sm_d p h := by unfold sm_d; first | (rw [if_pos (by omega)]; done) | (rw [if_neg (by omega), if_pos (by omega)]; done) | (rw [if_neg (by omega), if_neg (by omega)]; omega)
                have v35 : (sm_i p h) + 1 = sm_i p (h + 1) := by rw [sm_i_s]; first | (rw [if_pos (by omega)]; done) | (rw [if_neg (by omega), if_pos (by omega)]; done) | (rw [if_neg (by omega), if_neg (by omega)]; omega)
                refine tv_mem (tm_rn μ p 49 (h + 1)) (tm_rn_s (fun b => (tm_uk (by decide)).trans ((tm_uk (by decide)).trans ((tm_uk (by decide)).trans ((tm_ua b).trans (tm_obj_s (fun b => (tm_uk (by decide)).trans ((tm_uk (by decide)).trans ((congrFun (tm_pd_f (by decide)) b).trans (tm_rn_i0 b)))) v35 b))))) (fun b => (tm_uk (by decide)).trans ((tm_uk (by decide)).trans ((tm_uk (by decide)).trans ((tm_uk (by decide)).trans ((tm_uk (by decide)).trans ((tm_uk (by decide)).trans (tm_rn_pd b))))))) (fun b => (tm_uk (by decide)).trans ((tm_uk (by decide)).trans ((tm_ua b).trans (tm_row_s (fun b => (tm_uk (by decide)).trans ((tm_uk (by decide)).trans ((tm_uk (by decide)).trans ((congrFun (tm_pd_f (by decide)) b).trans (tm_rn_2 b))))) rfl b)))) (fun b => (tm_uk (by decide)).trans ((tm_ua b).trans (tm_row_s (fun b => (tm_uk (by decide)).trans ((tm_uk (by decide)).trans ((tm_uk (by decide)).trans ((tm_uk (by decide)).trans ((congrFun (tm_pd_f (by decide)) b).trans (tm_rn_3 b)))))) e4 b))) (fun b => (tm_uk (by decide)).trans ((tm_uk (by decide)).trans ((tm_uk (by decide)).trans ((tm_uk (by decide)).trans ((tm_uk (by decide)).trans ((tm_ua b).trans (tm_row_s (fun b => (congrFun (tm_pd_f (by decide)) b).trans (tm_rn_4 b)) v39 b))))))) (fun b => (tm_uk (by decide)).trans ((tm_uk (by decide)).trans ((tm_uk (by decide)).trans ((tm_uk (by decide)).trans ((tm_ua b).trans (tm_row_s (fun b => (tm_uk (by decide)).trans ((congrFun (tm_pd_f (by decide)) b).trans (tm_rn_5 b))) v40 b)))))) (fun b => (tm_ua b).trans (tm_row_s (fun b => (tm_uk (by decide)).trans ((tm_uk (by decide)).trans ((tm_uk (by decide)).trans ((tm_uk (by decide)).trans ((tm_uk (by decide)).trans ((congrFun (tm_pd_f (by decide)) b).trans (tm_rn_6 b))))))) rfl b)) (tm_end_n (fun b => (tm_uk (by decide)).trans ((tm_uk (by decide)).trans ((tm_uk (by decide)).trans ((tm_uk (by decide)).trans ((tm_uk (by decide)).trans ((tm_uk (by decide)).trans ((congrFun (tm_pd_f (by decide)) b).trans (tm_rn_7 b)))))))) hN) (fun a ha => by rw [tm_uf (show a ≠ 55 by omega), tm_uf (show a ≠ 52 by omega), tm_uf (show a ≠ 51 by omega), tm_uf (show a ≠ 49 by omega), tm_uf (show a ≠ 54 by omega), tm_uf (show a ≠ 53 by omega), tm_pd_f (by omega), tm_rn_o ha])) ?_
                exact ih (h + 1) _ _ _ _ (by omega) e4 e3 e2 (by omega) (by omega)
            · skip
              refine tv_iconst (pc := 148) C dX5_play_148 ?_
              refine tv_goto (pc := 149) 154 C dX5_play_149 (by decide) ?_
              refine tv_iast (pc := 154) (j := h) C rfl dX5_play_154 (by omega) (by omega) ?_
              refine tv_aload_n (pc := 155) 6 C dX5_play_155 rfl rfl ?_
              refine tv_getr (pc := 156) (q := 54) C rfl rfl fl_X5_28 dX5_play_156 ?_
              refine tv_iload (pc := 159) 2 C dX5_play_159 rfl ?_
              refine tv_aload_n (pc := 161) 6 C dX5_play_161 rfl rfl ?_
              refine tv_getr (pc := 162) (q := 53) C rfl rfl fl_X5_25 dX5_play_162 ?_
              refine tv_iload (pc := 165) 2 C dX5_play_165 rfl ?_
              refine tv_iald (pc := 167) (j := h) (z := -1) C rfl dX5_play_167 (by omega) (by omega) tm_us ?_
              refine tv_iconst (pc := 168) C dX5_play_168 ?_
              refine tv_icmp_eq (pc := 169) 181 C dX5_play_169 (by decide) (by omega) (by omega) (fun _ => ?_) (fun q => absurd q (by decide))
              refine tv_iconst (pc := 181) C dX5_play_181 ?_
              refine tv_iast (pc := 182) (j := h) C rfl dX5_play_182 (by omega) (by omega) ?_
              refine tv_aload_n (pc := 183) 6 C dX5_play_183 rfl rfl ?_
              refine tv_dup (pc := 184) C dX5_play_184 rfl ?_
              refine tv_geti (pc := 185) (z := sm_i p h) C rfl rfl fl_X5_43 dX5_play_185 ((tm_uk (by decide)).trans ((tm_uk (by decide)).trans ((congrFun (tm_pd_f (by decide)) _).trans tm_rn_i))) ?_
              refine tv_aload_n (pc := 188) 6 C dX5_play_188 rfl rfl ?_
              refine tv_getr (pc := 189) (q := 54) C rfl rfl fl_X5_28 dX5_play_189 ?_
              refine tv_iload (pc := 192) 2 C dX5_play_192 rfl ?_
              refine tv_iald (pc := 194) (j := h) (z := 0) C rfl dX5_play_194 (by omega) (by omega) tm_us ?_
              refine tv_iadd (pc := 195) C dX5_play_195 ?_
              refine tv_puti (pc := 196) C rfl rfl fp_X5_43 dX5_play_196 ?_
              refine tv_aload_n (pc := 199) 6 C dX5_play_199 rfl rfl ?_
              refine tv_getr (pc := 200) (q := 51) C rfl rfl fl_X5_18 dX5_play_200 ?_
              refine tv_iload (pc := 203) 2 C dX5_play_203 rfl ?_
              refine tv_aload_n (pc := 205) 6 C dX5_play_205 rfl rfl ?_
              refine tv_getr (pc := 206) (q := 50) C rfl rfl fl_X5_12 dX5_play_206 ?_
              refine tv_geti (pc := 209) (z := sm_z p (h + 1)) C rfl rfl fl_X5_76 dX5_play_209 ((tm_uk (by decide)).trans ((tm_uk (by decide)).trans ((tm_uk (by decide)).trans (tm_pd_1)))) ?_
              refine tv_iast (pc := 212) (j := h) C rfl dX5_play_212 (by omega) (by omega) ?_
              refine tv_aload_n (pc := 213) 6 C dX5_play_213 rfl rfl ?_
              refine tv_getr (pc := 214) (q := 52) C rfl rfl fl_X5_22 dX5_play_214 ?_
              refine tv_iload (pc := 217) 2 C dX5_play_217 rfl ?_
              refine tv_iload (pc := 219) 3 C dX5_play_219 rfl ?_
              refine tv_iast (pc := 221) (j := h) C rfl dX5_play_221 (by omega) (by omega) ?_
              refine tv_aload_n (pc := 222) 6 C dX5_play_222 rfl rfl ?_
              refine tv_getr (pc := 223) (q := 55) C rfl rfl fl_X5_31 dX5_play_223 ?_
              refine tv_iload (pc := 226) 2 C dX5_play_226 rfl ?_
              refine tv_aload_n (pc := 228) 6 C dX5_play_228 rfl rfl ?_
              refine tv_getr (pc := 229) (q := 50) C rfl rfl fl_X5_12 dX5_play_229 ?_
              refine tv_aload_n (pc := 232) 7 C dX5_play_232 rfl rfl ?_
              refine tv_callV (pc := 233) [.ref (E.2.1 43)] [tm_i x, .ref (E.2.1 55)] C (c4_dull_b E _ (tm_up (tm_up (tm_up (tm_up (tm_up (tm_pd (tm_rn μ p 49 h) 50 ((h : Int) + 1) (sm_z p (h + 1)) (sm_w p (h + 1)) (sm_s p (h + 1))) 53 h (-1)) 54 h 0) 49 7 ((sm_i p h) + 0)) 51 h (sm_z p (h + 1))) 52 h a) 50 (rfl) rfl (by rw [show (tm_up (tm_up (tm_up (tm_up (tm_up (tm_pd (tm_rn μ p 49 h) 50 ((h : Int) + 1) (sm_z p (h + 1)) (sm_w p (h + 1)) (sm_s p (h + 1))) 53 h (-1)) 54 h 0) 49 7 ((sm_i p h) + 0)) 51 h (sm_z p (h + 1))) 52 h a) 50 2 = sm_w p (h + 1) from (tm_uk (by decide)).trans ((tm_uk (by decide)).trans ((tm_uk (by decide)).trans ((tm_uk (by decide)).trans ((tm_uk (by decide)).trans (tm_pd_2)))))]; omega) (by rw [show (tm_up (tm_up (tm_up (tm_up (tm_up (tm_pd (tm_rn μ p 49 h) 50 ((h : Int) + 1) (sm_z p (h + 1)) (sm_w p (h + 1)) (sm_s p (h + 1))) 53 h (-1)) 54 h 0) 49 7 ((sm_i p h) + 0)) 51 h (sm_z p (h + 1))) 52 h a) 44 4 = p 0 4 from (tm_uk (by decide)).trans ((tm_uk (by decide)).trans ((tm_uk (by decide)).trans ((tm_uk (by decide)).trans ((tm_uk (by decide)).trans ((congrFun (tm_pd_f (by decide)) _).trans ((congrFun (tm_rn_o (by omega)) _).trans (by rw [hpe]; rfl)))))))]; omega)) cv_X5_78 rfl rfl (by decide) rfl (Nat.le_of_ble_eq_true rfl) rfl dX5_play_233 (tm_ki ?_)
              rintro z9 _ ⟨hz9, rfl⟩
              rw [show (tm_up (tm_up (tm_up (tm_up (tm_up (tm_pd (tm_rn μ p 49 h) 50 ((h : Int) + 1) (sm_z p (h + 1)) (sm_w p (h + 1)) (sm_s p (h + 1))) 53 h (-1)) 54 h 0) 49 7 ((sm_i p h) + 0)) 51 h (sm_z p (h + 1))) 52 h a) 50 2 = sm_w p (h + 1) from (tm_uk (by decide)).trans ((tm_uk (by decide)).trans ((tm_uk (by decide)).trans ((tm_uk (by decide)).trans ((tm_uk (by decide)).trans (tm_pd_2))))), show (tm_up (tm_up (tm_up (tm_up (tm_up (tm_pd (tm_rn μ p 49 h) 50 ((h : Int) + 1) (sm_z p (h + 1)) (sm_w p (h + 1)) (sm_s p (h + 1))) 53 h (-1)) 54 h 0) 49 7 ((sm_i p h) + 0)) 51 h (sm_z p (h + 1))) 52 h a) 44 4 = p 0 4 from (tm_uk (by decide)).trans ((tm_uk (by decide)).trans ((tm_uk (by decide)).trans ((tm_uk (by decide)).trans ((tm_uk (by decide)).trans ((congrFun (tm_pd_f (by decide)) _).trans ((congrFun (tm_rn_o (by omega)) _).trans (by rw [hpe]; rfl)))))))] at hz9
              subst hz9
              refine tv_iast (pc := 236) (j := h) C rfl dX5_play_236 (by omega) (by omega) ?_
              refine tv_iinc (pc := 237) 2 [(5, tm_i (x + 1)), (7, tm_i 0), (6, tm_i (p 4 (sm_q p h))), (4, tm_i a), (3, tm_i b), (2, tm_i c), (0, .ref (E.2.1 49)), (1, .ref (E.2.1 43))] C dX5_play_237 rfl (by decide) rfl ?_
              refine tv_goto (pc := 240) 31 C dX5_play_240 (by decide) ?_
              refine tv_sub (lv1 := [(5, tm_i (x + 1)), (4, tm_i a), (3, tm_i b), (2, tm_i c), (0, .ref (E.2.1 49)), (1, .ref (E.2.1 43))]) [0, 3, 4, 5, 6, 7] rfl ?_
              have hN : ¬ sm_N p h = true := fun q => by have q2 := (sm_N_iff p h).mp q; omega
              have e4 : a = sm_t p (h + 1) := by rw [sm_t_s]; omega
              have e3 : b = sm_o p (h + 1) := by rw [sm_o_s, if_neg hN]; omega
              have e2 : c = (sm_q p (h + 1) : Int) := by rw [sm_q_s, if_neg hN]; omega
              have v39 : -1 = sm_a p h := by unfold sm_a; first | (rw [if_pos (by omega)]; done) | (rw [if_neg (by omega), hff]; done)
              have v40 : 0 = sm_d p h := by unfold sm_d; first | (rw [if_pos (by omega)]; done) | (rw [if_neg (by omega), if_pos (by omega)]; done) | (rw [if_neg (by omega), if_neg (by omega)]; omega)
              have v35 : (sm_i p h) + 0 = sm_i p (h + 1) := by rw [sm_i_s]; first | (rw [if_pos (by omega)]; done) | (rw [if_neg (by omega), if_pos (by omega)]; done) | (rw [if_neg (by omega), if_neg (by omega)]; omega)
              refine tv_mem (tm_rn μ p 49 (h + 1)) (tm_rn_s (fun b => (tm_uk (by decide)).trans ((tm_uk (by decide)).trans ((tm_uk (by decide)).trans ((tm_ua b).trans (tm_obj_s (fun b => (tm_uk (by decide)).trans ((tm_uk (by decide)).trans ((congrFun (tm_pd_f (by decide)) b).trans (tm_rn_i0 b)))) v35 b))))) (fun b => (tm_uk (by decide)).trans ((tm_uk (by decide)).trans ((tm_uk (by decide)).trans ((tm_uk (by decide)).trans ((tm_uk (by decide)).trans ((tm_uk (by decide)).trans (tm_rn_pd b))))))) (fun b => (tm_uk (by decide)).trans ((tm_uk (by decide)).trans ((tm_ua b).trans (tm_row_s (fun b => (tm_uk (by decide)).trans ((tm_uk (by decide)).trans ((tm_uk (by decide)).trans ((congrFun (tm_pd_f (by decide)) b).trans (tm_rn_2 b))))) rfl b)))) (fun b => (tm_uk (by decide)).trans ((tm_ua b).trans (tm_row_s (fun b => (tm_uk (by decide)).trans ((tm_uk (by decide)).trans ((tm_uk (by decide)).trans ((tm_uk (by decide)).trans ((congrFun (tm_pd_f (by decide)) b).trans (tm_rn_3 b)))))) e4 b))) (fun b => (tm_uk (by decide)).trans ((tm_uk (by decide)).trans ((tm_uk (by decide)).trans ((tm_uk (by decide)).trans ((tm_uk (by decide)).trans ((tm_ua b).trans (tm_row_s (fun b => (congrFun (tm_pd_f (by decide)) b).trans (tm_rn_4 b)) v39 b))))))) (fun b => (tm_uk (by decide)).trans ((tm_uk (by decide)).trans ((tm_uk (by decide)).trans ((tm_uk (by decide)).trans ((tm_ua b).trans (tm_row_s (fun b => (tm_uk (by decide)).trans ((congrFun (tm_pd_f (by decide)) b).trans (tm_rn_5 b))) v40 b)))))) (fun b => (tm_ua b).trans (tm_row_s (fun b => (tm_uk (by decide)).trans ((tm_uk (by decide)).trans ((tm_uk (by decide)).trans ((tm_uk (by decide)).trans ((tm_uk (by decide)).trans ((congrFun (tm_pd_f (by decide)) b).trans (tm_rn_6 b))))))) rfl b)) (tm_end_n (fun b => (tm_uk (by decide)).trans ((tm_uk (by decide)).trans ((tm_uk (by decide)).trans ((tm_uk (by decide)).trans ((tm_uk (by decide)).trans ((tm_uk (by decide)).trans ((congrFun (tm_pd_f (by decide)) b).trans (tm_rn_7 b)))))))) hN) (fun a ha => by rw [tm_uf (show a ≠ 55 by omega), tm_uf (show a ≠ 52 by omega), tm_uf (show a ≠ 51 by omega), tm_uf (show a ≠ 49 by omega), tm_uf (show a ≠ 54 by omega), tm_uf (show a ≠ 53 by omega), tm_pd_f (by omega), tm_rn_o ha])) ?_
              exact ih (h + 1) _ _ _ _ (by omega) e4 e3 e2 (by omega) (by omega)
          · skip
            refine tv_iload (pc := 88) 0 C dX5_play_88 rfl ?_
            refine tv_if_eq (pc := 90) 99 C dX5_play_90 (by decide) (by omega) (fun q => absurd q (by decide)) (fun _ => ?_)
            refine tv_iinc (pc := 93) 3 [(4, tm_i (a + 1)), (7, tm_i 1), (6, tm_i (p 4 (sm_q p h))), (5, tm_i x), (3, tm_i b), (2, tm_i c), (0, .ref (E.2.1 49)), (1, .ref (E.2.1 43))] C dX5_play_93 rfl (by decide) rfl ?_
            refine tv_iinc (pc := 96) 4 [(3, tm_i (b + 1)), (4, tm_i (a + 1)), (7, tm_i 1), (6, tm_i (p 4 (sm_q p h))), (5, tm_i x), (2, tm_i c), (0, .ref (E.2.1 49)), (1, .ref (E.2.1 43))] C dX5_play_96 rfl (by decide) rfl ?_
            refine tv_iload (pc := 99) 2 C dX5_play_99 rfl ?_
            refine tv_if_eq (pc := 101) 132 C dX5_play_101 (by decide) (by omega) (fun q => absurd q (by decide)) (fun _ => ?_)
            refine tv_iload_n (pc := 104) 0 C dX5_play_104 rfl rfl ?_
            refine tv_aload_n (pc := 105) 7 C dX5_play_105 rfl rfl ?_
            refine tv_getr (pc := 106) (q := 23) C rfl rfl fl_X5_59 dX5_play_106 ?_
            refine tv_getr (pc := 109) (q := 25) C rfl rfl fl_X5_72 dX5_play_109 ?_
            refine tv_iload (pc := 112) 3 C dX5_play_112 rfl ?_
            refine tv_iald (pc := 114) (j := (p 4 (sm_q p h)).toNat) (z := p 7 ((p 4 (sm_q p h)).toNat)) C rfl dX5_play_114 (by omega) rfl ((congrFun (tm_pd_f (by decide)) _).trans ((congrFun (tm_rn_o (by omega)) _).trans (by rw [hpe]; rfl))) ?_
            refine tv_icmp_ne (pc := 115) 132 C dX5_play_115 (by decide) (by omega) (by omega) (fun h115 => ?_) (fun h115 => ?_)
            · skip
              refine tv_aload_n (pc := 132) 6 C dX5_play_132 rfl rfl ?_
              refine tv_getr (pc := 133) (q := 53) C rfl rfl fl_X5_25 dX5_play_133 ?_
              refine tv_iload (pc := 136) 4 C dX5_play_136 rfl ?_
              refine tv_aload_n (pc := 138) 7 C dX5_play_138 rfl rfl ?_
              refine tv_getr (pc := 139) (q := 47) C rfl rfl fl_X5_73 dX5_play_139 ?_
              refine tv_iload (pc := 142) 4 C dX5_play_142 rfl ?_
              refine tv_iald (pc := 144) (j := h) (z := p 3 h) C rfl dX5_play_144 (by omega) (by omega) ((congrFun (tm_pd_f (by decide)) _).trans ((congrFun (tm_rn_o (by omega)) _).trans (by rw [hpe]; rfl))) ?_
              refine tv_if_le (pc := 145) 152 C dX5_play_145 (by decide) (by omega) (fun h145 => ?_) (fun h145 => ?_)
              · skip
                refine tv_iload (pc := 152) 3 C dX5_play_152 rfl ?_
                refine tv_iast (pc := 154) (j := h) C rfl dX5_play_154 (by omega) (by omega) ?_
                refine tv_aload_n (pc := 155) 6 C dX5_play_155 rfl rfl ?_
                refine tv_getr (pc := 156) (q := 54) C rfl rfl fl_X5_28 dX5_play_156 ?_
                refine tv_iload (pc := 159) 4 C dX5_play_159 rfl ?_
                refine tv_aload_n (pc := 161) 6 C dX5_play_161 rfl rfl ?_
                refine tv_getr (pc := 162) (q := 53) C rfl rfl fl_X5_25 dX5_play_162 ?_
                refine tv_iload (pc := 165) 4 C dX5_play_165 rfl ?_
                refine tv_iald (pc := 167) (j := h) (z := p 4 (sm_q p h)) C rfl dX5_play_167 (by omega) (by omega) tm_us ?_
                refine tv_iconst (pc := 168) C dX5_play_168 ?_
                refine tv_icmp_eq (pc := 169) 181 C dX5_play_169 (by decide) (by omega) (by omega) (fun h169 => ?_) (fun h169 => ?_)
                · skip
                  exfalso; omega
                · skip
                  refine tv_iload (pc := 172) 2 C dX5_play_172 rfl ?_
                  refine tv_if_ne (pc := 174) 181 C dX5_play_174 (by decide) (by omega) (fun _ => ?_) (fun q => absurd q (by decide))
                  refine tv_iconst (pc := 181) C dX5_play_181 ?_
                  refine tv_iast (pc := 182) (j := h) C rfl dX5_play_182 (by omega) (by omega) ?_
                  refine tv_aload_n (pc := 183) 6 C dX5_play_183 rfl rfl ?_
                  refine tv_dup (pc := 184) C dX5_play_184 rfl ?_
                  refine tv_geti (pc := 185) (z := sm_i p h) C rfl rfl fl_X5_43 dX5_play_185 ((tm_uk (by decide)).trans ((tm_uk (by decide)).trans ((congrFun (tm_pd_f (by decide)) _).trans tm_rn_i))) ?_
                  refine tv_aload_n (pc := 188) 6 C dX5_play_188 rfl rfl ?_
                  refine tv_getr (pc := 189) (q := 54) C rfl rfl fl_X5_28 dX5_play_189 ?_
                  refine tv_iload (pc := 192) 4 C dX5_play_192 rfl ?_
                  refine tv_iald (pc := 194) (j := h) (z := 0) C rfl dX5_play_194 (by omega) (by omega) tm_us ?_
                  refine tv_iadd (pc := 195) C dX5_play_195 ?_
                  refine tv_puti (pc := 196) C rfl rfl fp_X5_43 dX5_play_196 ?_
                  refine tv_aload_n (pc := 199) 6 C dX5_play_199 rfl rfl ?_
                  refine tv_getr (pc := 200) (q := 51) C rfl rfl fl_X5_18 dX5_play_200 ?_
                  refine tv_iload (pc := 203) 4 C dX5_play_203 rfl ?_
                  refine tv_aload_n (pc := 205) 6 C dX5_play_205 rfl rfl ?_
                  refine tv_getr (pc := 206) (q := 50) C rfl rfl fl_X5_12 dX5_play_206 ?_
                  refine tv_geti (pc := 209) (z := sm_z p (h + 1)) C rfl rfl fl_X5_76 dX5_play_209 ((tm_uk (by decide)).trans ((tm_uk (by decide)).trans ((tm_uk (by decide)).trans (tm_pd_1)))) ?_
                  refine tv_iast (pc := 212) (j := h) C rfl dX5_play_212 (by omega) (by omega) ?_
                  refine tv_aload_n (pc := 213) 6 C dX5_play_213 rfl rfl ?_
                  refine tv_getr (pc := 214) (q := 52) C rfl rfl fl_X5_22 dX5_play_214 ?_
                  refine tv_iload (pc := 217) 4 C dX5_play_217 rfl ?_
                  refine tv_iload (pc := 219) 1 C dX5_play_219 rfl ?_
                  refine tv_iast (pc := 221) (j := h) C rfl dX5_play_221 (by omega) (by omega) ?_
                  refine tv_aload_n (pc := 222) 6 C dX5_play_222 rfl rfl ?_
                  refine tv_getr (pc := 223) (q := 55) C rfl rfl fl_X5_31 dX5_play_223 ?_
                  refine tv_iload (pc := 226) 4 C dX5_play_226 rfl ?_
                  refine tv_aload_n (pc := 228) 6 C dX5_play_228 rfl rfl ?_
                  refine tv_getr (pc := 229) (q := 50) C rfl rfl fl_X5_12 dX5_play_229 ?_
                  refine tv_aload_n (pc := 232) 7 C dX5_play_232 rfl rfl ?_
                  refine tv_callV (pc := 233) [.ref (E.2.1 43)] [tm_i x, .ref (E.2.1 55)] C (c4_dull_b E _ (tm_up (tm_up (tm_up (tm_up (tm_up (tm_pd (tm_rn μ p 49 h) 50 ((h : Int) + 1) (sm_z p (h + 1)) (sm_w p (h + 1)) (sm_s p (h + 1))) 53 h (p 4 (sm_q p h))) 54 h 0) 49 7 ((sm_i p h) + 0)) 51 h (sm_z p (h + 1))) 52 h (a + 1)) 50 (rfl) rfl (by rw [show (tm_up (tm_up (tm_up (tm_up (tm_up (tm_pd (tm_rn μ p 49 h) 50 ((h : Int) + 1) (sm_z p (h + 1)) (sm_w p (h + 1)) (sm_s p (h + 1))) 53 h (p 4 (sm_q p h))) 54 h 0) 49 7 ((sm_i p h) + 0)) 51 h (sm_z p (h + 1))) 52 h (a + 1)) 50 2 = sm_w p (h + 1) from (tm_uk (by decide)).trans ((tm_uk (by decide)).trans ((tm_uk (by decide)).trans ((tm_uk (by decide)).trans ((tm_uk (by decide)).trans (tm_pd_2)))))]; omega) (by rw [show (tm_up (tm_up (tm_up (tm_up (tm_up (tm_pd (tm_rn μ p 49 h) 50 ((h : Int) + 1) (sm_z p (h + 1)) (sm_w p (h + 1)) (sm_s p (h + 1))) 53 h (p 4 (sm_q p h))) 54 h 0) 49 7 ((sm_i p h) + 0)) 51 h (sm_z p (h + 1))) 52 h (a + 1)) 44 4 = p 0 4 from (tm_uk (by decide)).trans ((tm_uk (by decide)).trans ((tm_uk (by decide)).trans ((tm_uk (by decide)).trans ((tm_uk (by decide)).trans ((congrFun (tm_pd_f (by decide)) _).trans ((congrFun (tm_rn_o (by omega)) _).trans (by rw [hpe]; rfl)))))))]; omega)) cv_X5_78 rfl rfl (by decide) rfl (Nat.le_of_ble_eq_true rfl) rfl dX5_play_233 (tm_ki ?_)
                  rintro z9 _ ⟨hz9, rfl⟩
                  rw [show (tm_up (tm_up (tm_up (tm_up (tm_up (tm_pd (tm_rn μ p 49 h) 50 ((h : Int) + 1) (sm_z p (h + 1)) (sm_w p (h + 1)) (sm_s p (h + 1))) 53 h (p 4 (sm_q p h))) 54 h 0) 49 7 ((sm_i p h) + 0)) 51 h (sm_z p (h + 1))) 52 h (a + 1)) 50 2 = sm_w p (h + 1) from (tm_uk (by decide)).trans ((tm_uk (by decide)).trans ((tm_uk (by decide)).trans ((tm_uk (by decide)).trans ((tm_uk (by decide)).trans (tm_pd_2))))), show (tm_up (tm_up (tm_up (tm_up (tm_up (tm_pd (tm_rn μ p 49 h) 50 ((h : Int) + 1) (sm_z p (h + 1)) (sm_w p (h + 1)) (sm_s p (h + 1))) 53 h (p 4 (sm_q p h))) 54 h 0) 49 7 ((sm_i p h) + 0)) 51 h (sm_z p (h + 1))) 52 h (a + 1)) 44 4 = p 0 4 from (tm_uk (by decide)).trans ((tm_uk (by decide)).trans ((tm_uk (by decide)).trans ((tm_uk (by decide)).trans ((tm_uk (by decide)).trans ((congrFun (tm_pd_f (by decide)) _).trans ((congrFun (tm_rn_o (by omega)) _).trans (by rw [hpe]; rfl)))))))] at hz9
                  subst hz9
                  refine tv_iast (pc := 236) (j := h) C rfl dX5_play_236 (by omega) (by omega) ?_
                  refine tv_iinc (pc := 237) 4 [(5, tm_i (x + 1)), (3, tm_i (b + 1)), (4, tm_i (a + 1)), (7, tm_i 1), (6, tm_i (p 4 (sm_q p h))), (2, tm_i c), (0, .ref (E.2.1 49)), (1, .ref (E.2.1 43))] C dX5_play_237 rfl (by decide) rfl ?_
                  refine tv_goto (pc := 240) 31 C dX5_play_240 (by decide) ?_
                  refine tv_sub (lv1 := [(5, tm_i (x + 1)), (4, tm_i (a + 1)), (3, tm_i (b + 1)), (2, tm_i c), (0, .ref (E.2.1 49)), (1, .ref (E.2.1 43))]) [0, 2, 1, 5, 6, 7] rfl ?_
                  have hN : ¬ sm_N p h = true := fun q => by have q2 := (sm_N_iff p h).mp q; rw [hff] at q2; omega
                  have e4 : a + 1 = sm_t p (h + 1) := by rw [sm_t_s]; omega
                  have e3 : b + 1 = sm_o p (h + 1) := by rw [sm_o_s, if_neg hN]; omega
                  have e2 : c = (sm_q p (h + 1) : Int) := by rw [sm_q_s, if_neg hN]; omega
                  have v39 : p 4 (sm_q p h) = sm_a p h := by unfold sm_a; first | (rw [if_pos (by omega)]; done) | (rw [if_neg (by omega), hff]; done)
                  have v40 : 0 = sm_d p h := by unfold sm_d; first | (rw [if_pos (by omega)]; done) | (rw [if_neg (by omega), if_pos (by omega)]; done) | (rw [if_neg (by omega), if_neg (by omega)]; omega)
                  have v35 : (sm_i p h) + 0 = sm_i p (h + 1) := by rw [sm_i_s]; first | (rw [if_pos (by omega)]; done) | (rw [if_neg (by omega), if_pos (by omega)]; done) | (rw [if_neg (by omega), if_neg (by omega)]; omega)
                  refine tv_mem (tm_rn μ p 49 (h + 1)) (tm_rn_s (fun b => (tm_uk (by decide)).trans ((tm_uk (by decide)).trans ((tm_uk (by decide)).trans ((tm_ua b).trans (tm_obj_s (fun b => (tm_uk (by decide)).trans ((tm_uk (by decide)).trans ((congrFun (tm_pd_f (by decide)) b).trans (tm_rn_i0 b)))) v35 b))))) (fun b => (tm_uk (by decide)).trans ((tm_uk (by decide)).trans ((tm_uk (by decide)).trans ((tm_uk (by decide)).trans ((tm_uk (by decide)).trans ((tm_uk (by decide)).trans (tm_rn_pd b))))))) (fun b => (tm_uk (by decide)).trans ((tm_uk (by decide)).trans ((tm_ua b).trans (tm_row_s (fun b => (tm_uk (by decide)).trans ((tm_uk (by decide)).trans ((tm_uk (by decide)).trans ((congrFun (tm_pd_f (by decide)) b).trans (tm_rn_2 b))))) rfl b)))) (fun b => (tm_uk (by decide)).trans ((tm_ua b).trans (tm_row_s (fun b => (tm_uk (by decide)).trans ((tm_uk (by decide)).trans ((tm_uk (by decide)).trans ((tm_uk (by decide)).trans ((congrFun (tm_pd_f (by decide)) b).trans (tm_rn_3 b)))))) e4 b))) (fun b => (tm_uk (by decide)).trans ((tm_uk (by decide)).trans ((tm_uk (by decide)).trans ((tm_uk (by decide)).trans ((tm_uk (by decide)).trans ((tm_ua b).trans (tm_row_s (fun b => (congrFun (tm_pd_f (by decide)) b).trans (tm_rn_4 b)) v39 b))))))) (fun b => (tm_uk (by decide)).trans ((tm_uk (by decide)).trans ((tm_uk (by decide)).trans ((tm_uk (by decide)).trans ((tm_ua b).trans (tm_row_s (fun b => (tm_uk (by decide)).trans ((congrFun (tm_pd_f (by decide)) b).trans (tm_rn_5 b))) v40 b)))))) (fun b => (tm_ua b).trans (tm_row_s (fun b => (tm_uk (by decide)).trans ((tm_uk (by decide)).trans ((tm_uk (by decide)).trans ((tm_uk (by decide)).trans ((tm_uk (by decide)).trans ((congrFun (tm_pd_f (by decide)) b).trans (tm_rn_6 b))))))) rfl b)) (tm_end_n (fun b => (tm_uk (by decide)).trans ((tm_uk (by decide)).trans ((tm_uk (by decide)).trans ((tm_uk (by decide)).trans ((tm_uk (by decide)).trans ((tm_uk (by decide)).trans ((congrFun (tm_pd_f (by decide)) b).trans (tm_rn_7 b)))))))) hN) (fun a ha => by rw [tm_uf (show a ≠ 55 by omega), tm_uf (show a ≠ 52 by omega), tm_uf (show a ≠ 51 by omega), tm_uf (show a ≠ 49 by omega), tm_uf (show a ≠ 54 by omega), tm_uf (show a ≠ 53 by omega), tm_pd_f (by omega), tm_rn_o ha])) ?_
                  exact ih (h + 1) _ _ _ _ (by omega) e4 e3 e2 (by omega) (by omega)
              · skip
                exfalso
                have q2 := (sm_G_1 hp hz.symm).1
                omega
            · skip
              refine tv_aload_n (pc := 118) 6 C dX5_play_118 rfl rfl ?_
              refine tv_getr (pc := 119) (q := 56) C rfl rfl fl_X5_34 dX5_play_119 ?_
              refine tv_iload (pc := 122) 3 C dX5_play_122 rfl ?_
              refine tv_iload (pc := 124) 4 C dX5_play_124 rfl ?_
              refine tv_iast (pc := 126) (j := (p 4 (sm_q p h)).toNat) C rfl dX5_play_126 (by omega) rfl ?_
              refine tv_iinc (pc := 127) 5 [(2, tm_i (c + 1)), (3, tm_i (b + 1)), (4, tm_i (a + 1)), (7, tm_i 1), (6, tm_i (p 4 (sm_q p h))), (5, tm_i x), (0, .ref (E.2.1 49)), (1, .ref (E.2.1 43))] C dX5_play_127 rfl (by decide) rfl ?_
              refine tv_iconst (pc := 130) C dX5_play_130 ?_
              refine tv_istore_n (pc := 131) [(3, tm_i 0), (2, tm_i (c + 1)), (4, tm_i (a + 1)), (7, tm_i 1), (6, tm_i (p 4 (sm_q p h))), (5, tm_i x), (0, .ref (E.2.1 49)), (1, .ref (E.2.1 43))] C dX5_play_131 rfl (by decide) rfl ?_
              refine tv_aload_n (pc := 132) 6 C dX5_play_132 rfl rfl ?_
              refine tv_getr (pc := 133) (q := 53) C rfl rfl fl_X5_25 dX5_play_133 ?_
              refine tv_iload (pc := 136) 5 C dX5_play_136 rfl ?_
              refine tv_aload_n (pc := 138) 7 C dX5_play_138 rfl rfl ?_
              refine tv_getr (pc := 139) (q := 47) C rfl rfl fl_X5_73 dX5_play_139 ?_
              refine tv_iload (pc := 142) 5 C dX5_play_142 rfl ?_
              refine tv_iald (pc := 144) (j := h) (z := p 3 h) C rfl dX5_play_144 (by omega) (by omega) ((tm_uk (by decide)).trans ((congrFun (tm_pd_f (by decide)) _).trans ((congrFun (tm_rn_o (by omega)) _).trans (by rw [hpe]; rfl)))) ?_
              refine tv_if_le (pc := 145) 152 C dX5_play_145 (by decide) (by omega) (fun h145 => ?_) (fun h145 => ?_)
              · skip
                refine tv_iload (pc := 152) 4 C dX5_play_152 rfl ?_
                refine tv_iast (pc := 154) (j := h) C rfl dX5_play_154 (by omega) (by omega) ?_
                refine tv_aload_n (pc := 155) 6 C dX5_play_155 rfl rfl ?_
                refine tv_getr (pc := 156) (q := 54) C rfl rfl fl_X5_28 dX5_play_156 ?_
                refine tv_iload (pc := 159) 5 C dX5_play_159 rfl ?_
                refine tv_aload_n (pc := 161) 6 C dX5_play_161 rfl rfl ?_
                refine tv_getr (pc := 162) (q := 53) C rfl rfl fl_X5_25 dX5_play_162 ?_
                refine tv_iload (pc := 165) 5 C dX5_play_165 rfl ?_
                refine tv_iald (pc := 167) (j := h) (z := p 4 (sm_q p h)) C rfl dX5_play_167 (by omega) (by omega) tm_us ?_
                refine tv_iconst (pc := 168) C dX5_play_168 ?_
                refine tv_icmp_eq (pc := 169) 181 C dX5_play_169 (by decide) (by omega) (by omega) (fun h169 => ?_) (fun h169 => ?_)
                · skip
                  exfalso; omega
                · skip
                  refine tv_iload (pc := 172) 3 C dX5_play_172 rfl ?_
                  refine tv_if_ne (pc := 174) 181 C dX5_play_174 (by decide) (by omega) (fun _ => ?_) (fun q => absurd q (by decide))
                  refine tv_iconst (pc := 181) C dX5_play_181 ?_
                  refine tv_iast (pc := 182) (j := h) C rfl dX5_play_182 (by omega) (by omega) ?_
                  refine tv_aload_n (pc := 183) 6 C dX5_play_183 rfl rfl ?_
                  refine tv_dup (pc := 184) C dX5_play_184 rfl ?_
                  refine tv_geti (pc := 185) (z := sm_i p h) C rfl rfl fl_X5_43 dX5_play_185 ((tm_uk (by decide)).trans ((tm_uk (by decide)).trans ((tm_uk (by decide)).trans ((congrFun (tm_pd_f (by decide)) _).trans tm_rn_i)))) ?_
                  refine tv_aload_n (pc := 188) 6 C dX5_play_188 rfl rfl ?_
                  refine tv_getr (pc := 189) (q := 54) C rfl rfl fl_X5_28 dX5_play_189 ?_
                  refine tv_iload (pc := 192) 5 C dX5_play_192 rfl ?_
                  refine tv_iald (pc := 194) (j := h) (z := 0) C rfl dX5_play_194 (by omega) (by omega) tm_us ?_
                  refine tv_iadd (pc := 195) C dX5_play_195 ?_
                  refine tv_puti (pc := 196) C rfl rfl fp_X5_43 dX5_play_196 ?_
                  refine tv_aload_n (pc := 199) 6 C dX5_play_199 rfl rfl ?_
                  refine tv_getr (pc := 200) (q := 51) C rfl rfl fl_X5_18 dX5_play_200 ?_
                  refine tv_iload (pc := 203) 5 C dX5_play_203 rfl ?_
                  refine tv_aload_n (pc := 205) 6 C dX5_play_205 rfl rfl ?_
                  refine tv_getr (pc := 206) (q := 50) C rfl rfl fl_X5_12 dX5_play_206 ?_
                  refine tv_geti (pc := 209) (z := sm_z p (h + 1)) C rfl rfl fl_X5_76 dX5_play_209 ((tm_uk (by decide)).trans ((tm_uk (by decide)).trans ((tm_uk (by decide)).trans ((tm_uk (by decide)).trans (tm_pd_1))))) ?_
                  refine tv_iast (pc := 212) (j := h) C rfl dX5_play_212 (by omega) (by omega) ?_
                  refine tv_aload_n (pc := 213) 6 C dX5_play_213 rfl rfl ?_
                  refine tv_getr (pc := 214) (q := 52) C rfl rfl fl_X5_22 dX5_play_214 ?_
                  refine tv_iload (pc := 217) 5 C dX5_play_217 rfl ?_
                  refine tv_iload (pc := 219) 2 C dX5_play_219 rfl ?_
                  refine tv_iast (pc := 221) (j := h) C rfl dX5_play_221 (by omega) (by omega) ?_
                  refine tv_aload_n (pc := 222) 6 C dX5_play_222 rfl rfl ?_
                  refine tv_getr (pc := 223) (q := 55) C rfl rfl fl_X5_31 dX5_play_223 ?_
                  refine tv_iload (pc := 226) 5 C dX5_play_226 rfl ?_
                  refine tv_aload_n (pc := 228) 6 C dX5_play_228 rfl rfl ?_
                  refine tv_getr (pc := 229) (q := 50) C rfl rfl fl_X5_12 dX5_play_229 ?_
                  refine tv_aload_n (pc := 232) 7 C dX5_play_232 rfl rfl ?_
                  refine tv_callV (pc := 233) [.ref (E.2.1 43)] [tm_i x, .ref (E.2.1 55)] C (c4_dull_b E _ (tm_up (tm_up (tm_up (tm_up (tm_up (tm_up (tm_pd (tm_rn μ p 49 h) 50 ((h : Int) + 1) (sm_z p (h + 1)) (sm_w p (h + 1)) (sm_s p (h + 1))) 56 ((p 4 (sm_q p h)).toNat) x) 53 h (p 4 (sm_q p h))) 54 h 0) 49 7 ((sm_i p h) + 0)) 51 h (sm_z p (h + 1))) 52 h (a + 1)) 50 (rfl) rfl (by rw [show (tm_up (tm_up (tm_up (tm_up (tm_up (tm_up (tm_pd (tm_rn μ p 49 h) 50 ((h : Int) + 1) (sm_z p (h + 1)) (sm_w p (h + 1)) (sm_s p (h + 1))) 56 ((p 4 (sm_q p h)).toNat) x) 53 h (p 4 (sm_q p h))) 54 h 0) 49 7 ((sm_i p h) + 0)) 51 h (sm_z p (h + 1))) 52 h (a + 1)) 50 2 = sm_w p (h + 1) from (tm_uk (by decide)).trans ((tm_uk (by decide)).trans ((tm_uk (by decide)).trans ((tm_uk (by decide)).trans ((tm_uk (by decide)).trans ((tm_uk (by decide)).trans (tm_pd_2))))))]; omega) (by rw [show (tm_up (tm_up (tm_up (tm_up (tm_up (tm_up (tm_pd (tm_rn μ p 49 h) 50 ((h : Int) + 1) (sm_z p (h + 1)) (sm_w p (h + 1)) (sm_s p (h + 1))) 56 ((p 4 (sm_q p h)).toNat) x) 53 h (p 4 (sm_q p h))) 54 h 0) 49 7 ((sm_i p h) + 0)) 51 h (sm_z p (h + 1))) 52 h (a + 1)) 44 4 = p 0 4 from (tm_uk (by decide)).trans ((tm_uk (by decide)).trans ((tm_uk (by decide)).trans ((tm_uk (by decide)).trans ((tm_uk (by decide)).trans ((tm_uk (by decide)).trans ((congrFun (tm_pd_f (by decide)) _).trans ((congrFun (tm_rn_o (by omega)) _).trans (by rw [hpe]; rfl))))))))]; omega)) cv_X5_78 rfl rfl (by decide) rfl (Nat.le_of_ble_eq_true rfl) rfl dX5_play_233 (tm_ki ?_)
                  rintro z9 _ ⟨hz9, rfl⟩
                  rw [show (tm_up (tm_up (tm_up (tm_up (tm_up (tm_up (tm_pd (tm_rn μ p 49 h) 50 ((h : Int) + 1) (sm_z p (h + 1)) (sm_w p (h + 1)) (sm_s p (h + 1))) 56 ((p 4 (sm_q p h)).toNat) x) 53 h (p 4 (sm_q p h))) 54 h 0) 49 7 ((sm_i p h) + 0)) 51 h (sm_z p (h + 1))) 52 h (a + 1)) 50 2 = sm_w p (h + 1) from (tm_uk (by decide)).trans ((tm_uk (by decide)).trans ((tm_uk (by decide)).trans ((tm_uk (by decide)).trans ((tm_uk (by decide)).trans ((tm_uk (by decide)).trans (tm_pd_2)))))), show (tm_up (tm_up (tm_up (tm_up (tm_up (tm_up (tm_pd (tm_rn μ p 49 h) 50 ((h : Int) + 1) (sm_z p (h + 1)) (sm_w p (h + 1)) (sm_s p (h + 1))) 56 ((p 4 (sm_q p h)).toNat) x) 53 h (p 4 (sm_q p h))) 54 h 0) 49 7 ((sm_i p h) + 0)) 51 h (sm_z p (h + 1))) 52 h (a + 1)) 44 4 = p 0 4 from (tm_uk (by decide)).trans ((tm_uk (by decide)).trans ((tm_uk (by decide)).trans ((tm_uk (by decide)).trans ((tm_uk (by decide)).trans ((tm_uk (by decide)).trans ((congrFun (tm_pd_f (by decide)) _).trans ((congrFun (tm_rn_o (by omega)) _).trans (by rw [hpe]; rfl))))))))] at hz9
                  subst hz9
                  refine tv_iast (pc := 236) (j := h) C rfl dX5_play_236 (by omega) (by omega) ?_
                  refine tv_iinc (pc := 237) 5 [(5, tm_i (x + 1)), (3, tm_i 0), (2, tm_i (c + 1)), (4, tm_i (a + 1)), (7, tm_i 1), (6, tm_i (p 4 (sm_q p h))), (0, .ref (E.2.1 49)), (1, .ref (E.2.1 43))] C dX5_play_237 rfl (by decide) rfl ?_
                  refine tv_goto (pc := 240) 31 C dX5_play_240 (by decide) ?_
                  refine tv_sub (lv1 := [(5, tm_i (x + 1)), (4, tm_i (a + 1)), (3, tm_i 0), (2, tm_i (c + 1)), (0, .ref (E.2.1 49)), (1, .ref (E.2.1 43))]) [0, 3, 1, 2, 6, 7] rfl ?_
                  have hN : sm_N p h = true := (sm_N_iff p h).mpr ⟨hz.symm, by rw [hff]; omega⟩
                  have e4 : a + 1 = sm_t p (h + 1) := by rw [sm_t_s]; omega
                  have e3 : 0 = sm_o p (h + 1) := by rw [sm_o_s, if_pos hN]
                  have e2 : c + 1 = (sm_q p (h + 1) : Int) := by rw [sm_q_s, if_pos hN]; omega
                  have v39 : p 4 (sm_q p h) = sm_a p h := by unfold sm_a; first | (rw [if_pos (by omega)]; done) | (rw [if_neg (by omega), hff]; done)
                  have v40 : 0 = sm_d p h := by unfold sm_d; first | (rw [if_pos (by omega)]; done) | (rw [if_neg (by omega), if_pos (by omega)]; done) | (rw [if_neg (by omega), if_neg (by omega)]; omega)
                  have v35 : (sm_i p h) + 0 = sm_i p (h + 1) := by rw [sm_i_s]; first | (rw [if_pos (by omega)]; done) | (rw [if_neg (by omega), if_pos (by omega)]; done) | (rw [if_neg (by omega), if_neg (by omega)]; omega)
                  refine tv_mem (tm_rn μ p 49 (h + 1)) (tm_rn_s (fun b => (tm_uk (by decide)).trans ((tm_uk (by decide)).trans ((tm_uk (by decide)).trans ((tm_ua b).trans (tm_obj_s (fun b => (tm_uk (by decide)).trans ((tm_uk (by decide)).trans ((tm_uk (by decide)).trans ((congrFun (tm_pd_f (by decide)) b).trans (tm_rn_i0 b))))) v35 b))))) (fun b => (tm_uk (by decide)).trans ((tm_uk (by decide)).trans ((tm_uk (by decide)).trans ((tm_uk (by decide)).trans ((tm_uk (by decide)).trans ((tm_uk (by decide)).trans ((tm_uk (by decide)).trans (tm_rn_pd b)))))))) (fun b => (tm_uk (by decide)).trans ((tm_uk (by decide)).trans ((tm_ua b).trans (tm_row_s (fun b => (tm_uk (by decide)).trans ((tm_uk (by decide)).trans ((tm_uk (by decide)).trans ((tm_uk (by decide)).trans ((congrFun (tm_pd_f (by decide)) b).trans (tm_rn_2 b)))))) rfl b)))) (fun b => (tm_uk (by decide)).trans ((tm_ua b).trans (tm_row_s (fun b => (tm_uk (by decide)).trans ((tm_uk (by decide)).trans ((tm_uk (by decide)).trans ((tm_uk (by decide)).trans ((tm_uk (by decide)).trans ((congrFun (tm_pd_f (by decide)) b).trans (tm_rn_3 b))))))) e4 b))) (fun b => (tm_uk (by decide)).trans ((tm_uk (by decide)).trans ((tm_uk (by decide)).trans ((tm_uk (by decide)).trans ((tm_uk (by decide)).trans ((tm_ua b).trans (tm_row_s (fun b => (tm_uk (by decide)).trans ((congrFun (tm_pd_f (by decide)) b).trans (tm_rn_4 b))) v39 b))))))) (fun b => (tm_uk (by decide)).trans ((tm_uk (by decide)).trans ((tm_uk (by decide)).trans ((tm_uk (by decide)).trans ((tm_ua b).trans (tm_row_s (fun b => (tm_uk (by decide)).trans ((tm_uk (by decide)).trans ((congrFun (tm_pd_f (by decide)) b).trans (tm_rn_5 b)))) v40 b)))))) (fun b => (tm_ua b).trans (tm_row_s (fun b => (tm_uk (by decide)).trans ((tm_uk (by decide)).trans ((tm_uk (by decide)).trans ((tm_uk (by decide)).trans ((tm_uk (by decide)).trans ((tm_uk (by decide)).trans ((congrFun (tm_pd_f (by decide)) b).trans (tm_rn_6 b)))))))) rfl b)) (fun b => (tm_uk (by decide)).trans ((tm_uk (by decide)).trans ((tm_uk (by decide)).trans ((tm_uk (by decide)).trans ((tm_uk (by decide)).trans ((tm_uk (by decide)).trans ((tm_ua b).trans (tm_end_s (fun b => (congrFun (tm_pd_f (by decide)) b).trans (tm_rn_7 b)) hN hx (by rw [hff]) (by omega) b)))))))) (fun a ha => by rw [tm_uf (show a ≠ 55 by omega), tm_uf (show a ≠ 52 by omega), tm_uf (show a ≠ 51 by omega), tm_uf (show a ≠ 49 by omega), tm_uf (show a ≠ 54 by omega), tm_uf (show a ≠ 53 by omega), tm_uf (show a ≠ 56 by omega), tm_pd_f (by omega), tm_rn_o ha])) ?_
                  exact ih (h + 1) _ _ _ _ (by omega) e4 e3 e2 (by omega) (by omega)
              · skip
                exfalso
                have q2 := (sm_G_1 hp hz.symm).1
                omega
        · skip
          exfalso; omega
/-- a run of 40 hours -/
theorem c5_play_b (E : tm_Ev) (l : Launch) (μ : tm_M) (hp : sm_ok (sm_p μ 43)) : tm_Met E l yX5_play cX5_play 8 none 3 [.ref (E.2.1 49), .ref (E.2.1 43)] μ (tm_pv (fun μ' => μ' = tm_rn μ (sm_p μ 43) 49 40)) := by
  refine tm_intro [(0, .ref (E.2.1 49)), (1, .ref (E.2.1 43))] rfl (by decide +kernel) (Nat.le_of_ble_eq_true rfl) ?_
  intro X hX C
  subst hX
  refine tv_aload_n (pc := 0) 0 C dX5_play_0 rfl rfl ?_
  refine tv_getr (pc := 1) (q := 56) C rfl rfl fl_X5_34 dX5_play_1 ?_
  refine tv_iconst (pc := 4) C dX5_play_4 ?_
  refine tv_callS (pc := 5) [.ref (E.2.1 56), tm_i (-1)] [] C (cJ_fill E _ μ 56 8 (-1) rfl) cs_X5_37 (by decide) rfl (Nat.le_of_ble_eq_true rfl) rfl dX5_play_5 (tm_kv ?_)
  rintro _ rfl
  refine tv_aload_n (pc := 8) 0 C dX5_play_8 rfl rfl ?_
  refine tv_iconst (pc := 9) C dX5_play_9 ?_
  refine tv_puti (pc := 10) C rfl rfl fp_X5_43 dX5_play_10 ?_
  refine tv_aload_n (pc := 13) 0 C dX5_play_13 rfl rfl ?_
  refine tv_getr (pc := 14) (q := 50) C rfl rfl fl_X5_12 dX5_play_14 ?_
  refine tv_aload_n (pc := 17) 1 C dX5_play_17 rfl rfl ?_
  refine tv_callV (pc := 18) [.ref (E.2.1 43)] [] C (c4_begin_b E _ (tm_up (tm_fill μ 56 8 (-1)) 49 7 0) 50 (rfl) rfl) cv_X5_47 rfl rfl (by decide) rfl (Nat.le_of_ble_eq_true rfl) rfl dX5_play_18 (tm_kv ?_)
  rintro _ rfl
  rw [show (tm_up (tm_fill μ 56 8 (-1)) 49 7 0) 44 0 = sm_p μ 43 0 0 from (tm_uk (by decide)).trans (tm_fill_k (by decide))]
  refine tv_iconst (pc := 21) C dX5_play_21 ?_
  refine tv_istore_n (pc := 22) [(2, tm_i 0), (0, .ref (E.2.1 49)), (1, .ref (E.2.1 43))] C dX5_play_22 rfl (by decide) rfl ?_
  refine tv_iconst (pc := 23) C dX5_play_23 ?_
  refine tv_istore_n (pc := 24) [(3, tm_i 0), (2, tm_i 0), (0, .ref (E.2.1 49)), (1, .ref (E.2.1 43))] C dX5_play_24 rfl (by decide) rfl ?_
  refine tv_iconst (pc := 25) C dX5_play_25 ?_
  refine tv_istore (pc := 26) [(4, tm_i 0), (3, tm_i 0), (2, tm_i 0), (0, .ref (E.2.1 49)), (1, .ref (E.2.1 43))] C dX5_play_26 (by decide) rfl ?_
  refine tv_iconst (pc := 28) C dX5_play_28 ?_
  refine tv_istore (pc := 29) [(5, tm_i 0), (4, tm_i 0), (3, tm_i 0), (2, tm_i 0), (0, .ref (E.2.1 49)), (1, .ref (E.2.1 43))] C dX5_play_29 (by decide) rfl ?_
  refine tv_sub (lv1 := [(5, tm_i 0), (4, tm_i 0), (3, tm_i 0), (2, tm_i 0), (0, .ref (E.2.1 49)), (1, .ref (E.2.1 43))]) [0, 1, 2, 3, 4, 5] rfl ?_
  refine tv_mem (tm_rn μ (sm_p μ 43) 49 0) tm_rn_0 ?_
  exact l_play_b C μ _ rfl hp _ ⟨rfl, rfl⟩ 41 0 0 0 0 0 rfl rfl rfl rfl (by omega) (by omega)
