/-- the reference's scratch as told -/
def rf_t (μ d : tm_M) : Prop := sm_ag (rm_p μ) (dd_p d) ∧ μ 74 15 = 0 ∧ μ 74 16 = d 3 1
def rf_g (μ ν : tm_M) : Prop := (∀ a, a ≠ 74 → (a < 77 ∨ 81 < a) → a ≠ 85 → a ≠ 86 → ν a = μ a) ∧ (∀ b, b ≠ 2 → b ≠ 4 → b ≠ 15 → b ≠ 16 → b ≠ 17 → b ≠ 19 → b ≠ 20 → ν 74 b = μ 74 b)
theorem rf_t_ok {μ d : tm_M} (hd : dd_ok d) (hm : rf_m μ d) (ht : rf_t μ d) : rm_ok μ := by
  have hp := dd_p_ok hd
  obtain ⟨h1, h2, h3⟩ := ht
  obtain ⟨-, -, -, -, m5, m6, m7, m8, -⟩ := hm
  obtain ⟨-, -, -, -, d5, d6, d7, d8, -⟩ := hd
  refine ⟨sm_ag_ok h1 hp, by rw [m5]; omega, by rw [h2]; omega, by rw [h3]; omega, fun k hk => ?_, fun k hk => ?_⟩
  · rw [m5] at hk; rw [m7 k hk]; exact d7 k hk
  · rw [h3] at hk; rw [m8 k hk]; exact d8 k hk
theorem tb_0 (k : Nat) : tb_t 0 k = false := by unfold tb_t; simp
theorem rf_told {μ d n1 n2 n3 : tm_M} (hd : dd_ok d) (q1 : rf_m n1 d) (q2 : rf_r n1 d) (q3 : rf_f μ n1) (e2 : n2 = tm_up (tm_up (tm_up (tm_rowf n1 85 40 (n1 77)) 74 15 0) 74 16 (n1 74 12)) 74 17 ((dd_n d : Nat) : Int)) (e3 : n3 = tm_up (tm_up (tm_rowf n2 86 (dd_n d) (fun b => (b : Int))) 74 19 (n1 82 0)) 74 20 (n1 82 1)) :
    rf_m n3 d ∧ rf_r n3 d ∧ rf_t n3 d ∧ rf_g μ n3 := by
  have o3 : ∀ a, a ≠ 74 → a ≠ 85 → a ≠ 86 → n3 a = n1 a := fun a h1 h2 h3 => by rw [e3, tm_uf h1, tm_uf h1, tm_rowf_f h3, e2, tm_uf h1, tm_uf h1, tm_uf h1, tm_rowf_f h2]
  have f3 : ∀ b, b ≠ 15 → b ≠ 16 → b ≠ 17 → b ≠ 19 → b ≠ 20 → n3 74 b = n1 74 b := fun b h1 h2 h3 h4 h5 => by rw [e3, tm_uj h5, tm_uj h4, tm_rowf_k (by decide), e2, tm_uj h3, tm_uj h2, tm_uj h1, tm_rowf_k (by decide)]
  have g15 : n3 74 15 = 0 := by rw [e3, tm_uj (by decide), tm_uj (by decide), tm_rowf_k (by decide), e2, tm_uj (by decide), tm_uj (by decide), tm_us]
  have g16 : n3 74 16 = n1 74 12 := by rw [e3, tm_uj (by decide), tm_uj (by decide), tm_rowf_k (by decide), e2, tm_uj (by decide), tm_us]
  have g17 : n3 74 17 = ((dd_n d : Nat) : Int) := by rw [e3, tm_uj (by decide), tm_uj (by decide), tm_rowf_k (by decide), e2, tm_us]
  have g19 : n3 74 19 = n1 82 0 := by rw [e3, tm_uj (by decide), tm_us]
  have g20 : n3 74 20 = n1 82 1 := by rw [e3, tm_us]
  have g85 : ∀ h, h < 40 → n3 85 h = n1 77 h := fun h hh => by rw [e3, tm_uk (by decide), tm_uk (by decide), tm_rowf_k (by decide), e2, tm_uk (by decide), tm_uk (by decide), tm_uk (by decide), tm_rowf_in hh]
  have g86 : ∀ k, k < dd_n d → n3 86 k = (k : Int) := fun k hk => by rw [e3, tm_uk (by decide), tm_uk (by decide), tm_rowf_in hk]
  have m3 : rf_m n3 d := rf_m_same q1 (fun a ha => o3 a (by omega) (by omega) (by omega)) (f3 10 (by omega) (by omega) (by omega) (by omega) (by omega)) (f3 12 (by omega) (by omega) (by omega) (by omega) (by omega))
  have r3 : rf_r n3 d := ⟨by rw [f3 2 (by omega) (by omega) (by omega) (by omega) (by omega)]; exact q2.1, by rw [f3 4 (by omega) (by omega) (by omega) (by omega) (by omega)]; exact q2.2.1, by rw [o3 77 (by omega) (by omega) (by omega)]; exact q2.2.2.1, by rw [o3 78 (by omega) (by omega) (by omega), o3 79 (by omega) (by omega) (by omega), o3 80 (by omega) (by omega) (by omega), o3 81 (by omega) (by omega) (by omega)]; exact q2.2.2.2⟩
  have g16d : n3 74 16 = d 3 1 := by rw [g16]; exact q1.2.2.2.2.2.1
  refine ⟨m3, r3, ⟨⟨fun j hj => ?_, fun h hh => ⟨?_, ?_, ?_⟩, g17, fun q hq => ?_⟩, g15, g16d⟩, fun a h1 h2 h3 h4 => by rw [o3 a h1 h3 h4]; exact q3.1 a h1 h2, fun b h1 h2 h3 h4 h5 h6 h7 => by rw [f3 b h3 h4 h5 h6 h7]; exact q3.2 b h1 h2⟩
  · have s := q1.2.2.2.2.2.2.2.2
    rcases (show j = 0 ∨ j = 1 ∨ j = 2 ∨ j = 3 ∨ j = 4 by omega) with rfl | rfl | rfl | rfl | rfl
    · show n3 74 19 = d 6 0
      rw [g19]; exact s 0 hj
    · show n3 74 20 = d 6 1
      rw [g20]; exact s 1 hj
    · show n3 82 2 = d 6 2
      rw [o3 82 (by omega) (by omega) (by omega)]; exact s 2 hj
    · show n3 82 3 = d 6 3
      rw [o3 82 (by omega) (by omega) (by omega)]; exact s 3 hj
    · show n3 82 4 = d 6 4
      rw [o3 82 (by omega) (by omega) (by omega)]; exact s 4 hj
  · show n3 85 h = sp_sea (d 1) (d 0 0).toNat h
    rw [g85 h hh]; exact q2.2.2.1 h hh
  · show rm_c n3 h (n3 74 10).toNat = ct_n _ _
    rw [m3.2.2.2.2.1]
    unfold rm_c
    refine ct_congr _ (fun k hk => ?_)
    rw [m3.2.2.2.2.2.2.1 k (by omega), g15, tb_0]
    simp
  · show rm_dc n3 h (n3 74 16).toNat = ct_n _ _
    rw [g16d]
    unfold rm_dc
    exact ct_congr _ (fun k hk => by rw [m3.2.2.2.2.2.2.2.1 k (by omega)])
  · have hq2 : q < dd_n d := by
      have hq3 : (q : Int) < n3 74 17 := hq
      rw [g17] at hq3; omega
    have e86 : rm_p n3 4 q = (q : Int) := g86 q hq2
    refine ⟨e86, ?_, ?_⟩
    · rw [e86]
      exact (r3.2.2.2 q hq2).1
    · rw [e86]
      exact (r3.2.2.2 q hq2).2.1
theorem l_asTold1 {E : tm_Ev} {X : tm_X} (C : tm_C E X yX8_asTold.cls cX8_asTold 2 none 6) (n1 : tm_M) (Q : State → Prop) (hk : ∀ x : Int, tm_V E X Q 2 30 [(1, tm_i x), (0, .ref (E.2.1 74))] [] (tm_rowf n1 85 40 (n1 77))) : ∀ (f h : Nat) (x : Int), x = h → h ≤ 40 → 40 - h < f → tm_V E X Q 2 6 [(1, tm_i x), (0, .ref (E.2.1 74))] [] (tm_rowf n1 85 h (n1 77)) := by
  intro f
  induction f with
  | zero => intro h x hx hj hf; omega
  | succ f ih =>
    intro h x hx hj hf
    refine tv_iload_n (pc := 6) 0 C dX8_asTold_6 rfl rfl ?_
    refine tv_bipush (pc := 7) C dX8_asTold_7 (by decide) ?_
    refine tv_icmp_ge (pc := 9) 30 C dX8_asTold_9 (by decide) (by omega) (by omega) (fun h9 => ?_) (fun h9 => ?_)
    · skip
      refine tv_sub (lv1 := [(1, tm_i x), (0, .ref (E.2.1 74))]) [0, 1] rfl ?_
      have hin : h = 40 := by omega
      subst hin
      exact hk x
    · skip
      refine tv_aload_n (pc := 12) 1 C dX8_asTold_12 rfl rfl ?_
      refine tv_getr (pc := 13) (q := 85) C rfl rfl fl_X8_40 dX8_asTold_13 ?_
      refine tv_iload_n (pc := 16) 0 C dX8_asTold_16 rfl rfl ?_
      refine tv_aload_n (pc := 17) 1 C dX8_asTold_17 rfl rfl ?_
      refine tv_getr (pc := 18) (q := 77) C rfl rfl fl_X8_16 dX8_asTold_18 ?_
      refine tv_iload_n (pc := 21) 0 C dX8_asTold_21 rfl rfl ?_
      refine tv_iald (pc := 22) (j := h) (z := n1 77 h) C rfl dX8_asTold_22 (by omega) (by omega) (tm_rowf_k (by decide)) ?_
      refine tv_iast (pc := 23) (j := h) C rfl dX8_asTold_23 (by omega) (by omega) ?_
      refine tv_iinc (pc := 24) 0 [(1, tm_i (x + 1)), (0, .ref (E.2.1 74))] C dX8_asTold_24 rfl (by decide) rfl ?_
      refine tv_goto (pc := 27) 6 C dX8_asTold_27 (by decide) ?_
      refine tv_sub (lv1 := [(1, tm_i (x + 1)), (0, .ref (E.2.1 74))]) [0, 1] rfl ?_
      rw [tm_rowf_s rfl]
      exact ih (h + 1) (x + 1) (by omega) (by omega) (by omega)
theorem l_asTold2 {E : tm_Ev} {X : tm_X} (C : tm_C E X yX8_asTold.cls cX8_asTold 2 none 6) (n2 : tm_M) (n : Nat) (hn : n2 74 4 = (n : Int)) (h8 : n ≤ 8) (post : Option Value → tm_M → Prop) (hpost : post none (tm_up (tm_up (tm_rowf n2 86 n (fun b => (b : Int))) 74 19 (n2 82 0)) 74 20 (n2 82 1))) : ∀ (f q : Nat) (x : Int), x = q → q ≤ n → n - q < f → tm_V E X (tm_Q E X post) 2 53 [(1, tm_i x), (0, .ref (E.2.1 74))] [] (tm_rowf n2 86 q (fun b => (b : Int))) := by
  intro f
  induction f with
  | zero => intro q x hx hj hf; omega
  | succ f ih =>
    intro q x hx hj hf
    refine tv_iload_n (pc := 53) 0 C dX8_asTold_53 rfl rfl ?_
    refine tv_aload_n (pc := 54) 1 C dX8_asTold_54 rfl rfl ?_
    refine tv_geti (pc := 55) (z := (n : Int)) C rfl rfl fl_X8_114 dX8_asTold_55 ((tm_rowf_k (by decide)).trans hn) ?_
    refine tv_icmp_ge (pc := 58) 74 C dX8_asTold_58 (by decide) (by omega) (by omega) (fun h58 => ?_) (fun h58 => ?_)
    · skip
      refine tv_aload_n (pc := 74) 1 C dX8_asTold_74 rfl rfl ?_
      refine tv_aload_n (pc := 75) 1 C dX8_asTold_75 rfl rfl ?_
      refine tv_getr (pc := 76) (q := 82) C rfl rfl fl_X8_31 dX8_asTold_76 ?_
      refine tv_iconst (pc := 79) C dX8_asTold_79 ?_
      refine tv_iald (pc := 80) (j := 0) (z := n2 82 0) C rfl dX8_asTold_80 (by omega) rfl (tm_rowf_k (by decide)) ?_
      refine tv_puti (pc := 81) C rfl rfl fp_X8_170 dX8_asTold_81 ?_
      refine tv_aload_n (pc := 84) 1 C dX8_asTold_84 rfl rfl ?_
      refine tv_aload_n (pc := 85) 1 C dX8_asTold_85 rfl rfl ?_
      refine tv_getr (pc := 86) (q := 82) C rfl rfl fl_X8_31 dX8_asTold_86 ?_
      refine tv_iconst (pc := 89) C dX8_asTold_89 ?_
      refine tv_iald (pc := 90) (j := 1) (z := n2 82 1) C rfl dX8_asTold_90 (by omega) rfl ((tm_uk (by decide)).trans ((tm_rowf_k (by decide)))) ?_
      refine tv_puti (pc := 91) C rfl rfl fp_X8_173 dX8_asTold_91 ?_
      refine tv_vret (pc := 94) C dX8_asTold_94 ?_
      have hin : q = n := by omega
      subst hin
      exact hpost
    · skip
      refine tv_aload_n (pc := 61) 1 C dX8_asTold_61 rfl rfl ?_
      refine tv_getr (pc := 62) (q := 86) C rfl rfl fl_X8_43 dX8_asTold_62 ?_
      refine tv_iload_n (pc := 65) 0 C dX8_asTold_65 rfl rfl ?_
      refine tv_iload_n (pc := 66) 0 C dX8_asTold_66 rfl rfl ?_
      refine tv_iast (pc := 67) (j := q) C rfl dX8_asTold_67 (by omega) (by omega) ?_
      refine tv_iinc (pc := 68) 0 [(1, tm_i (x + 1)), (0, .ref (E.2.1 74))] C dX8_asTold_68 rfl (by decide) rfl ?_
      refine tv_goto (pc := 71) 53 C dX8_asTold_71 (by decide) ?_
      refine tv_sub (lv1 := [(1, tm_i (x + 1)), (0, .ref (E.2.1 74))]) [0, 1] rfl ?_
      rw [tm_rowf_s (by omega)]
      exact ih (q + 1) (x + 1) (by omega) (by omega) (by omega)
theorem c8_asTold (E : tm_Ev) (l : Launch) (μ : tm_M) (d : tm_M) (hd : dd_ok d) (hm : rf_m μ d) : tm_Met E l yX8_asTold cX8_asTold 2 none 6 [.ref (E.2.1 74)] μ (tm_pv (fun μ' => rf_m μ' d ∧ rf_r μ' d ∧ rf_t μ' d ∧ rf_g μ μ')) := by
  refine tm_intro [(0, .ref (E.2.1 74))] rfl (by decide +kernel) (Nat.le_of_ble_eq_true rfl) ?_
  intro X hX C
  subst hX
  refine tv_aload_n (pc := 0) 0 C dX8_asTold_0 rfl rfl ?_
  refine tv_callV (pc := 1) [] [] C (c8_reads E _ μ d hd hm) cv_X8_131 rfl rfl (by decide) rfl (Nat.le_of_ble_eq_true rfl) rfl dX8_asTold_1 (tm_kv ?_)
  rintro n1 ⟨q1, q2, q3⟩
  have hn8 : dd_n d ≤ 8 := sp_no_bd _ (by have q := hd.2.1; omega)
  refine tv_iconst (pc := 4) C dX8_asTold_4 ?_
  refine tv_istore_n (pc := 5) [(1, tm_i 0), (0, .ref (E.2.1 74))] C dX8_asTold_5 rfl (by decide) rfl ?_
  refine tv_sub (lv1 := [(1, tm_i 0), (0, .ref (E.2.1 74))]) [0, 1] rfl ?_
  refine tv_mem _ (tm_rowf_0 n1 85 (n1 77)).symm ?_
  refine l_asTold1 C n1 _ (fun x => ?_) 41 0 0 rfl (by omega) (by omega)
  refine tv_aload_n (pc := 30) 1 C dX8_asTold_30 rfl rfl ?_
  refine tv_iconst (pc := 31) C dX8_asTold_31 ?_
  refine tv_puti (pc := 32) C rfl rfl fp_X8_161 dX8_asTold_32 ?_
  refine tv_aload_n (pc := 35) 1 C dX8_asTold_35 rfl rfl ?_
  refine tv_aload_n (pc := 36) 1 C dX8_asTold_36 rfl rfl ?_
  refine tv_geti (pc := 37) (z := n1 74 12) C rfl rfl fl_X8_149 dX8_asTold_37 ((tm_uj (by decide)).trans ((tm_rowf_k (by decide)))) ?_
  refine tv_puti (pc := 40) C rfl rfl fp_X8_164 dX8_asTold_40 ?_
  refine tv_aload_n (pc := 43) 1 C dX8_asTold_43 rfl rfl ?_
  refine tv_aload_n (pc := 44) 1 C dX8_asTold_44 rfl rfl ?_
  refine tv_geti (pc := 45) (z := ((dd_n d : Nat) : Int)) C rfl rfl fl_X8_114 dX8_asTold_45 ((tm_uj (by decide)).trans ((tm_uj (by decide)).trans (((tm_rowf_k (by decide)).trans q2.2.1)))) ?_
  refine tv_puti (pc := 48) C rfl rfl fp_X8_167 dX8_asTold_48 ?_
  refine tv_iconst (pc := 51) C dX8_asTold_51 ?_
  refine tv_istore_n (pc := 52) [(1, tm_i 0), (0, .ref (E.2.1 74))] C dX8_asTold_52 rfl (by decide) rfl ?_
  refine tv_sub (lv1 := [(1, tm_i 0), (0, .ref (E.2.1 74))]) [0, 1] rfl ?_
  refine tv_mem _ (tm_rowf_0 _ 86 (fun b => (b : Int))).symm ?_
  have n4 : (tm_up (tm_up (tm_up (tm_rowf n1 85 40 (n1 77)) 74 15 0) 74 16 (n1 74 12)) 74 17 ((dd_n d : Nat) : Int)) 74 4 = ((dd_n d : Nat) : Int) := by rw [tm_uj (by decide), tm_uj (by decide), tm_uj (by decide), tm_rowf_k (by decide)]; exact q2.2.1
  have n82 : (tm_up (tm_up (tm_up (tm_rowf n1 85 40 (n1 77)) 74 15 0) 74 16 (n1 74 12)) 74 17 ((dd_n d : Nat) : Int)) 82 = n1 82 := by rw [tm_uf (by decide), tm_uf (by decide), tm_uf (by decide), tm_rowf_f (by decide)]
  refine l_asTold2 C _ (dd_n d) n4 hn8 _ ?_ (dd_n d + 1) 0 0 rfl (by omega) (by omega)
  rw [n82]
  exact ⟨rfl, rf_told hd q1 q2 q3 rfl rfl⟩
/-- what a run of the reference leaves, by parameters p -/
def rf_n (μ p : tm_M) : Prop := (∀ h, h < 40 → μ 87 h = sm_z p (h + 1) ∧ μ 88 h = sm_t p (h + 1) ∧ μ 89 h = sm_a p h ∧ μ 90 h = sm_d p h ∧ μ 91 h = sm_u p h) ∧ (∀ k, k < 8 → μ 92 k = sm_e p 40 k) ∧ μ 74 23 = sm_t p 40 ∧ μ 74 24 = sm_s p 40 ∧ μ 74 25 = sm_i p 40 ∧ μ 74 26 = (sm_q p 40 : Int)
theorem rf_n_of {n1 n2 p : tm_M} (ha : sm_ag (rm_p n1) p) (hp : sm_ok p) (e2 : n2 = tm_rr n1 (rm_p n1) 40) : rf_n n2 p ∧ (∀ a, a ≠ 74 → (a < 87 ∨ 92 < a) → n2 a = n1 a) ∧ (∀ b, (b < 21 ∨ 27 < b) → n2 74 b = n1 74 b) := by
  have hok := sm_ag_ok ha hp
  have sc := fun x hx => sm_ag_sc ha hok (x := x) hx
  have s4 := sc 40 (by omega)
  refine ⟨⟨fun h hh => ?_, fun k hk => ?_, ?_, ?_, ?_, ?_⟩, fun a h1 h2 => by rw [e2, tm_rr_o ⟨h1, h2⟩], fun b hb => by rw [e2, tm_rr_g hb]⟩
  · have b1 := (sc (h + 1) (by omega)).1
    have b2 := (sc (h + 1) (by omega)).2.2.2.1
    rw [e2, tm_rr_87, tm_rr_88, tm_rr_89, tm_rr_90, tm_rr_91, if_pos hh, if_pos hh, if_pos hh, if_pos hh, if_pos hh, b1, b2, sm_ag_a ha hok hh, sm_ag_d ha hok hh, sm_ag_u ha hok hh]
    exact ⟨rfl, rfl, rfl, rfl, rfl⟩
  · rw [e2, tm_rr_92, if_pos hk, s4.2.2.2.2.2.2.2]
  · rw [e2]; exact (tm_rr_f 23).trans s4.2.2.2.1
  · rw [e2]; exact (tm_rr_f 24).trans s4.2.2.1
  · rw [e2]; exact (tm_rr_f 25).trans s4.2.2.2.2.1
  · rw [e2]; exact (tm_rr_f 26).trans (congrArg (fun (x : Nat) => (x : Int)) s4.2.2.2.2.2.1)
/-- only the reference's scratch has changed -/
def rf_k (μ ν : tm_M) : Prop := (∀ a, a ≠ 74 → (a < 77 ∨ 81 < a) → a ≠ 85 → a ≠ 86 → (a < 87 ∨ 92 < a) → ν a = μ a) ∧ (∀ b, b = 10 ∨ b = 12 ∨ 27 < b → ν 74 b = μ 74 b)
theorem rf_ran {μ d n1 n2 : tm_M} (hd : dd_ok d) (q1 : rf_m n1 d) (q2 : rf_r n1 d) (q3 : rf_t n1 d) (q4 : rf_g μ n1) (e2 : n2 = tm_rr n1 (rm_p n1) 40) : rf_m n2 d ∧ rf_r n2 d ∧ rf_n n2 (dd_p d) ∧ rf_k μ n2 := by
  obtain ⟨h1, h2, h3⟩ := rf_n_of q3.1 (dd_p_ok hd) e2
  refine ⟨rf_m_same q1 (fun a ha => h2 a (by omega) (by omega)) (h3 10 (by omega)) (h3 12 (by omega)), ⟨by rw [h3 2 (by omega)]; exact q2.1, by rw [h3 4 (by omega)]; exact q2.2.1, by rw [h2 77 (by omega) (by omega)]; exact q2.2.2.1, by rw [h2 78 (by omega) (by omega), h2 79 (by omega) (by omega), h2 80 (by omega) (by omega), h2 81 (by omega) (by omega)]; exact q2.2.2.2⟩, h1, fun a a1 a2 a3 a4 a5 => by rw [h2 a a1 a5]; exact q4.1 a a1 a2 a3 a4, fun b hb => by rw [h3 b (by omega)]; exact q4.2 b (by omega) (by omega) (by omega) (by omega) (by omega) (by omega) (by omega)⟩
theorem c8_runsTold (E : tm_Ev) (l : Launch) (μ : tm_M) (d : tm_M) (hd : dd_ok d) (hm : rf_m μ d) : tm_Met E l yX8_runsTold cX8_runsTold 1 none 7 [.ref (E.2.1 74)] μ (tm_pv (fun μ' => rf_m μ' d ∧ rf_r μ' d ∧ rf_n μ' (dd_p d) ∧ rf_k μ μ')) := by
  refine tm_intro [(0, .ref (E.2.1 74))] rfl (by decide +kernel) (Nat.le_of_ble_eq_true rfl) ?_
  intro X hX C
  subst hX
  refine tv_aload_n (pc := 0) 0 C dX8_runsTold_0 rfl rfl ?_
  refine tv_callV (pc := 1) [] [] C (c8_asTold E _ μ d hd hm) cv_X8_213 rfl rfl (by decide) rfl (Nat.le_of_ble_eq_true rfl) rfl dX8_runsTold_1 (tm_kv ?_)
  rintro n1 ⟨q1, q2, q3, q4⟩
  have hok := rf_t_ok hd q1 q3
  refine tv_aload_n (pc := 4) 0 C dX8_runsTold_4 rfl rfl ?_
  refine tv_callV (pc := 5) [] [] C (c8_runs E _ n1 hok) cv_X8_216 rfl rfl (by decide) rfl (Nat.le_of_ble_eq_true rfl) rfl dX8_runsTold_5 (tm_kv ?_)
  rintro n2 e2
  have rr := rf_ran hd q1 q2 q3 q4 e2
  refine tv_vret (pc := 8) C dX8_runsTold_8 ?_
  exact ⟨rfl, rr⟩
