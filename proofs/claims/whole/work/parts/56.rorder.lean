theorem rb_same {μ ν : tm_M} (e5 : ν 75 = μ 75) (e6 : ν 76 = μ 76) (k : Nat) : rb_b ν k = rb_b μ k := by unfold rb_b; rw [e5, e6]
theorem rb_fit {μ : tm_M} {k q : Nat} (h : sp_fit (rb_b μ k) q = true) (hq : q < 5) : (k : Int) < μ 75 1 ∧ rb_b μ k = μ 76 (47 + k) := by
  by_cases hk : (k : Int) < μ 75 1
  · exact ⟨hk, by unfold rb_b; rw [if_pos hk]⟩
  · have e : rb_b μ k = -1 := by unfold rb_b; rw [if_neg hk]
    rw [e] at h
    rcases (show q = 0 ∨ q = 1 ∨ q = 2 ∨ q = 3 ∨ q = 4 by omega) with rfl | rfl | rfl | rfl | rfl <;> simp [sp_fit] at h
theorem c8_byteAt2 (E : tm_Ev) (l : Launch) (ν μ : tm_M) (e5 : ν 75 = μ 75) (e6 : ν 76 = μ 76) (hs : 0 ≤ μ 75 1 ∧ μ 75 1 ≤ 47) (hby : ∀ j : Nat, (j : Int) < μ 75 1 → 0 ≤ μ 76 (47 + j) ∧ μ 76 (47 + j) ≤ 255) (k : Nat) (x : Int) (hx : x = k) (hk : k < 1000) : tm_Met E l yX8_byteAt cX8_byteAt 2 (some .int) 0 [.ref (E.2.1 74), tm_i x] ν (tm_pi (fun z μ' => z = rb_b μ k ∧ μ' = ν)) := by
  have t := c8_byteAt E l ν (by rw [e5]; exact hs) (by rw [e5, e6]; exact hby) k x hx hk
  rw [rb_same e5 e6] at t
  exact t
/-- how many of an order's five bytes are well, from the first on -/
def rg_w (μ : tm_M) (n q : Nat) : Bool := sp_fit (rb_b μ (6 * n + q)) q
def rg_n (μ : tm_M) (n : Nat) : Int := if fi_n (rg_w μ n) 5 0 = -1 then 5 else fi_n (rg_w μ n) 5 0
theorem rg_bd (μ : tm_M) (n : Nat) : 0 ≤ rg_n μ n ∧ rg_n μ n ≤ 5 := by
  unfold rg_n
  rcases fi_spec (ok := rg_w μ n) 5 0 with ⟨h, _⟩ | ⟨j, h1, h2, h3, _⟩
  · rw [if_pos h]; omega
  · rw [h3, if_neg (by omega)]; omega
theorem rg_5 {μ : tm_M} {n : Nat} (h : rg_n μ n = 5) : ∀ q, q < 5 → ((6 * n + q : Nat) : Int) < μ 75 1 ∧ rb_b μ (6 * n + q) = μ 76 (47 + (6 * n + q)) ∧ sp_fit (μ 76 (47 + (6 * n + q))) q = true := by
  intro q hq
  unfold rg_n at h
  rcases fi_spec (ok := rg_w μ n) 5 0 with ⟨h1, h2⟩ | ⟨j, h1, h2, h3, _⟩
  · have h3 := h2 q (by omega) (by omega)
    have h4 := rb_fit h3 hq
    refine ⟨h4.1, h4.2, ?_⟩
    rw [← h4.2]; exact h3
  · rw [h3, if_neg (by omega)] at h; omega
theorem rg_lt {μ : tm_M} {n : Nat} (h : rg_n μ n < 5) : ∃ q : Nat, q < 5 ∧ rg_n μ n = (q : Int) ∧ (∀ a, a < q → ((6 * n + a : Nat) : Int) < μ 75 1 ∧ sp_fit (μ 76 (47 + (6 * n + a))) a = true) ∧ (μ 75 1 ≤ ((6 * n + q : Nat) : Int) ∨ (((6 * n + q : Nat) : Int) < μ 75 1 ∧ ¬ sp_fit (μ 76 (47 + (6 * n + q))) q = true)) := by
  unfold rg_n at h ⊢
  rcases fi_spec (ok := rg_w μ n) 5 0 with ⟨h1, h2⟩ | ⟨j, h1, h2, h3, h4, h5⟩
  · rw [if_pos h1] at h; omega
  · rw [h3, if_neg (by omega)]
    refine ⟨j, by omega, rfl, fun a ha => ?_, ?_⟩
    · have h6 := h5 a (by omega) ha
      have h7 := rb_fit h6 (by omega)
      refine ⟨h7.1, ?_⟩
      rw [← h7.2]; exact h6
    · by_cases hk : ((6 * n + j : Nat) : Int) < μ 75 1
      · right
        refine ⟨hk, fun q => h4 ?_⟩
        show sp_fit (rb_b μ (6 * n + j)) j = true
        unfold rb_b
        rw [if_pos hk]; exact q
      · left; omega
theorem l_readsOrder {E : tm_Ev} {X : tm_X} (C : tm_C E X yX8_readsOrder.cls cX8_readsOrder 5 (some .int) 2) (μ : tm_M) (hs : 0 ≤ μ 75 1 ∧ μ 75 1 ≤ 47) (hby : ∀ j : Nat, (j : Int) < μ 75 1 → 0 ≤ μ 76 (47 + j) ∧ μ 76 (47 + j) ≤ 255) (n : Nat) (hn : n < 8) (x1 x2 : Int) (hx1 : x1 = n) (hx2 : x2 = ((6 * n : Nat) : Int)) (Q : State → Prop) (hk : ∀ x : Int, x = rg_n μ n → tm_V E X Q 5 28 [(3, tm_i x), (0, .ref (E.2.1 74)), (1, tm_i x1), (2, tm_i x2)] [] μ) : ∀ (f q : Nat) (x : Int), x = q → q ≤ 5 → 5 - q < f → fi_n (rg_w μ n) 5 0 = fi_n (rg_w μ n) (5 - q) q → tm_V E X Q 5 2 [(3, tm_i x), (0, .ref (E.2.1 74)), (1, tm_i x1), (2, tm_i x2)] [] μ := by
  intro f
  induction f with
  | zero => intro q x hx hj hf hfi; omega
  | succ f ih =>
    intro q x hx hj hf hfi
    refine tv_iload_n (pc := 2) 2 C dX8_readsOrder_2 rfl rfl ?_
    refine tv_bipush (pc := 3) C dX8_readsOrder_3 (by decide) ?_
    refine tv_icmp_ge (pc := 5) 28 C dX8_readsOrder_5 (by decide) (by omega) (by omega) (fun h5 => ?_) (fun h5 => ?_)
    · skip
      exfalso; omega
    · skip
      refine tv_iload_n (pc := 8) 0 C dX8_readsOrder_8 rfl rfl ?_
      refine tv_iconst (pc := 9) C dX8_readsOrder_9 ?_
      refine tv_icmp_ge (pc := 10) 28 C dX8_readsOrder_10 (by decide) (by omega) (by omega) (fun h10 => ?_) (fun h10 => ?_)
      · skip
        refine tv_sub (lv1 := [(3, tm_i x), (0, .ref (E.2.1 74)), (1, tm_i x1), (2, tm_i x2)]) [0, 1, 2, 3] rfl ?_
        exact hk x (by unfold rg_n; rw [hfi, fi_e (by omega), if_pos rfl]; omega)
      · skip
        refine tv_aload_n (pc := 13) 1 C dX8_readsOrder_13 rfl rfl ?_
        refine tv_iload_n (pc := 14) 3 C dX8_readsOrder_14 rfl rfl ?_
        refine tv_iload_n (pc := 15) 0 C dX8_readsOrder_15 rfl rfl ?_
        refine tv_callV (pc := 16) [tm_i x2, tm_i x] [] C (c8_isWell E _ μ hs hby (6 * n) q _ _ hx2 hx (by omega) (by omega)) cv_X8_110 rfl rfl (by decide) rfl (Nat.le_of_ble_eq_true rfl) rfl dX8_readsOrder_16 (tm_kp ?_)
        refine tv_ifeqB (pc := 19) 28 C dX8_readsOrder_19 (by decide) (fun h19 => ?_) (fun h19 => ?_)
        · skip
          refine tv_sub (lv1 := [(3, tm_i x), (0, .ref (E.2.1 74)), (1, tm_i x1), (2, tm_i x2)]) [0, 1, 2, 3] rfl ?_
          exact hk x (by unfold rg_n; rw [hfi, fi_x (ok := rg_w μ n) (by omega) h19, if_neg (by omega)]; omega)
        · skip
          refine tv_iinc (pc := 22) 0 [(3, tm_i (x + 1)), (0, .ref (E.2.1 74)), (1, tm_i x1), (2, tm_i x2)] C dX8_readsOrder_22 rfl (by decide) rfl ?_
          refine tv_goto (pc := 25) 2 C dX8_readsOrder_25 (by decide) ?_
          refine tv_sub (lv1 := [(3, tm_i (x + 1)), (0, .ref (E.2.1 74)), (1, tm_i x1), (2, tm_i x2)]) [0, 1, 2, 3] rfl ?_
          exact ih (q + 1) (x + 1) (by omega) (by omega) (by omega) (by rw [hfi]; exact fi_y (by omega) h19)
set_option maxHeartbeats 1000000 in
theorem c8_readsOrder (E : tm_Ev) (l : Launch) (μ : tm_M) (hs : 0 ≤ μ 75 1 ∧ μ 75 1 ≤ 47) (hby : ∀ j : Nat, (j : Int) < μ 75 1 → 0 ≤ μ 76 (47 + j) ∧ μ 76 (47 + j) ≤ 255) (n : Nat) (hn : n < 8) (x1 x2 : Int) (hx1 : x1 = n) (hx2 : x2 = ((6 * n : Nat) : Int)) : tm_Met E l yX8_readsOrder cX8_readsOrder 5 (some .int) 2 [.ref (E.2.1 74), tm_i x1, tm_i x2] μ (tm_pi (fun z μ' => z = rg_n μ n ∧ (rg_n μ n = 5 → μ' = (tm_up (tm_up (tm_up (tm_up μ 78 n (od_g (fun j => μ 76 (47 + j)) n)) 79 n (od_s (fun j => μ 76 (47 + j)) n)) 80 n (od_d (fun j => μ 76 (47 + j)) n)) 81 n (od_p (fun j => μ 76 (47 + j)) n))) ∧ (¬ rg_n μ n = 5 → μ' = μ))) := by
  refine tm_intro [(0, .ref (E.2.1 74)), (1, tm_i x1), (2, tm_i x2)] rfl (by decide +kernel) (Nat.le_of_ble_eq_true rfl) ?_
  intro X hX C
  subst hX
  refine tv_iconst (pc := 0) C dX8_readsOrder_0 ?_
  refine tv_istore_n (pc := 1) [(3, tm_i 0), (0, .ref (E.2.1 74)), (1, tm_i x1), (2, tm_i x2)] C dX8_readsOrder_1 rfl (by decide) rfl ?_
  refine tv_sub (lv1 := [(3, tm_i 0), (0, .ref (E.2.1 74)), (1, tm_i x1), (2, tm_i x2)]) [0, 1, 2, 3] rfl ?_
  refine l_readsOrder C μ hs hby n hn x1 x2 hx1 hx2 _ (fun x hx => ?_) 6 0 0 rfl (by omega) (by omega) rfl
  have hgb := rg_bd μ n
  refine tv_iload_n (pc := 28) 0 C dX8_readsOrder_28 rfl rfl ?_
  refine tv_iconst (pc := 29) C dX8_readsOrder_29 ?_
  refine tv_icmp_ne (pc := 30) 131 C dX8_readsOrder_30 (by decide) (by omega) (by omega) (fun h30 => ?_) (fun h30 => ?_)
  · skip
    refine tv_iload_n (pc := 131) 0 C dX8_readsOrder_131 rfl rfl ?_
    refine tv_iret (pc := 132) C dX8_readsOrder_132 ?_
    exact ⟨_, rfl, hx, fun q => absurd q (by omega), fun _ => rfl⟩
  · skip
    have g5 := rg_5 (μ := μ) (n := n) (by omega)
    have g0 := (g5 0 (by omega)).2.1
    have g1 := (g5 1 (by omega)).2.1
    have g2 := (g5 2 (by omega)).2.1
    have g3 := (g5 3 (by omega)).2.1
    have g4 := (g5 4 (by omega)).2.1
    simp only [Nat.add_zero] at g0
    have r0 := rb_bd hby (6 * n)
    refine tv_aload_n (pc := 33) 1 C dX8_readsOrder_33 rfl rfl ?_
    refine tv_iload_n (pc := 34) 3 C dX8_readsOrder_34 rfl rfl ?_
    refine tv_callV (pc := 35) [tm_i x2] [] C (c8_byteAt2 E _ μ μ (rfl) (rfl) hs hby (6 * n) _ (by omega) (by omega)) cv_X8_106 rfl rfl (by decide) rfl (Nat.le_of_ble_eq_true rfl) rfl dX8_readsOrder_35 (tm_kp ?_)
    refine tv_istore (pc := 38) [(4, tm_i (rb_b μ (6 * n))), (3, tm_i x), (0, .ref (E.2.1 74)), (1, tm_i x1), (2, tm_i x2)] C dX8_readsOrder_38 (by decide) rfl ?_
    refine tv_aload_n (pc := 40) 2 C dX8_readsOrder_40 rfl rfl ?_
    refine tv_getr (pc := 41) (q := 78) C rfl rfl fl_X8_19 dX8_readsOrder_41 ?_
    refine tv_iload_n (pc := 44) 3 C dX8_readsOrder_44 rfl rfl ?_
    refine tv_iload (pc := 45) 0 C dX8_readsOrder_45 rfl ?_
    refine tv_bipush (pc := 47) C dX8_readsOrder_47 (by decide) ?_
    refine tv_icmp_ne (pc := 49) 56 C dX8_readsOrder_49 (by decide) (by omega) (by omega) (fun h49 => ?_) (fun h49 => ?_)
    · skip
      refine tv_iload (pc := 56) 0 C dX8_readsOrder_56 rfl ?_
      refine tv_bipush (pc := 58) C dX8_readsOrder_58 (by decide) ?_
      refine tv_icmp_ne (pc := 60) 67 C dX8_readsOrder_60 (by decide) (by omega) (by omega) (fun h60 => ?_) (fun h60 => ?_)
      · skip
        refine tv_iconst (pc := 67) C dX8_readsOrder_67 ?_
        refine tv_top (od_g (fun j => μ 76 (47 + j)) n) (by unfold od_g; dsimp only; rw [if_neg (by omega), if_neg (by omega)]) ?_
        refine tv_iast (pc := 68) (j := n) C rfl dX8_readsOrder_68 (by omega) (by omega) ?_
        refine tv_aload_n (pc := 69) 2 C dX8_readsOrder_69 rfl rfl ?_
        refine tv_getr (pc := 70) (q := 79) C rfl rfl fl_X8_22 dX8_readsOrder_70 ?_
        refine tv_iload_n (pc := 73) 3 C dX8_readsOrder_73 rfl rfl ?_
        refine tv_aload_n (pc := 74) 2 C dX8_readsOrder_74 rfl rfl ?_
        refine tv_iload_n (pc := 75) 4 C dX8_readsOrder_75 rfl rfl ?_
        refine tv_iconst (pc := 76) C dX8_readsOrder_76 ?_
        refine tv_iadd (pc := 77) C dX8_readsOrder_77 ?_
        refine tv_callV (pc := 78) [tm_i (x2 + 1)] [tm_i x1, .ref (E.2.1 79)] C (c8_byteAt2 E _ (tm_up μ 78 n (od_g (fun j => μ 76 (47 + j)) n)) μ (by rw [tm_uf (by decide)]) (by rw [tm_uf (by decide)]) hs hby (6 * n + 1) _ (by omega) (by omega)) cv_X8_106 rfl rfl (by decide) rfl (Nat.le_of_ble_eq_true rfl) rfl dX8_readsOrder_78 (tm_kp ?_)
        refine tv_bipush (pc := 81) C dX8_readsOrder_81 (by decide) ?_
        refine tv_isub (pc := 83) C dX8_readsOrder_83 ?_
        refine tv_iast (pc := 84) (j := n) C rfl dX8_readsOrder_84 (by omega) (by omega) ?_
        refine tv_aload_n (pc := 85) 2 C dX8_readsOrder_85 rfl rfl ?_
        refine tv_getr (pc := 86) (q := 80) C rfl rfl fl_X8_25 dX8_readsOrder_86 ?_
        refine tv_iload_n (pc := 89) 3 C dX8_readsOrder_89 rfl rfl ?_
        refine tv_bipush (pc := 90) C dX8_readsOrder_90 (by decide) ?_
        refine tv_aload_n (pc := 92) 2 C dX8_readsOrder_92 rfl rfl ?_
        refine tv_iload_n (pc := 93) 4 C dX8_readsOrder_93 rfl rfl ?_
        refine tv_iconst (pc := 94) C dX8_readsOrder_94 ?_
        refine tv_iadd (pc := 95) C dX8_readsOrder_95 ?_
        refine tv_callV (pc := 96) [tm_i (x2 + 2)] [tm_i 10, tm_i x1, .ref (E.2.1 80)] C (c8_byteAt2 E _ (tm_up (tm_up μ 78 n (od_g (fun j => μ 76 (47 + j)) n)) 79 n ((rb_b μ (6 * n + 1)) - 48)) μ (by rw [tm_uf (by decide), tm_uf (by decide)]) (by rw [tm_uf (by decide), tm_uf (by decide)]) hs hby (6 * n + 2) _ (by omega) (by omega)) cv_X8_106 rfl rfl (by decide) rfl (Nat.le_of_ble_eq_true rfl) rfl dX8_readsOrder_96 (tm_kp ?_)
        refine tv_bipush (pc := 99) C dX8_readsOrder_99 (by decide) ?_
        refine tv_isub (pc := 101) C dX8_readsOrder_101 ?_
        refine tv_imul (pc := 102) C dX8_readsOrder_102 ?_
        refine tv_aload_n (pc := 103) 2 C dX8_readsOrder_103 rfl rfl ?_
        refine tv_iload_n (pc := 104) 4 C dX8_readsOrder_104 rfl rfl ?_
        refine tv_iconst (pc := 105) C dX8_readsOrder_105 ?_
        refine tv_iadd (pc := 106) C dX8_readsOrder_106 ?_
        refine tv_callV (pc := 107) [tm_i (x2 + 3)] [tm_i (10 * ((rb_b μ (6 * n + 2)) - 48)), tm_i x1, .ref (E.2.1 80)] C (c8_byteAt2 E _ (tm_up (tm_up μ 78 n (od_g (fun j => μ 76 (47 + j)) n)) 79 n ((rb_b μ (6 * n + 1)) - 48)) μ (by rw [tm_uf (by decide), tm_uf (by decide)]) (by rw [tm_uf (by decide), tm_uf (by decide)]) hs hby (6 * n + 3) _ (by omega) (by omega)) cv_X8_106 rfl rfl (by decide) rfl (Nat.le_of_ble_eq_true rfl) rfl dX8_readsOrder_107 (tm_kp ?_)
        refine tv_iadd (pc := 110) C dX8_readsOrder_110 ?_
        refine tv_bipush (pc := 111) C dX8_readsOrder_111 (by decide) ?_
        refine tv_isub (pc := 113) C dX8_readsOrder_113 ?_
        refine tv_iast (pc := 114) (j := n) C rfl dX8_readsOrder_114 (by omega) (by omega) ?_
        refine tv_aload_n (pc := 115) 2 C dX8_readsOrder_115 rfl rfl ?_
        refine tv_getr (pc := 116) (q := 81) C rfl rfl fl_X8_28 dX8_readsOrder_116 ?_
        refine tv_iload_n (pc := 119) 3 C dX8_readsOrder_119 rfl rfl ?_
        refine tv_aload_n (pc := 120) 2 C dX8_readsOrder_120 rfl rfl ?_
        refine tv_iload_n (pc := 121) 4 C dX8_readsOrder_121 rfl rfl ?_
        refine tv_iconst (pc := 122) C dX8_readsOrder_122 ?_
        refine tv_iadd (pc := 123) C dX8_readsOrder_123 ?_
        refine tv_callV (pc := 124) [tm_i (x2 + 4)] [tm_i x1, .ref (E.2.1 81)] C (c8_byteAt2 E _ (tm_up (tm_up (tm_up μ 78 n (od_g (fun j => μ 76 (47 + j)) n)) 79 n ((rb_b μ (6 * n + 1)) - 48)) 80 n (((10 * ((rb_b μ (6 * n + 2)) - 48)) + (rb_b μ (6 * n + 3))) - 48)) μ (by rw [tm_uf (by decide), tm_uf (by decide), tm_uf (by decide)]) (by rw [tm_uf (by decide), tm_uf (by decide), tm_uf (by decide)]) hs hby (6 * n + 4) _ (by omega) (by omega)) cv_X8_106 rfl rfl (by decide) rfl (Nat.le_of_ble_eq_true rfl) rfl dX8_readsOrder_124 (tm_kp ?_)
        refine tv_bipush (pc := 127) C dX8_readsOrder_127 (by decide) ?_
        refine tv_isub (pc := 129) C dX8_readsOrder_129 ?_
        refine tv_iast (pc := 130) (j := n) C rfl dX8_readsOrder_130 (by omega) (by omega) ?_
        refine tv_iload_n (pc := 131) 1 C dX8_readsOrder_131 rfl rfl ?_
        refine tv_iret (pc := 132) C dX8_readsOrder_132 ?_
        refine ⟨_, rfl, hx, fun _ => ?_, fun q => absurd (by omega) q⟩
        refine tm_cg (tm_cg (tm_cg rfl ?_) ?_) ?_
        · unfold od_s; dsimp only; omega
        · unfold od_d; dsimp only; omega
        · unfold od_p; dsimp only; omega
      · skip
        refine tv_iconst (pc := 63) C dX8_readsOrder_63 ?_
        refine tv_goto (pc := 64) 68 C dX8_readsOrder_64 (by decide) ?_
        refine tv_top (od_g (fun j => μ 76 (47 + j)) n) (by unfold od_g; dsimp only; rw [if_neg (by omega), if_pos (by omega)]) ?_
        refine tv_iast (pc := 68) (j := n) C rfl dX8_readsOrder_68 (by omega) (by omega) ?_
        refine tv_aload_n (pc := 69) 2 C dX8_readsOrder_69 rfl rfl ?_
        refine tv_getr (pc := 70) (q := 79) C rfl rfl fl_X8_22 dX8_readsOrder_70 ?_
        refine tv_iload_n (pc := 73) 3 C dX8_readsOrder_73 rfl rfl ?_
        refine tv_aload_n (pc := 74) 2 C dX8_readsOrder_74 rfl rfl ?_
        refine tv_iload_n (pc := 75) 4 C dX8_readsOrder_75 rfl rfl ?_
        refine tv_iconst (pc := 76) C dX8_readsOrder_76 ?_
        refine tv_iadd (pc := 77) C dX8_readsOrder_77 ?_
        refine tv_callV (pc := 78) [tm_i (x2 + 1)] [tm_i x1, .ref (E.2.1 79)] C (c8_byteAt2 E _ (tm_up μ 78 n (od_g (fun j => μ 76 (47 + j)) n)) μ (by rw [tm_uf (by decide)]) (by rw [tm_uf (by decide)]) hs hby (6 * n + 1) _ (by omega) (by omega)) cv_X8_106 rfl rfl (by decide) rfl (Nat.le_of_ble_eq_true rfl) rfl dX8_readsOrder_78 (tm_kp ?_)
        refine tv_bipush (pc := 81) C dX8_readsOrder_81 (by decide) ?_
        refine tv_isub (pc := 83) C dX8_readsOrder_83 ?_
        refine tv_iast (pc := 84) (j := n) C rfl dX8_readsOrder_84 (by omega) (by omega) ?_
        refine tv_aload_n (pc := 85) 2 C dX8_readsOrder_85 rfl rfl ?_
        refine tv_getr (pc := 86) (q := 80) C rfl rfl fl_X8_25 dX8_readsOrder_86 ?_
        refine tv_iload_n (pc := 89) 3 C dX8_readsOrder_89 rfl rfl ?_
        refine tv_bipush (pc := 90) C dX8_readsOrder_90 (by decide) ?_
        refine tv_aload_n (pc := 92) 2 C dX8_readsOrder_92 rfl rfl ?_
        refine tv_iload_n (pc := 93) 4 C dX8_readsOrder_93 rfl rfl ?_
        refine tv_iconst (pc := 94) C dX8_readsOrder_94 ?_
        refine tv_iadd (pc := 95) C dX8_readsOrder_95 ?_
        refine tv_callV (pc := 96) [tm_i (x2 + 2)] [tm_i 10, tm_i x1, .ref (E.2.1 80)] C (c8_byteAt2 E _ (tm_up (tm_up μ 78 n (od_g (fun j => μ 76 (47 + j)) n)) 79 n ((rb_b μ (6 * n + 1)) - 48)) μ (by rw [tm_uf (by decide), tm_uf (by decide)]) (by rw [tm_uf (by decide), tm_uf (by decide)]) hs hby (6 * n + 2) _ (by omega) (by omega)) cv_X8_106 rfl rfl (by decide) rfl (Nat.le_of_ble_eq_true rfl) rfl dX8_readsOrder_96 (tm_kp ?_)
        refine tv_bipush (pc := 99) C dX8_readsOrder_99 (by decide) ?_
        refine tv_isub (pc := 101) C dX8_readsOrder_101 ?_
        refine tv_imul (pc := 102) C dX8_readsOrder_102 ?_
        refine tv_aload_n (pc := 103) 2 C dX8_readsOrder_103 rfl rfl ?_
        refine tv_iload_n (pc := 104) 4 C dX8_readsOrder_104 rfl rfl ?_
        refine tv_iconst (pc := 105) C dX8_readsOrder_105 ?_
        refine tv_iadd (pc := 106) C dX8_readsOrder_106 ?_
        refine tv_callV (pc := 107) [tm_i (x2 + 3)] [tm_i (10 * ((rb_b μ (6 * n + 2)) - 48)), tm_i x1, .ref (E.2.1 80)] C (c8_byteAt2 E _ (tm_up (tm_up μ 78 n (od_g (fun j => μ 76 (47 + j)) n)) 79 n ((rb_b μ (6 * n + 1)) - 48)) μ (by rw [tm_uf (by decide), tm_uf (by decide)]) (by rw [tm_uf (by decide), tm_uf (by decide)]) hs hby (6 * n + 3) _ (by omega) (by omega)) cv_X8_106 rfl rfl (by decide) rfl (Nat.le_of_ble_eq_true rfl) rfl dX8_readsOrder_107 (tm_kp ?_)
        refine tv_iadd (pc := 110) C dX8_readsOrder_110 ?_
        refine tv_bipush (pc := 111) C dX8_readsOrder_111 (by decide) ?_
        refine tv_isub (pc := 113) C dX8_readsOrder_113 ?_
        refine tv_iast (pc := 114) (j := n) C rfl dX8_readsOrder_114 (by omega) (by omega) ?_
        refine tv_aload_n (pc := 115) 2 C dX8_readsOrder_115 rfl rfl ?_
        refine tv_getr (pc := 116) (q := 81) C rfl rfl fl_X8_28 dX8_readsOrder_116 ?_
        refine tv_iload_n (pc := 119) 3 C dX8_readsOrder_119 rfl rfl ?_
        refine tv_aload_n (pc := 120) 2 C dX8_readsOrder_120 rfl rfl ?_
        refine tv_iload_n (pc := 121) 4 C dX8_readsOrder_121 rfl rfl ?_
        refine tv_iconst (pc := 122) C dX8_readsOrder_122 ?_
        refine tv_iadd (pc := 123) C dX8_readsOrder_123 ?_
        refine tv_callV (pc := 124) [tm_i (x2 + 4)] [tm_i x1, .ref (E.2.1 81)] C (c8_byteAt2 E _ (tm_up (tm_up (tm_up μ 78 n (od_g (fun j => μ 76 (47 + j)) n)) 79 n ((rb_b μ (6 * n + 1)) - 48)) 80 n (((10 * ((rb_b μ (6 * n + 2)) - 48)) + (rb_b μ (6 * n + 3))) - 48)) μ (by rw [tm_uf (by decide), tm_uf (by decide), tm_uf (by decide)]) (by rw [tm_uf (by decide), tm_uf (by decide), tm_uf (by decide)]) hs hby (6 * n + 4) _ (by omega) (by omega)) cv_X8_106 rfl rfl (by decide) rfl (Nat.le_of_ble_eq_true rfl) rfl dX8_readsOrder_124 (tm_kp ?_)
        refine tv_bipush (pc := 127) C dX8_readsOrder_127 (by decide) ?_
        refine tv_isub (pc := 129) C dX8_readsOrder_129 ?_
        refine tv_iast (pc := 130) (j := n) C rfl dX8_readsOrder_130 (by omega) (by omega) ?_
        refine tv_iload_n (pc := 131) 1 C dX8_readsOrder_131 rfl rfl ?_
        refine tv_iret (pc := 132) C dX8_readsOrder_132 ?_
        refine ⟨_, rfl, hx, fun _ => ?_, fun q => absurd (by omega) q⟩
        refine tm_cg (tm_cg (tm_cg rfl ?_) ?_) ?_
        · unfold od_s; dsimp only; omega
        · unfold od_d; dsimp only; omega
        · unfold od_p; dsimp only; omega
    · skip
      refine tv_iconst (pc := 52) C dX8_readsOrder_52 ?_
      refine tv_goto (pc := 53) 68 C dX8_readsOrder_53 (by decide) ?_
      refine tv_top (od_g (fun j => μ 76 (47 + j)) n) (by unfold od_g; dsimp only; rw [if_pos (by omega)]) ?_
      refine tv_iast (pc := 68) (j := n) C rfl dX8_readsOrder_68 (by omega) (by omega) ?_
      refine tv_aload_n (pc := 69) 2 C dX8_readsOrder_69 rfl rfl ?_
      refine tv_getr (pc := 70) (q := 79) C rfl rfl fl_X8_22 dX8_readsOrder_70 ?_
      refine tv_iload_n (pc := 73) 3 C dX8_readsOrder_73 rfl rfl ?_
      refine tv_aload_n (pc := 74) 2 C dX8_readsOrder_74 rfl rfl ?_
      refine tv_iload_n (pc := 75) 4 C dX8_readsOrder_75 rfl rfl ?_
      refine tv_iconst (pc := 76) C dX8_readsOrder_76 ?_
      refine tv_iadd (pc := 77) C dX8_readsOrder_77 ?_
      refine tv_callV (pc := 78) [tm_i (x2 + 1)] [tm_i x1, .ref (E.2.1 79)] C (c8_byteAt2 E _ (tm_up μ 78 n (od_g (fun j => μ 76 (47 + j)) n)) μ (by rw [tm_uf (by decide)]) (by rw [tm_uf (by decide)]) hs hby (6 * n + 1) _ (by omega) (by omega)) cv_X8_106 rfl rfl (by decide) rfl (Nat.le_of_ble_eq_true rfl) rfl dX8_readsOrder_78 (tm_kp ?_)
      refine tv_bipush (pc := 81) C dX8_readsOrder_81 (by decide) ?_
      refine tv_isub (pc := 83) C dX8_readsOrder_83 ?_
      refine tv_iast (pc := 84) (j := n) C rfl dX8_readsOrder_84 (by omega) (by omega) ?_
      refine tv_aload_n (pc := 85) 2 C dX8_readsOrder_85 rfl rfl ?_
      refine tv_getr (pc := 86) (q := 80) C rfl rfl fl_X8_25 dX8_readsOrder_86 ?_
      refine tv_iload_n (pc := 89) 3 C dX8_readsOrder_89 rfl rfl ?_
      refine tv_bipush (pc := 90) C dX8_readsOrder_90 (by decide) ?_
      refine tv_aload_n (pc := 92) 2 C dX8_readsOrder_92 rfl rfl ?_
      refine tv_iload_n (pc := 93) 4 C dX8_readsOrder_93 rfl rfl ?_
      refine tv_iconst (pc := 94) C dX8_readsOrder_94 ?_
      refine tv_iadd (pc := 95) C dX8_readsOrder_95 ?_
      refine tv_callV (pc := 96) [tm_i (x2 + 2)] [tm_i 10, tm_i x1, .ref (E.2.1 80)] C (c8_byteAt2 E _ (tm_up (tm_up μ 78 n (od_g (fun j => μ 76 (47 + j)) n)) 79 n ((rb_b μ (6 * n + 1)) - 48)) μ (by rw [tm_uf (by decide), tm_uf (by decide)]) (by rw [tm_uf (by decide), tm_uf (by decide)]) hs hby (6 * n + 2) _ (by omega) (by omega)) cv_X8_106 rfl rfl (by decide) rfl (Nat.le_of_ble_eq_true rfl) rfl dX8_readsOrder_96 (tm_kp ?_)
      refine tv_bipush (pc := 99) C dX8_readsOrder_99 (by decide) ?_
      refine tv_isub (pc := 101) C dX8_readsOrder_101 ?_
      refine tv_imul (pc := 102) C dX8_readsOrder_102 ?_
      refine tv_aload_n (pc := 103) 2 C dX8_readsOrder_103 rfl rfl ?_
      refine tv_iload_n (pc := 104) 4 C dX8_readsOrder_104 rfl rfl ?_
      refine tv_iconst (pc := 105) C dX8_readsOrder_105 ?_
      refine tv_iadd (pc := 106) C dX8_readsOrder_106 ?_
      refine tv_callV (pc := 107) [tm_i (x2 + 3)] [tm_i (10 * ((rb_b μ (6 * n + 2)) - 48)), tm_i x1, .ref (E.2.1 80)] C (c8_byteAt2 E _ (tm_up (tm_up μ 78 n (od_g (fun j => μ 76 (47 + j)) n)) 79 n ((rb_b μ (6 * n + 1)) - 48)) μ (by rw [tm_uf (by decide), tm_uf (by decide)]) (by rw [tm_uf (by decide), tm_uf (by decide)]) hs hby (6 * n + 3) _ (by omega) (by omega)) cv_X8_106 rfl rfl (by decide) rfl (Nat.le_of_ble_eq_true rfl) rfl dX8_readsOrder_107 (tm_kp ?_)
      refine tv_iadd (pc := 110) C dX8_readsOrder_110 ?_
      refine tv_bipush (pc := 111) C dX8_readsOrder_111 (by decide) ?_
      refine tv_isub (pc := 113) C dX8_readsOrder_113 ?_
      refine tv_iast (pc := 114) (j := n) C rfl dX8_readsOrder_114 (by omega) (by omega) ?_
      refine tv_aload_n (pc := 115) 2 C dX8_readsOrder_115 rfl rfl ?_
      refine tv_getr (pc := 116) (q := 81) C rfl rfl fl_X8_28 dX8_readsOrder_116 ?_
      refine tv_iload_n (pc := 119) 3 C dX8_readsOrder_119 rfl rfl ?_
      refine tv_aload_n (pc := 120) 2 C dX8_readsOrder_120 rfl rfl ?_
      refine tv_iload_n (pc := 121) 4 C dX8_readsOrder_121 rfl rfl ?_
      refine tv_iconst (pc := 122) C dX8_readsOrder_122 ?_
      refine tv_iadd (pc := 123) C dX8_readsOrder_123 ?_
      refine tv_callV (pc := 124) [tm_i (x2 + 4)] [tm_i x1, .ref (E.2.1 81)] C (c8_byteAt2 E _ (tm_up (tm_up (tm_up μ 78 n (od_g (fun j => μ 76 (47 + j)) n)) 79 n ((rb_b μ (6 * n + 1)) - 48)) 80 n (((10 * ((rb_b μ (6 * n + 2)) - 48)) + (rb_b μ (6 * n + 3))) - 48)) μ (by rw [tm_uf (by decide), tm_uf (by decide), tm_uf (by decide)]) (by rw [tm_uf (by decide), tm_uf (by decide), tm_uf (by decide)]) hs hby (6 * n + 4) _ (by omega) (by omega)) cv_X8_106 rfl rfl (by decide) rfl (Nat.le_of_ble_eq_true rfl) rfl dX8_readsOrder_124 (tm_kp ?_)
      refine tv_bipush (pc := 127) C dX8_readsOrder_127 (by decide) ?_
      refine tv_isub (pc := 129) C dX8_readsOrder_129 ?_
      refine tv_iast (pc := 130) (j := n) C rfl dX8_readsOrder_130 (by omega) (by omega) ?_
      refine tv_iload_n (pc := 131) 1 C dX8_readsOrder_131 rfl rfl ?_
      refine tv_iret (pc := 132) C dX8_readsOrder_132 ?_
      refine ⟨_, rfl, hx, fun _ => ?_, fun q => absurd (by omega) q⟩
      refine tm_cg (tm_cg (tm_cg rfl ?_) ?_) ?_
      · unfold od_s; dsimp only; omega
      · unfold od_d; dsimp only; omega
      · unfold od_p; dsimp only; omega
