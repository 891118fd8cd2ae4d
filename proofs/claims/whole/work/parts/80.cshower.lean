theorem cJ_bits (E : tm_Ev) (l : Launch) (μ : tm_M) (x : Int) : tm_Met E l yJ6_bitCount_0f7a4 cJ6_bitCount_0f7a4 1 (some .int) 0 [tm_i x] μ (tm_pi (fun z μ' => z = bc_n x ∧ μ' = μ)) := by
  refine tm_intro [(0, tm_i x)] rfl (by decide +kernel) (Nat.le_of_ble_eq_true rfl) ?_
  intro X hX C
  subst hX
  refine tv_iload_n (pc := 0) 0 C dJ6_bitCount_0f7a4_0 rfl rfl ?_
  refine tv_iload_n (pc := 1) 0 C dJ6_bitCount_0f7a4_1 rfl rfl ?_
  refine tv_iconst (pc := 2) C dJ6_bitCount_0f7a4_2 ?_
  refine tv_iushr (pc := 3) (z := sr_u x 1) C dJ6_bitCount_0f7a4_3 (by unfold sr_u; exact (Int32.ofInt_toInt _).symm) ?_
  refine tv_ldcw (pc := 4) (z := 1431655765) C kc_J6_265 dJ6_bitCount_0f7a4_4 (by decide) ?_
  refine tv_iand (pc := 7) (z := an_u (sr_u x 1) 1431655765) C dJ6_bitCount_0f7a4_7 (by unfold an_u; exact (Int32.ofInt_toInt _).symm) ?_
  refine tv_isub (pc := 8) C dJ6_bitCount_0f7a4_8 ?_
  refine tv_top (bc_1 x) rfl ?_
  refine tv_istore_n (pc := 9) [(0, tm_i (bc_1 x))] C dJ6_bitCount_0f7a4_9 rfl (by decide) rfl ?_
  refine tv_iload_n (pc := 10) 0 C dJ6_bitCount_0f7a4_10 rfl rfl ?_
  refine tv_ldcw (pc := 11) (z := 858993459) C kc_J6_266 dJ6_bitCount_0f7a4_11 (by decide) ?_
  refine tv_iand (pc := 14) (z := an_u (bc_1 x) 858993459) C dJ6_bitCount_0f7a4_14 (by unfold an_u; exact (Int32.ofInt_toInt _).symm) ?_
  refine tv_iload_n (pc := 15) 0 C dJ6_bitCount_0f7a4_15 rfl rfl ?_
  refine tv_iconst (pc := 16) C dJ6_bitCount_0f7a4_16 ?_
  refine tv_iushr (pc := 17) (z := sr_u (bc_1 x) 2) C dJ6_bitCount_0f7a4_17 (by unfold sr_u; exact (Int32.ofInt_toInt _).symm) ?_
  refine tv_ldcw (pc := 18) (z := 858993459) C kc_J6_266 dJ6_bitCount_0f7a4_18 (by decide) ?_
  refine tv_iand (pc := 21) (z := an_u (sr_u (bc_1 x) 2) 858993459) C dJ6_bitCount_0f7a4_21 (by unfold an_u; exact (Int32.ofInt_toInt _).symm) ?_
  refine tv_iadd (pc := 22) C dJ6_bitCount_0f7a4_22 ?_
  refine tv_top (bc_2 (bc_1 x)) rfl ?_
  refine tv_istore_n (pc := 23) [(0, tm_i (bc_2 (bc_1 x)))] C dJ6_bitCount_0f7a4_23 rfl (by decide) rfl ?_
  refine tv_iload_n (pc := 24) 0 C dJ6_bitCount_0f7a4_24 rfl rfl ?_
  refine tv_iload_n (pc := 25) 0 C dJ6_bitCount_0f7a4_25 rfl rfl ?_
  refine tv_iconst (pc := 26) C dJ6_bitCount_0f7a4_26 ?_
  refine tv_iushr (pc := 27) (z := sr_u (bc_2 (bc_1 x)) 4) C dJ6_bitCount_0f7a4_27 (by unfold sr_u; exact (Int32.ofInt_toInt _).symm) ?_
  refine tv_iadd (pc := 28) C dJ6_bitCount_0f7a4_28 ?_
  refine tv_ldcw (pc := 29) (z := 252645135) C kc_J6_267 dJ6_bitCount_0f7a4_29 (by decide) ?_
  refine tv_iand (pc := 32) (z := an_u ((bc_2 (bc_1 x)) + (sr_u (bc_2 (bc_1 x)) 4)) 252645135) C dJ6_bitCount_0f7a4_32 (by unfold an_u; exact (Int32.ofInt_toInt _).symm) ?_
  refine tv_top (bc_3 (bc_2 (bc_1 x))) rfl ?_
  refine tv_istore_n (pc := 33) [(0, tm_i (bc_3 (bc_2 (bc_1 x))))] C dJ6_bitCount_0f7a4_33 rfl (by decide) rfl ?_
  refine tv_iload_n (pc := 34) 0 C dJ6_bitCount_0f7a4_34 rfl rfl ?_
  refine tv_iload_n (pc := 35) 0 C dJ6_bitCount_0f7a4_35 rfl rfl ?_
  refine tv_bipush (pc := 36) C dJ6_bitCount_0f7a4_36 (by decide) ?_
  refine tv_iushr (pc := 38) (z := sr_u (bc_3 (bc_2 (bc_1 x))) 8) C dJ6_bitCount_0f7a4_38 (by unfold sr_u; exact (Int32.ofInt_toInt _).symm) ?_
  refine tv_iadd (pc := 39) C dJ6_bitCount_0f7a4_39 ?_
  refine tv_top (bc_4 (bc_3 (bc_2 (bc_1 x)))) rfl ?_
  refine tv_istore_n (pc := 40) [(0, tm_i (bc_4 (bc_3 (bc_2 (bc_1 x)))))] C dJ6_bitCount_0f7a4_40 rfl (by decide) rfl ?_
  refine tv_iload_n (pc := 41) 0 C dJ6_bitCount_0f7a4_41 rfl rfl ?_
  refine tv_iload_n (pc := 42) 0 C dJ6_bitCount_0f7a4_42 rfl rfl ?_
  refine tv_bipush (pc := 43) C dJ6_bitCount_0f7a4_43 (by decide) ?_
  refine tv_iushr (pc := 45) (z := sr_u (bc_4 (bc_3 (bc_2 (bc_1 x)))) 16) C dJ6_bitCount_0f7a4_45 (by unfold sr_u; exact (Int32.ofInt_toInt _).symm) ?_
  refine tv_iadd (pc := 46) C dJ6_bitCount_0f7a4_46 ?_
  refine tv_top (bc_5 (bc_4 (bc_3 (bc_2 (bc_1 x))))) rfl ?_
  refine tv_istore_n (pc := 47) [(0, tm_i (bc_5 (bc_4 (bc_3 (bc_2 (bc_1 x))))))] C dJ6_bitCount_0f7a4_47 rfl (by decide) rfl ?_
  refine tv_iload_n (pc := 48) 0 C dJ6_bitCount_0f7a4_48 rfl rfl ?_
  refine tv_bipush (pc := 49) C dJ6_bitCount_0f7a4_49 (by decide) ?_
  refine tv_iand (pc := 51) (z := an_u (bc_5 (bc_4 (bc_3 (bc_2 (bc_1 x))))) 63) C dJ6_bitCount_0f7a4_51 (by unfold an_u; exact (Int32.ofInt_toInt _).symm) ?_
  refine tv_iret (pc := 52) C dJ6_bitCount_0f7a4_52 ?_
  exact ⟨_, rfl, rfl, rfl⟩
theorem l_filll {E : tm_Ev} {X : tm_X} (C : tm_C E X yJ7_fill_d0a16.cls cJ7_fill_d0a16 5 none 0) (μ : tm_M) (v : Int) (post : Option Value → tm_M → Prop) (hpost : post none (tm_fill μ 72 8 v)) : ∀ (f i : Nat) (x : Int), x = i → i ≤ 8 → 8 - i < f → tm_V E X (tm_Q E X post) 5 6 [(3, tm_i x), (4, tm_i ((8 : Nat) : Int)), (0, .ref (E.2.1 72)), (1, tm_l v)] [] (tm_fill μ 72 i v) := by
  intro f
  induction f with
  | zero => intro i x hx hi hf; omega
  | succ f ih =>
    intro i x hx hi hf
    refine tv_iload_n (pc := 6) 0 C dJ7_fill_d0a16_6 rfl rfl ?_
    refine tv_iload (pc := 7) 1 C dJ7_fill_d0a16_7 rfl ?_
    refine tv_icmp_ge (pc := 9) 22 C dJ7_fill_d0a16_9 (by decide) (by omega) (by omega) (fun h9 => ?_) (fun h9 => ?_)
    · skip
      refine tv_vret (pc := 22) C dJ7_fill_d0a16_22 ?_
      have hin : i = 8 := by omega
      subst hin
      exact hpost
    · skip
      refine tv_aload_n (pc := 12) 2 C dJ7_fill_d0a16_12 rfl rfl ?_
      refine tv_iload_n (pc := 13) 0 C dJ7_fill_d0a16_13 rfl rfl ?_
      refine tv_lload_n (pc := 14) 3 C dJ7_fill_d0a16_14 rfl rfl ?_
      refine tv_last (pc := 15) (j := i) C rfl dJ7_fill_d0a16_15 (by omega) (by omega) ?_
      refine tv_iinc (pc := 16) 0 [(3, tm_i (x + 1)), (4, tm_i ((8 : Nat) : Int)), (0, .ref (E.2.1 72)), (1, tm_l v)] C dJ7_fill_d0a16_16 rfl (by decide) rfl ?_
      refine tv_goto (pc := 19) 6 C dJ7_fill_d0a16_19 (by decide) ?_
      refine tv_sub (lv1 := [(3, tm_i (x + 1)), (4, tm_i ((8 : Nat) : Int)), (0, .ref (E.2.1 72)), (1, tm_l v)]) [0, 1, 2, 3] rfl ?_
      rw [tm_fill_s]
      exact ih (i + 1) (x + 1) (by omega) (by omega) (by omega)
theorem cJ_filll (E : tm_Ev) (l : Launch) (μ : tm_M) (v : Int) : tm_Met E l yJ7_fill_d0a16 cJ7_fill_d0a16 5 none 0 [.ref (E.2.1 72), tm_l v] μ (tm_pv (fun μ' => μ' = tm_fill μ 72 8 v)) := by
  refine tm_intro [(0, .ref (E.2.1 72)), (1, tm_l v)] rfl (by decide +kernel) (Nat.le_of_ble_eq_true rfl) ?_
  intro X hX C
  subst hX
  refine tv_iconst (pc := 0) C dJ7_fill_d0a16_0 ?_
  refine tv_istore_n (pc := 1) [(3, tm_i 0), (0, .ref (E.2.1 72)), (1, tm_l v)] C dJ7_fill_d0a16_1 rfl (by decide) rfl ?_
  refine tv_aload_n (pc := 2) 1 C dJ7_fill_d0a16_2 rfl rfl ?_
  refine tv_alen (pc := 3) 1 C rfl rfl rfl rfl dJ7_fill_d0a16_3 ?_
  refine tv_istore (pc := 4) [(4, tm_i ((8 : Nat) : Int)), (3, tm_i 0), (0, .ref (E.2.1 72)), (1, tm_l v)] C dJ7_fill_d0a16_4 (by decide) rfl ?_
  refine tv_sub (lv1 := [(3, tm_i 0), (4, tm_i ((8 : Nat) : Int)), (0, .ref (E.2.1 72)), (1, tm_l v)]) [1, 0, 2, 3] rfl ?_
  refine tv_mem (tm_fill μ 72 0 v) (tm_fill_0 _ _ _).symm ?_
  exact l_filll C μ v _ ⟨rfl, rfl⟩ 9 0 0 rfl (by omega) (by omega)
theorem l_power {E : tm_Ev} {X : tm_X} (C : tm_C E X yX7_power.cls cX7_power 5 (some .long) 0) (μ : tm_M) (b t : Int) (m : Nat) (ht : t = m) (hm : m ≤ 100) (hb : 0 ≤ b ∧ b ≤ 100) (post : Option Value → tm_M → Prop) (hpost : post (some (tm_l (b ^ m))) μ) : ∀ (f j : Nat) (x y : Int), x = j → j ≤ m → m - j < f → y = b ^ j → tm_V E X (tm_Q E X post) 5 5 [(4, tm_i x), (2, tm_l y), (0, tm_i b), (1, tm_i t)] [] μ := by
  intro f
  induction f with
  | zero => intro j x y hx hj hf hy; omega
  | succ f ih =>
    intro j x y hx hj hf hy
    refine tv_iload (pc := 5) 0 C dX7_power_5 rfl ?_
    refine tv_iload_n (pc := 7) 3 C dX7_power_7 rfl rfl ?_
    refine tv_icmp_ge (pc := 8) 22 C dX7_power_8 (by decide) (by omega) (by omega) (fun h8 => ?_) (fun h8 => ?_)
    · skip
      refine tv_lload_n (pc := 22) 1 C dX7_power_22 rfl rfl ?_
      refine tv_lret (pc := 23) C dX7_power_23 ?_
      have hin : j = m := by omega
      subst hin
      rw [hy]
      exact hpost
    · skip
      refine tv_lload_n (pc := 11) 1 C dX7_power_11 rfl rfl ?_
      refine tv_iload_n (pc := 12) 2 C dX7_power_12 rfl rfl ?_
      refine tv_i2l (pc := 13) C dX7_power_13 (by omega) ?_
      refine tv_lmul (pc := 14) C dX7_power_14 ?_
      refine tv_lstore_n (pc := 15) [(2, tm_l (y * b)), (4, tm_i x), (0, tm_i b), (1, tm_i t)] C dX7_power_15 rfl (by decide) rfl ?_
      refine tv_iinc (pc := 16) 1 [(4, tm_i (x + 1)), (2, tm_l (y * b)), (0, tm_i b), (1, tm_i t)] C dX7_power_16 rfl (by decide) rfl ?_
      refine tv_goto (pc := 19) 5 C dX7_power_19 (by decide) ?_
      refine tv_sub (lv1 := [(4, tm_i (x + 1)), (2, tm_l (y * b)), (0, tm_i b), (1, tm_i t)]) [0, 1, 2, 3] rfl ?_
      exact ih (j + 1) (x + 1) _ (by omega) (by omega) (by omega) (by rw [hy, Int.pow_succ])
theorem c7_power (E : tm_Ev) (l : Launch) (μ : tm_M) (b t : Int) (m : Nat) (ht : t = m) (hm : m ≤ 100) (hb : 0 ≤ b ∧ b ≤ 100) : tm_Met E l yX7_power cX7_power 5 (some .long) 0 [tm_i b, tm_i t] μ (tm_pl (fun z μ' => z = b ^ m ∧ μ' = μ)) := by
  refine tm_intro [(0, tm_i b), (1, tm_i t)] rfl (by decide +kernel) (Nat.le_of_ble_eq_true rfl) ?_
  intro X hX C
  subst hX
  refine tv_lconst (pc := 0) (z := 1) C dX7_power_0 rfl ?_
  refine tv_lstore_n (pc := 1) [(2, tm_l 1), (0, tm_i b), (1, tm_i t)] C dX7_power_1 rfl (by decide) rfl ?_
  refine tv_iconst (pc := 2) C dX7_power_2 ?_
  refine tv_istore (pc := 3) [(4, tm_i 0), (2, tm_l 1), (0, tm_i b), (1, tm_i t)] C dX7_power_3 (by decide) rfl ?_
  refine tv_sub (lv1 := [(4, tm_i 0), (2, tm_l 1), (0, tm_i b), (1, tm_i t)]) [0, 1, 2, 3] rfl ?_
  exact l_power C μ b t m ht hm hb _ ⟨_, rfl, rfl, rfl⟩ (m + 1) 0 0 1 rfl (by omega) (by omega) (by rw [Int.pow_zero])
theorem l_weigh1 {E : tm_Ev} {X : tm_X} (C : tm_C E X yX7_weighShowers.cls cX7_weighShowers 7 none 5) (ν d : tm_M) (hd : dd_ok d) (h6 : ν 6 1 = d 3 0) (h7 : ∀ j : Nat, (j : Int) < d 3 0 → ν 7 j = d 4 j) (z3 : 0 ≤ d 3 0 ∧ d 3 0 ≤ 6) (x : Nat) (y c g : Int) (hy : y = x) (hx : x < 64) (Q : State → Prop) (hk9 : tm_V E X Q 7 129 [(4, tm_l g), (2, tm_i y), (1, tm_i c), (0, .ref (E.2.1 0))] [] (tm_rowf ν 46 40 (fun b => ct_n (fun k => decide (d 4 k = (b : Int)) && tb_t (x : Int) k) (d 3 0).toNat))) : ∀ (f j : Nat) (z : Int), z = j → (j : Int) ≤ d 3 0 → 6 - j < f → tm_V E X Q 7 84 [(6, tm_i z), (4, tm_l g), (2, tm_i y), (1, tm_i c), (0, .ref (E.2.1 0))] [] (tm_rowf ν 46 40 (fun b => ct_n (fun k => decide (d 4 k = (b : Int)) && tb_t (x : Int) k) j)) := by
  intro f
  induction f with
  | zero => intro j z hz hj hf; omega
  | succ f ih =>
    intro j z hz hj hf
    refine tv_iload (pc := 84) 0 C dX7_weighShowers_84 rfl ?_
    refine tv_aload_n (pc := 86) 4 C dX7_weighShowers_86 rfl rfl ?_
    refine tv_getr (pc := 87) (q := 6) C rfl rfl fl_X7_18 dX7_weighShowers_87 ?_
    refine tv_geti (pc := 90) (z := d 3 0) C rfl rfl fl_X7_105 dX7_weighShowers_90 ((tm_rowf_k (by omega)).trans h6) ?_
    refine tv_icmp_ge (pc := 93) 129 C dX7_weighShowers_93 (by decide) (by omega) (by omega) (fun h93 => ?_) (fun h93 => ?_)
    · skip
      refine tv_sub (lv1 := [(4, tm_l g), (2, tm_i y), (1, tm_i c), (0, .ref (E.2.1 0))]) [1, 2, 3, 4] rfl ?_
      have hin : j = (d 3 0).toNat := by omega
      subst hin
      exact hk9
    · skip
      have h4 := hd.2.2.2.2.2.2.1 j (by omega)
      refine tv_aload_n (pc := 96) 4 C dX7_weighShowers_96 rfl rfl ?_
      refine tv_getr (pc := 97) (q := 43) C rfl rfl fl_X7_73 dX7_weighShowers_97 ?_
      refine tv_getr (pc := 100) (q := 46) C rfl rfl fl_X7_244 dX7_weighShowers_100 ?_
      refine tv_aload_n (pc := 103) 4 C dX7_weighShowers_103 rfl rfl ?_
      refine tv_getr (pc := 104) (q := 6) C rfl rfl fl_X7_18 dX7_weighShowers_104 ?_
      refine tv_getr (pc := 107) (q := 7) C rfl rfl fl_X7_246 dX7_weighShowers_107 ?_
      refine tv_iload (pc := 110) 0 C dX7_weighShowers_110 rfl ?_
      refine tv_iald (pc := 112) (j := j) (z := d 4 j) C rfl dX7_weighShowers_112 (by omega) (by omega) ((tm_rowf_k (by omega)).trans (h7 j (by omega))) ?_
      refine tv_dup2 (pc := 113) C dX7_weighShowers_113 rfl rfl ?_
      refine tv_iald (pc := 114) (j := (d 4 j).toNat) (z := ct_n (fun k => decide (d 4 k = (((d 4 j).toNat : Nat) : Int)) && tb_t (x : Int) k) j) C rfl dX7_weighShowers_114 (by omega) rfl (tm_rowf_in (by omega)) ?_
      refine tv_iload_n (pc := 115) 2 C dX7_weighShowers_115 rfl rfl ?_
      refine tv_iload (pc := 116) 0 C dX7_weighShowers_116 rfl ?_
      refine tv_ishr (pc := 118) (z := ((x : Int) / 2 ^ j)) C dX7_weighShowers_118 (by rw [hz, hy]; exact tb_shr (by omega) (by omega)) ?_
      refine tv_iconst (pc := 119) C dX7_weighShowers_119 ?_
      refine tv_iand (pc := 120) (z := ((x : Int) / 2 ^ j % 2)) C dX7_weighShowers_120 (tb_and1 (by have q := Int.ediv_nonneg (a := (x : Int)) (b := 2 ^ j) (by omega) (by have := (tb_pow (k := j) (by omega)).2; omega); have q2 := Int.ediv_le_self (a := (x : Int)) (2 ^ j) (by omega); omega)) ?_
      refine tv_iadd (pc := 121) C dX7_weighShowers_121 ?_
      refine tv_iast (pc := 122) (j := (d 4 j).toNat) C rfl dX7_weighShowers_122 (by omega) rfl ?_
      refine tv_iinc (pc := 123) 0 [(6, tm_i (z + 1)), (4, tm_l g), (2, tm_i y), (1, tm_i c), (0, .ref (E.2.1 0))] C dX7_weighShowers_123 rfl (by decide) rfl ?_
      refine tv_goto (pc := 126) 84 C dX7_weighShowers_126 (by decide) ?_
      refine tv_sub (lv1 := [(6, tm_i (z + 1)), (4, tm_l g), (2, tm_i y), (1, tm_i c), (0, .ref (E.2.1 0))]) [0, 1, 2, 3, 4] rfl ?_
      rw [tm_cnr_s (by omega) (by omega)]
      exact ih (j + 1) (z + 1) (by omega) (by omega) (by omega)
theorem l_weigh2 {E : tm_Ev} {X : tm_X} (C : tm_C E X yX7_weighShowers.cls cX7_weighShowers 7 none 5) (n3 d : tm_M) (hd : dd_ok d) (x : Nat) (y c g : Int) (h8 : dd_n d ≤ 8) (hn : n3 23 4 = (dd_n d : Int)) (ho : ∀ k, k < dd_n d → n3 26 k = od_d (d 2) k ∧ n3 27 k = od_p (d 2) k) (he : ∀ k, k < 8 → n3 56 k = sm_e (dd_rain d x) 40 k) (hC : ∀ k, k < dd_n d → n3 72 k = sw_s d c k x) (hg : g = sw_w c x (d 3 0).toNat) (Q : State → Prop) (hk9 : tm_V E X Q 7 193 [(2, tm_i y), (1, tm_i c), (0, .ref (E.2.1 0))] [] (tm_rowf n3 72 (dd_n d) (fun k => sw_s d c k (x + 1)))) : ∀ (f k : Nat) (z : Int), z = k → k ≤ dd_n d → dd_n d - k < f → tm_V E X Q 7 143 [(6, tm_i z), (4, tm_l g), (2, tm_i y), (1, tm_i c), (0, .ref (E.2.1 0))] [] (tm_rowf n3 72 k (fun k => sw_s d c k (x + 1))) := by
  intro f
  induction f with
  | zero => intro k z hz hj hf; omega
  | succ f ih =>
    intro k z hz hj hf
    refine tv_iload (pc := 143) 0 C dX7_weighShowers_143 rfl ?_
    refine tv_aload_n (pc := 145) 4 C dX7_weighShowers_145 rfl rfl ?_
    refine tv_getr (pc := 146) (q := 23) C rfl rfl fl_X7_41 dX7_weighShowers_146 ?_
    refine tv_geti (pc := 149) (z := (dd_n d : Int)) C rfl rfl fl_X7_205 dX7_weighShowers_149 ((tm_rowf_k (by omega)).trans hn) ?_
    refine tv_icmp_ge (pc := 152) 193 C dX7_weighShowers_152 (by decide) (by omega) (by omega) (fun h152 => ?_) (fun h152 => ?_)
    · skip
      refine tv_sub (lv1 := [(2, tm_i y), (1, tm_i c), (0, .ref (E.2.1 0))]) [2, 3, 4] rfl ?_
      have hin : k = dd_n d := by omega
      subst hin
      exact hk9
    · skip
      refine tv_aload_n (pc := 155) 4 C dX7_weighShowers_155 rfl rfl ?_
      refine tv_getr (pc := 156) (q := 72) C rfl rfl fl_X7_86 dX7_weighShowers_156 ?_
      refine tv_iload (pc := 159) 0 C dX7_weighShowers_159 rfl ?_
      refine tv_dup2 (pc := 161) C dX7_weighShowers_161 rfl rfl ?_
      refine tv_lald (pc := 162) (j := k) (z := sw_s d c k x) C rfl dX7_weighShowers_162 (by omega) (by omega) ((tm_rowf_out (by omega)).trans (hC k (by omega))) ?_
      refine tv_aload_n (pc := 163) 4 C dX7_weighShowers_163 rfl rfl ?_
      refine tv_getr (pc := 164) (q := 49) C rfl rfl fl_X7_76 dX7_weighShowers_164 ?_
      refine tv_aload_n (pc := 167) 4 C dX7_weighShowers_167 rfl rfl ?_
      refine tv_getr (pc := 168) (q := 23) C rfl rfl fl_X7_41 dX7_weighShowers_168 ?_
      refine tv_iload (pc := 171) 0 C dX7_weighShowers_171 rfl ?_
      refine tv_callV (pc := 173) [.ref (E.2.1 23), tm_i z] [tm_l (sw_s d c k x), tm_i z, .ref (E.2.1 72)] C (c5_pays_b E _ (tm_rowf n3 72 k (fun k => sw_s d c k (x + 1))) d (sm_e (dd_rain d x) 40) hd (by rw [tm_rowf_k (by omega)]; exact hn) (by rw [tm_rowf_f (by omega), tm_rowf_f (by omega)]; exact ho) (by rw [tm_rowf_f (by omega)]; exact he) (sm_e_40 _) k _ hz (by omega)) cv_X7_206 rfl rfl (by decide) rfl (Nat.le_of_ble_eq_true rfl) rfl dX7_weighShowers_173 (tm_kp ?_)
      refine tv_ifeqB (pc := 176) 184 C dX7_weighShowers_176 (by decide) (fun h176 => ?_) (fun h176 => ?_)
      · skip
        refine tv_lconst (pc := 184) (z := 0) C dX7_weighShowers_184 rfl ?_
        refine tv_ladd (pc := 185) C dX7_weighShowers_185 ?_
        refine tv_last (pc := 186) (j := k) C rfl dX7_weighShowers_186 (by omega) (by omega) ?_
        refine tv_iinc (pc := 187) 0 [(6, tm_i (z + 1)), (4, tm_l g), (2, tm_i y), (1, tm_i c), (0, .ref (E.2.1 0))] C dX7_weighShowers_187 rfl (by decide) rfl ?_
        refine tv_goto (pc := 190) 143 C dX7_weighShowers_190 (by decide) ?_
        refine tv_sub (lv1 := [(6, tm_i (z + 1)), (4, tm_l g), (2, tm_i y), (1, tm_i c), (0, .ref (E.2.1 0))]) [0, 1, 2, 3, 4] rfl ?_
        rw [tm_rowf_s (by show _ = sw_s d c k (x + 1); rw [sw_ss]; unfold sw_T; rw [if_neg h176])]
        exact ih (k + 1) (z + 1) (by omega) (by omega) (by omega)
      · skip
        refine tv_lload (pc := 179) 1 C dX7_weighShowers_179 rfl ?_
        refine tv_goto (pc := 181) 185 C dX7_weighShowers_181 (by decide) ?_
        refine tv_ladd (pc := 185) C dX7_weighShowers_185 ?_
        refine tv_last (pc := 186) (j := k) C rfl dX7_weighShowers_186 (by omega) (by omega) ?_
        refine tv_iinc (pc := 187) 0 [(6, tm_i (z + 1)), (4, tm_l g), (2, tm_i y), (1, tm_i c), (0, .ref (E.2.1 0))] C dX7_weighShowers_187 rfl (by decide) rfl ?_
        refine tv_goto (pc := 190) 143 C dX7_weighShowers_190 (by decide) ?_
        refine tv_sub (lv1 := [(6, tm_i (z + 1)), (4, tm_l g), (2, tm_i y), (1, tm_i c), (0, .ref (E.2.1 0))]) [0, 1, 2, 3, 4] rfl ?_
        rw [tm_rowf_s (by show _ = sw_s d c k (x + 1); rw [sw_ss]; unfold sw_T; rw [if_pos h176, hg])]
        exact ih (k + 1) (z + 1) (by omega) (by omega) (by omega)
theorem l_weigh {E : tm_Ev} {X : tm_X} (C : tm_C E X yX7_weighShowers.cls cX7_weighShowers 7 none 5) (d n1 : tm_M) (hd : dd_ok d) (g2 : cl_s n1 d) (hcm : cl_m n1 d) (h8 : dd_n d ≤ 8) (c : Int) (hc : 0 ≤ c ∧ c ≤ 16) (W : Nat) (hW : (2 : Int) ^ (d 3 0).toNat = (W : Int)) (hW2 : W = 2 ^ (d 3 0).toNat) (hW64 : W ≤ 64) (post : Option Value → tm_M → Prop) (hpost : ∀ ν, (∀ a, ¬ (43 ≤ a ∧ a ≤ 56) → a ≠ 72 → ν a = n1 a) → (∀ k, k < dd_n d → ν 72 k = sw_s d c k W) → post none ν) : ∀ (f x : Nat) (y : Int) (p0 ν : tm_M), y = x → x ≤ W → W - x < f → sm_ag (sm_p ν 43) p0 → (∀ a, a ≠ 2 → p0 a = dd_p d a) → (∀ a, ¬ (43 ≤ a ∧ a ≤ 56) → a ≠ 72 → ν a = n1 a) → (∀ k, k < dd_n d → ν 72 k = sw_s d c k x) → tm_V E X (tm_Q E X post) 7 21 [(2, tm_i y), (1, tm_i c), (0, .ref (E.2.1 0))] [] ν := by
  intro f
  induction f with
  | zero => intro x y p0 ν hy hj hf hA h0 hF hC; omega
  | succ f ih =>
    intro x y p0 ν hy hj hf hA h0 hF hC
    have h6 : ν 6 1 = d 3 0 := by rw [hF 6 (by omega) (by omega)]; exact hcm.2.2.2.2.1
    have h7 : ∀ j : Nat, (j : Int) < d 3 0 → ν 7 j = d 4 j := by rw [hF 7 (by omega) (by omega)]; exact hcm.2.2.2.2.2.2.1
    have z3 := hd.2.2.2.2.1
    refine tv_iload_n (pc := 21) 0 C dX7_weighShowers_21 rfl rfl ?_
    refine tv_iconst (pc := 22) C dX7_weighShowers_22 ?_
    refine tv_aload_n (pc := 23) 2 C dX7_weighShowers_23 rfl rfl ?_
    refine tv_getr (pc := 24) (q := 6) C rfl rfl fl_X7_18 dX7_weighShowers_24 ?_
    refine tv_geti (pc := 27) (z := d 3 0) C rfl rfl fl_X7_105 dX7_weighShowers_27 h6 ?_
    refine tv_ishl (pc := 30) (z := (W : Int)) C dX7_weighShowers_30 (by rw [← hW]; exact tb_shl2 (by omega) (by omega)) ?_
    refine tv_icmp_ge (pc := 31) 199 C dX7_weighShowers_31 (by decide) (by omega) (by omega) (fun h31 => ?_) (fun h31 => ?_)
    · skip
      refine tv_vret (pc := 199) C dX7_weighShowers_199 ?_
      have hin : x = W := by omega
      subst hin
      exact hpost ν hF hC
    · skip
      refine tv_iload_n (pc := 34) 0 C dX7_weighShowers_34 rfl rfl ?_
      refine tv_callS (pc := 35) [tm_i y] [] C (cJ_bits E _ ν y) cs_X7_388 (by decide) rfl (Nat.le_of_ble_eq_true rfl) rfl dX7_weighShowers_35 (tm_ki ?_)
      rintro q nb ⟨hq, hnb⟩
      have hnb := hnb.symm
      subst hnb
      rw [hy, bc_eq (d 3 0).toNat x (by omega) (by omega)] at hq
      have hqb := ct_bd (fun k => tb_t (x : Int) k) (d 3 0).toNat
      have hsb := sw_bd6 hc x (n := (d 3 0).toNat) (by omega)
      refine tv_istore_n (pc := 38) [(3, tm_i q), (2, tm_i y), (1, tm_i c), (0, .ref (E.2.1 0))] C dX7_weighShowers_38 rfl (by decide) rfl ?_
      refine tv_iload_n (pc := 39) 2 C dX7_weighShowers_39 rfl rfl ?_
      refine tv_iload_n (pc := 40) 0 C dX7_weighShowers_40 rfl rfl ?_
      refine tv_callS (pc := 41) [tm_i c, tm_i q] [] C (c7_power E _ ν c q q.toNat (by omega) (by omega) (by omega)) cs_X7_261 (by decide) rfl (Nat.le_of_ble_eq_true rfl) rfl dX7_weighShowers_41 (tm_kl ?_)
      rintro zp np41 ⟨rfl, hnp⟩
      have hnp := hnp.symm
      subst hnp
      refine tv_bipush (pc := 44) C dX7_weighShowers_44 (by decide) ?_
      refine tv_iload_n (pc := 46) 2 C dX7_weighShowers_46 rfl rfl ?_
      refine tv_isub (pc := 47) C dX7_weighShowers_47 ?_
      refine tv_aload_n (pc := 48) 3 C dX7_weighShowers_48 rfl rfl ?_
      refine tv_getr (pc := 49) (q := 6) C rfl rfl fl_X7_18 dX7_weighShowers_49 ?_
      refine tv_geti (pc := 52) (z := d 3 0) C rfl rfl fl_X7_105 dX7_weighShowers_52 h6 ?_
      refine tv_iload_n (pc := 55) 0 C dX7_weighShowers_55 rfl rfl ?_
      refine tv_isub (pc := 56) C dX7_weighShowers_56 ?_
      refine tv_callS (pc := 57) [tm_i (16 - c), tm_i ((d 3 0) - q)] [tm_l (c ^ q.toNat)] C (c7_power E _ ν (16 - c) ((d 3 0) - q) ((d 3 0).toNat - q.toNat) (by omega) (by omega) (by omega)) cs_X7_261 (by decide) rfl (Nat.le_of_ble_eq_true rfl) rfl dX7_weighShowers_57 (tm_kl ?_)
      rintro zp np57 ⟨rfl, hnp⟩
      have hnp := hnp.symm
      subst hnp
      refine tv_lmul (pc := 60) C dX7_weighShowers_60 ?_
      refine tv_topl (sw_w c x (d 3 0).toNat) (by rw [sw_pow, hq]) ?_
      refine tv_lstore (pc := 61) [(4, tm_l (sw_w c x (d 3 0).toNat)), (3, tm_i q), (2, tm_i y), (1, tm_i c), (0, .ref (E.2.1 0))] C dX7_weighShowers_61 (by decide) rfl ?_
      refine tv_lload (pc := 63) 0 C dX7_weighShowers_63 rfl ?_
      refine tv_lconst (pc := 65) (z := 0) C dX7_weighShowers_65 rfl ?_
      refine tv_lc_le (pc := 66) 193 C dX7_weighShowers_66 dX7_weighShowers_67 (by decide) (by omega) (by omega) (fun h66 => ?_) (fun h66 => ?_)
      · skip
        refine tv_iinc (pc := 193) 2 [(2, tm_i (y + 1)), (4, tm_l (sw_w c x (d 3 0).toNat)), (3, tm_i q), (1, tm_i c), (0, .ref (E.2.1 0))] C dX7_weighShowers_193 rfl (by decide) rfl ?_
        refine tv_goto (pc := 196) 21 C dX7_weighShowers_196 (by decide) ?_
        refine tv_sub (lv1 := [(2, tm_i (y + 1)), (1, tm_i c), (0, .ref (E.2.1 0))]) [0, 3, 4] rfl ?_
        exact ih (x + 1) (y + 1) p0 ν (by omega) (by omega) (by omega) hA h0 hF (fun k hk => by rw [sw_ss, hC k hk]; unfold sw_T; rw [show sw_w c x (d 3 0).toNat = 0 by omega]; split <;> omega)
      · skip
        refine tv_aload_n (pc := 70) 4 C dX7_weighShowers_70 rfl rfl ?_
        refine tv_getr (pc := 71) (q := 43) C rfl rfl fl_X7_73 dX7_weighShowers_71 ?_
        refine tv_getr (pc := 74) (q := 46) C rfl rfl fl_X7_244 dX7_weighShowers_74 ?_
        refine tv_iconst (pc := 77) C dX7_weighShowers_77 ?_
        refine tv_callS (pc := 78) [.ref (E.2.1 46), tm_i 0] [] C (cJ_fill E _ ν 46 40 0 rfl) cs_X7_376 (by decide) rfl (Nat.le_of_ble_eq_true rfl) rfl dX7_weighShowers_78 (tm_kv ?_)
        rintro _ rfl
        refine tv_iconst (pc := 81) C dX7_weighShowers_81 ?_
        refine tv_istore (pc := 82) [(6, tm_i 0), (4, tm_l (sw_w c x (d 3 0).toNat)), (3, tm_i q), (2, tm_i y), (1, tm_i c), (0, .ref (E.2.1 0))] C dX7_weighShowers_82 (by decide) rfl ?_
        refine tv_sub (lv1 := [(6, tm_i 0), (4, tm_l (sw_w c x (d 3 0).toNat)), (2, tm_i y), (1, tm_i c), (0, .ref (E.2.1 0))]) [0, 1, 3, 4, 5] rfl ?_
        have hA3 := ag_rn (x := x) hA h0
        refine tv_mem (tm_rowf ν 46 40 (fun b => ct_n (fun k => decide (d 4 k = (b : Int)) && tb_t (x : Int) k) 0)) (funext fun a => funext fun b => rfl) ?_
        refine l_weigh1 C ν d hd h6 h7 z3 x y c _ hy (by omega) _ ?_ 7 0 0 rfl (by omega) (by omega)
        refine tv_aload_n (pc := 129) 3 C dX7_weighShowers_129 rfl rfl ?_
        refine tv_getr (pc := 130) (q := 49) C rfl rfl fl_X7_76 dX7_weighShowers_130 ?_
        refine tv_aload_n (pc := 133) 3 C dX7_weighShowers_133 rfl rfl ?_
        refine tv_getr (pc := 134) (q := 43) C rfl rfl fl_X7_73 dX7_weighShowers_134 ?_
        refine tv_callV (pc := 137) [.ref (E.2.1 43)] [] C (c5_play_b E _ (tm_rowf ν 46 40 (fun b => ct_n (fun k => decide (d 4 k = (b : Int)) && tb_t (x : Int) k) (d 3 0).toNat)) (sm_ag_ok hA3 (rn_ok hd x))) cv_X7_229 rfl rfl (by decide) rfl (Nat.le_of_ble_eq_true rfl) rfl dX7_weighShowers_137 (tm_kv ?_)
        rintro n3 hr9
        obtain ⟨hN, hF2⟩ := cl_N_of hA3 (rn_ok hd x) hr9
        clear hr9
        refine tv_iconst (pc := 140) C dX7_weighShowers_140 ?_
        refine tv_istore (pc := 141) [(6, tm_i 0), (4, tm_l (sw_w c x (d 3 0).toNat)), (2, tm_i y), (1, tm_i c), (0, .ref (E.2.1 0))] C dX7_weighShowers_141 (by decide) rfl ?_
        refine tv_sub (lv1 := [(6, tm_i 0), (4, tm_l (sw_w c x (d 3 0).toNat)), (2, tm_i y), (1, tm_i c), (0, .ref (E.2.1 0))]) [0, 1, 2, 3, 4] rfl ?_
        have e3 : ∀ a, ¬ (43 ≤ a ∧ a ≤ 56) → a ≠ 72 → n3 a = n1 a := fun a h1 h2 => by rw [hF2 a (by omega), tm_rowf_f (by omega), hF a h1 h2]
        have hC3 : ∀ k, k < dd_n d → n3 72 k = sw_s d c k x := fun k hk => by rw [hF2 72 (by omega), tm_rowf_k (by omega)]; exact hC k hk
        refine tv_mem (tm_rowf n3 72 0 (fun k => sw_s d c k (x + 1))) (tm_rowf_0 _ _ _).symm ?_
        refine l_weigh2 C n3 d hd x y c _ h8 (by rw [e3 23 (by omega) (by omega)]; exact g2.2.1) (by rw [e3 26 (by omega) (by omega), e3 27 (by omega) (by omega)]; exact fun k hk => ⟨(g2.2.2.1 k hk).2.2.1, (g2.2.2.1 k hk).2.2.2⟩) hN.2.2 hC3 rfl _ ?_ (dd_n d + 1) 0 0 rfl (by omega) (by omega)
        refine tv_iinc (pc := 193) 0 [(2, tm_i (y + 1)), (1, tm_i c), (0, .ref (E.2.1 0))] C dX7_weighShowers_193 rfl (by decide) rfl ?_
        refine tv_goto (pc := 196) 21 C dX7_weighShowers_196 (by decide) ?_
        refine tv_sub (lv1 := [(2, tm_i (y + 1)), (1, tm_i c), (0, .ref (E.2.1 0))]) [0, 1, 2] rfl ?_
        refine ih (x + 1) (y + 1) (dd_rain d x) _ (by omega) (by omega) (by omega) ?_ (fun a ha => rn_o d x a ha) (fun a h1 h2 => by rw [tm_rowf_f h2]; exact e3 a h1 h2) (fun k hk => tm_rowf_in hk)
        rw [sm_p_same (fun a ha => (tm_rowf_f (by omega)).trans (hF2 a (by omega)))]
        exact hA3
theorem pw_W {d : tm_M} (hd : dd_ok d) : (2 : Int) ^ (d 3 0).toNat = ((2 ^ (d 3 0).toNat : Nat) : Int) ∧ 2 ^ (d 3 0).toNat ≤ 64 := by
  have z3 := hd.2.2.2.2.1
  refine ⟨by simp, ?_⟩
  exact Nat.pow_le_pow_right (n := 2) (by omega) (show (d 3 0).toNat ≤ 6 by omega)
theorem c7_weigh (E : tm_Ev) (l : Launch) (μ : tm_M) (d : tm_M) (hd : dd_ok d) (g2 : cl_s μ d) (hcm : cl_m μ d) (c : Int) (hc : 0 ≤ c ∧ c ≤ 16) : tm_Met E l yX7_weighShowers cX7_weighShowers 7 none 5 [.ref (E.2.1 0), tm_i c] μ (tm_pv (fun μ' => (∀ a, ¬ (43 ≤ a ∧ a ≤ 56) → a ≠ 72 → μ' a = μ a) ∧ ∀ k, k < dd_n d → μ' 72 k = sw_s d c k (2 ^ (d 3 0).toNat))) := by
  refine tm_intro [(0, .ref (E.2.1 0)), (1, tm_i c)] rfl (by decide +kernel) (Nat.le_of_ble_eq_true rfl) ?_
  intro X hX C
  subst hX
  have h8 : dd_n d ≤ 8 := sp_no_bd _ (by have q := hd.2.1; omega)
  have hWW := pw_W hd
  refine tv_aload_n (pc := 0) 0 C dX7_weighShowers_0 rfl rfl ?_
  refine tv_getr (pc := 1) (q := 72) C rfl rfl fl_X7_86 dX7_weighShowers_1 ?_
  refine tv_lconst (pc := 4) (z := 0) C dX7_weighShowers_4 rfl ?_
  refine tv_callS (pc := 5) [.ref (E.2.1 72), tm_l 0] [] C (cJ_filll E _ μ 0) cs_X7_385 (by decide) rfl (Nat.le_of_ble_eq_true rfl) rfl dX7_weighShowers_5 (tm_kv ?_)
  rintro nf hnf
  have hF5 : ∀ a, a ≠ 72 → nf a = μ a := fun a ha => by rw [hnf, tm_fill_f ha]
  have hC5 : ∀ b, b < 8 → nf 72 b = 0 := fun b hb => by rw [hnf, tm_fill_in hb]
  clear hnf
  have hS : cl_s nf d := cl_s_same g2 (fun a ha => hF5 a (by omega))
  refine tv_aload_n (pc := 8) 0 C dX7_weighShowers_8 rfl rfl ?_
  refine tv_getr (pc := 9) (q := 43) C rfl rfl fl_X7_73 dX7_weighShowers_9 ?_
  refine tv_aload_n (pc := 12) 0 C dX7_weighShowers_12 rfl rfl ?_
  refine tv_getr (pc := 13) (q := 29) C rfl rfl fl_X7_62 dX7_weighShowers_13 ?_
  refine tv_callV (pc := 16) [.ref (E.2.1 29)] [] C (c0_like E _ nf) cv_X7_224 rfl rfl (by decide) rfl (Nat.le_of_ble_eq_true rfl) rfl dX7_weighShowers_16 (tm_kv ?_)
  rintro n2 ⟨gl, hF3⟩
  have hA := gl (dd_p d) hS.1 (dd_p_ok hd)
  clear gl
  refine tv_iconst (pc := 19) C dX7_weighShowers_19 ?_
  refine tv_istore_n (pc := 20) [(2, tm_i 0), (0, .ref (E.2.1 0)), (1, tm_i c)] C dX7_weighShowers_20 rfl (by decide) rfl ?_
  refine tv_sub (lv1 := [(2, tm_i 0), (1, tm_i c), (0, .ref (E.2.1 0))]) [0, 2, 1] rfl ?_
  exact l_weigh C d μ hd g2 hcm h8 c hc (2 ^ (d 3 0).toNat) hWW.1 rfl hWW.2 _ (fun ν q1 q2 => ⟨rfl, q1, q2⟩) (2 ^ (d 3 0).toNat + 1) 0 0 (dd_p d) n2 rfl (Nat.zero_le _) (Nat.lt_succ_of_le (Nat.sub_le _ _)) hA (fun a _ => rfl) (fun a h1 h2 => by rw [hF3 a (by omega), hF5 a h2]) (fun k hk => by rw [hF3 72 (by omega), hC5 k (by omega)]; rfl)
theorem pw_h (m : Nat) : (2 : Int) ^ (m + 1) / 2 = 2 ^ m := by
  rw [Int.pow_succ, Int.mul_ediv_cancel _ (by omega)]
theorem pw_b {m : Nat} (hm : m ≤ 24) : 1 ≤ (2 : Int) ^ m ∧ (2 : Int) ^ m ≤ 16777216 := by
  have h : ∀ m : Fin 25, 1 ≤ (2 : Int) ^ (m : Nat) ∧ (2 : Int) ^ (m : Nat) ≤ 16777216 := by decide +kernel
  exact h ⟨m, by omega⟩
theorem l_shower {E : tm_Ev} {X : tm_X} (C : tm_C E X yX7_shower.cls cX7_shower 9 (some .long) 6) (ν d : tm_M) (h6 : ν 6 1 = d 3 0) (z3 : 0 ≤ d 3 0 ∧ d 3 0 ≤ 6) (w : Int) (hw : 0 ≤ w ∧ w ≤ 1) (R : Int × Int) (post : Option Value → tm_M → Prop) (hpost : post (some (tm_l (if w = 0 then R.1 else R.2))) ν) : ∀ (f e : Nat) (y a b : Int), y + e = 4 * d 3 0 → (0 ≤ y ∧ e < f) → (0 ≤ a ∧ a ≤ 1073741824) → b = 2 ^ e → hv_n e a = R → tm_V E X (tm_Q E X post) 9 74 [(8, tm_i y), (4, tm_l a), (6, tm_l b), (0, .ref (E.2.1 0)), (3, tm_i w)] [] ν := by
  intro f
  induction f with
  | zero => intro e y a b hy hj ha hb hR; omega
  | succ f ih =>
    intro e y a b hy hj ha hb hR
    refine tv_iload (pc := 74) 0 C dX7_shower_74 rfl ?_
    refine tv_iconst (pc := 76) C dX7_shower_76 ?_
    refine tv_aload_n (pc := 77) 3 C dX7_shower_77 rfl rfl ?_
    refine tv_getr (pc := 78) (q := 6) C rfl rfl fl_X7_18 dX7_shower_78 ?_
    refine tv_geti (pc := 81) (z := d 3 0) C rfl rfl fl_X7_105 dX7_shower_81 h6 ?_
    refine tv_imul (pc := 84) C dX7_shower_84 ?_
    refine tv_icmp_ge (pc := 85) 121 C dX7_shower_85 (by decide) (by omega) (by omega) (fun h85 => ?_) (fun h85 => ?_)
    · skip
      refine tv_iload_n (pc := 121) 4 C dX7_shower_121 rfl rfl ?_
      refine tv_if_ne (pc := 122) 130 C dX7_shower_122 (by decide) (by omega) (fun h122 => ?_) (fun h122 => ?_)
      · skip
        refine tv_lload (pc := 130) 2 C dX7_shower_130 rfl ?_
        refine tv_lret (pc := 132) C dX7_shower_132 ?_
        have hR2 : R = (a, b) := by
          rcases (show e = 0 ∨ 0 < e by omega) with he | he
          · first
              | (exfalso; omega)
              | (subst he; rw [← hR, hb]; rfl)
          · first
              | (exfalso; omega)
              | (rw [if_neg h95] at hR; rw [← hR, hb])
        have ez : b = (if w = 0 then R.1 else R.2) := by rw [hR2, if_neg (by omega)]
        rw [ez]
        exact hpost
      · skip
        refine tv_lload (pc := 125) 1 C dX7_shower_125 rfl ?_
        refine tv_goto (pc := 127) 132 C dX7_shower_127 (by decide) ?_
        refine tv_lret (pc := 132) C dX7_shower_132 ?_
        have hR2 : R = (a, b) := by
          rcases (show e = 0 ∨ 0 < e by omega) with he | he
          · first
              | (exfalso; omega)
              | (subst he; rw [← hR, hb]; rfl)
          · first
              | (exfalso; omega)
              | (rw [if_neg h95] at hR; rw [← hR, hb])
        have ez : a = (if w = 0 then R.1 else R.2) := by rw [hR2, if_pos (by omega)]
        rw [ez]
        exact hpost
    · skip
      obtain ⟨m, hem⟩ : ∃ m, e = m + 1 := ⟨e - 1, by omega⟩
      have hpb := pw_b (m := m + 1) (by omega)
      rw [hem, hv_s] at hR
      rw [hem] at hb
      refine tv_lload (pc := 88) 1 C dX7_shower_88 rfl ?_
      refine tv_ldc2 (pc := 90) (z := 2) C kl_X7_265 dX7_shower_90 (by decide) ?_
      refine tv_lrem (pc := 93) C dX7_shower_93 (by omega) (by omega) ?_
      refine tv_lconst (pc := 94) (z := 0) C dX7_shower_94 rfl ?_
      refine tv_lc_ne (pc := 95) 121 C dX7_shower_95 dX7_shower_96 (by decide) (by omega) (by omega) (fun h95 => ?_) (fun h95 => ?_)
      · skip
        refine tv_iload_n (pc := 121) 4 C dX7_shower_121 rfl rfl ?_
        refine tv_if_ne (pc := 122) 130 C dX7_shower_122 (by decide) (by omega) (fun h122 => ?_) (fun h122 => ?_)
        · skip
          refine tv_lload (pc := 130) 2 C dX7_shower_130 rfl ?_
          refine tv_lret (pc := 132) C dX7_shower_132 ?_
          have hR2 : R = (a, b) := by
            rcases (show e = 0 ∨ 0 < e by omega) with he | he
            · first
                | (exfalso; omega)
                | (subst he; rw [← hR, hb]; rfl)
            · first
                | (exfalso; omega)
                | (rw [if_neg h95] at hR; rw [← hR, hb])
          have ez : b = (if w = 0 then R.1 else R.2) := by rw [hR2, if_neg (by omega)]
          rw [ez]
          exact hpost
        · skip
          refine tv_lload (pc := 125) 1 C dX7_shower_125 rfl ?_
          refine tv_goto (pc := 127) 132 C dX7_shower_127 (by decide) ?_
          refine tv_lret (pc := 132) C dX7_shower_132 ?_
          have hR2 : R = (a, b) := by
            rcases (show e = 0 ∨ 0 < e by omega) with he | he
            · first
                | (exfalso; omega)
                | (subst he; rw [← hR, hb]; rfl)
            · first
                | (exfalso; omega)
                | (rw [if_neg h95] at hR; rw [← hR, hb])
          have ez : a = (if w = 0 then R.1 else R.2) := by rw [hR2, if_pos (by omega)]
          rw [ez]
          exact hpost
      · skip
        refine tv_lload (pc := 99) 1 C dX7_shower_99 rfl ?_
        refine tv_ldc2 (pc := 101) (z := 2) C kl_X7_265 dX7_shower_101 (by decide) ?_
        refine tv_ldiv (pc := 104) C dX7_shower_104 (by omega) (by omega) ?_
        refine tv_lstore (pc := 105) [(4, tm_l (a / 2)), (8, tm_i y), (6, tm_l b), (0, .ref (E.2.1 0)), (3, tm_i w)] C dX7_shower_105 (by decide) rfl ?_
        refine tv_lload (pc := 107) 2 C dX7_shower_107 rfl ?_
        refine tv_ldc2 (pc := 109) (z := 2) C kl_X7_265 dX7_shower_109 (by decide) ?_
        refine tv_ldiv (pc := 112) C dX7_shower_112 (by omega) (by omega) ?_
        refine tv_lstore (pc := 113) [(6, tm_l (b / 2)), (4, tm_l (a / 2)), (8, tm_i y), (0, .ref (E.2.1 0)), (3, tm_i w)] C dX7_shower_113 (by decide) rfl ?_
        refine tv_iinc (pc := 115) 2 [(8, tm_i (y + 1)), (6, tm_l (b / 2)), (4, tm_l (a / 2)), (0, .ref (E.2.1 0)), (3, tm_i w)] C dX7_shower_115 rfl (by decide) rfl ?_
        refine tv_goto (pc := 118) 74 C dX7_shower_118 (by decide) ?_
        refine tv_sub (lv1 := [(8, tm_i (y + 1)), (4, tm_l (a / 2)), (6, tm_l (b / 2)), (0, .ref (E.2.1 0)), (3, tm_i w)]) [0, 2, 1, 3, 4] rfl ?_
        rw [if_pos h95] at hR
        exact ih m (y + 1) _ _ (by omega) (by omega) (by omega) (by rw [hb, pw_h]) hR
theorem k7_shower (E : tm_Ev) (l : Launch) (μ : tm_M) (d s : tm_M) (hd : dd_ok d) (hI : cl_I μ d s) (c k w : Int) (hc : -2147483648 ≤ c ∧ c ≤ 2147483647) (hk : -2147483648 ≤ k ∧ k ≤ 2147483647) (hw : -2147483648 ≤ w ∧ w ≤ 2147483647) : tm_Met E l yX7_shower cX7_shower 9 (some .long) 6 [.ref (E.2.1 0), tm_i c, tm_i k, tm_i w] μ (tm_pl (fun z μ' => z = sr_z d c k w ∧ cl_I μ' d s ∧ ∀ a, 74 ≤ a → μ' a = μ a)) := by
  refine tm_intro [(0, .ref (E.2.1 0)), (1, tm_i c), (2, tm_i k), (3, tm_i w)] rfl (by decide +kernel) (Nat.le_of_ble_eq_true rfl) ?_
  intro X hX C
  subst hX
  have h8 : dd_n d ≤ 8 := sp_no_bd _ (by have q := hd.2.1; omega)
  have hWW := pw_W hd
  have z3 := hd.2.2.2.2.1
  refine tv_iload_n (pc := 0) 1 C dX7_shower_0 rfl rfl ?_
  refine tv_iconst (pc := 1) C dX7_shower_1 ?_
  refine tv_bipush (pc := 2) C dX7_shower_2 (by decide) ?_
  refine tv_callS (pc := 4) [tm_i c, tm_i 0, tm_i 16] [] C (c7_within E _ μ c 0 16 (by omega) (by omega) (by omega)) cs_X7_97 (by decide) rfl (Nat.le_of_ble_eq_true rfl) rfl dX7_shower_4 (tm_kp ?_)
  refine tv_ifeqB (pc := 7) 27 C dX7_shower_7 (by decide) (fun h7 => ?_) (fun h7 => ?_)
  · skip
    refine tv_ldc2 (pc := 27) (z := (-9223372036854775806)) C kl_X7_256 dX7_shower_27 (by decide) ?_
    refine tv_lret (pc := 30) C dX7_shower_30 ?_
    exact ⟨_, rfl, by unfold sr_z; rw [if_neg (by omega)], hI, fun a _ => rfl⟩
  · skip
    refine tv_aload_n (pc := 10) 0 C dX7_shower_10 rfl rfl ?_
    refine tv_iload_n (pc := 11) 2 C dX7_shower_11 rfl rfl ?_
    refine tv_callV (pc := 12) [tm_i k] [] C (k7_isOrder E _ μ d s hd hI k (by omega)) cv_X7_131 rfl rfl (by decide) rfl (Nat.le_of_ble_eq_true rfl) rfl dX7_shower_12 (tm_ki ?_)
    rintro z1 n1 ⟨rfl, hI1, g2, g3, fr1⟩
    have h18 : -1 ≤ n1 0 18 ∧ n1 0 18 ≤ 16 := by
      rcases hI1.2.2.2.2.2.2 with q | ⟨q, -⟩
      · omega
      · omega
    refine tv_ifeqB (pc := 15) 27 C dX7_shower_15 (by decide) (fun h15 => ?_) (fun h15 => ?_)
    · skip
      refine tv_ldc2 (pc := 27) (z := (-9223372036854775806)) C kl_X7_256 dX7_shower_27 (by decide) ?_
      refine tv_lret (pc := 30) C dX7_shower_30 ?_
      exact ⟨_, rfl, by unfold sr_z; rw [if_neg (by omega)], hI1, fr1⟩
    · skip
      refine tv_iload_n (pc := 18) 3 C dX7_shower_18 rfl rfl ?_
      refine tv_iconst (pc := 19) C dX7_shower_19 ?_
      refine tv_iconst (pc := 20) C dX7_shower_20 ?_
      refine tv_callS (pc := 21) [tm_i w, tm_i 0, tm_i 1] [] C (c7_within E _ n1 w 0 1 (by omega) (by omega) (by omega)) cs_X7_97 (by decide) rfl (Nat.le_of_ble_eq_true rfl) rfl dX7_shower_21 (tm_kp ?_)
      refine tv_ifneB (pc := 24) 31 C dX7_shower_24 (by decide) (fun h24 => ?_) (fun h24 => ?_)
      · skip
        refine tv_aload_n (pc := 31) 0 C dX7_shower_31 rfl rfl ?_
        refine tv_geti (pc := 32) (z := n1 0 18) C rfl rfl fl_X7_93 dX7_shower_32 rfl ?_
        refine tv_iload_n (pc := 35) 1 C dX7_shower_35 rfl rfl ?_
        refine tv_icmp_eq (pc := 36) 49 C dX7_shower_36 (by decide) (by omega) (by omega) (fun h36 => ?_) (fun h36 => ?_)
        · skip
          have hch : n1 72 k.toNat = sw_s d c k.toNat (2 ^ (d 3 0).toNat) := by
            rcases hI1.2.2.2.2.2.2 with q | ⟨q1, q2, q3⟩
            · exfalso; omega
            · have q := q3 k.toNat (by omega)
              rw [h36] at q
              exact q
          have h6 := hI1.1.2.2.2.2.1
          refine tv_aload_n (pc := 49) 0 C dX7_shower_49 rfl rfl ?_
          refine tv_getr (pc := 50) (q := 72) C rfl rfl fl_X7_86 dX7_shower_50 ?_
          refine tv_iload_n (pc := 53) 2 C dX7_shower_53 rfl rfl ?_
          refine tv_lald (pc := 54) (j := k.toNat) (z := sw_s d c k.toNat (2 ^ (d 3 0).toNat)) C rfl dX7_shower_54 (by omega) (by omega) hch ?_
          refine tv_lstore (pc := 55) [(4, tm_l (sw_s d c k.toNat (2 ^ (d 3 0).toNat))), (0, .ref (E.2.1 0)), (1, tm_i c), (2, tm_i k), (3, tm_i w)] C dX7_shower_55 (by decide) rfl ?_
          refine tv_bipush (pc := 57) C dX7_shower_57 (by decide) ?_
          refine tv_aload_n (pc := 59) 1 C dX7_shower_59 rfl rfl ?_
          refine tv_getr (pc := 60) (q := 6) C rfl rfl fl_X7_18 dX7_shower_60 ?_
          refine tv_geti (pc := 63) (z := d 3 0) C rfl rfl fl_X7_105 dX7_shower_63 h6 ?_
          refine tv_callS (pc := 66) [tm_i 16, tm_i (d 3 0)] [] C (c7_power E _ n1 16 (d 3 0) (d 3 0).toNat (by omega) (by omega) (by omega)) cs_X7_261 (by decide) rfl (Nat.le_of_ble_eq_true rfl) rfl dX7_shower_66 (tm_kl ?_)
          rintro zp np ⟨rfl, rfl⟩
          refine tv_lstore (pc := 69) [(6, tm_l ((16 : Int) ^ (d 3 0).toNat)), (4, tm_l (sw_s d c k.toNat (2 ^ (d 3 0).toNat))), (0, .ref (E.2.1 0)), (1, tm_i c), (2, tm_i k), (3, tm_i w)] C dX7_shower_69 (by decide) rfl ?_
          refine tv_iconst (pc := 71) C dX7_shower_71 ?_
          refine tv_istore (pc := 72) [(8, tm_i 0), (6, tm_l ((16 : Int) ^ (d 3 0).toNat)), (4, tm_l (sw_s d c k.toNat (2 ^ (d 3 0).toNat))), (0, .ref (E.2.1 0)), (1, tm_i c), (2, tm_i k), (3, tm_i w)] C dX7_shower_72 (by decide) rfl ?_
          refine tv_sub (lv1 := [(8, tm_i 0), (4, tm_l (sw_s d c k.toNat (2 ^ (d 3 0).toNat))), (6, tm_l ((16 : Int) ^ (d 3 0).toNat)), (0, .ref (E.2.1 0)), (3, tm_i w)]) [0, 2, 1, 3, 6] rfl ?_
          refine l_shower C _ d (hI1.1.2.2.2.2.1) hd.2.2.2.2.1 w (by omega) (hv_n (4 * (d 3 0).toNat) (sw_s d c k.toNat (2 ^ (d 3 0).toNat))) _ ⟨_, rfl, ?_, hI1, fr1⟩ (4 * (d 3 0).toNat + 1) (4 * (d 3 0).toNat) 0 _ _ (by omega) (by omega) (sw_s_bd hd (by omega) _ hWW.2) ?_ rfl
          · rw [show (16 : Int) = 2 ^ 4 by decide, ← Int.pow_mul]
          · unfold sr_z; exact (if_pos (by omega)).symm
        · skip
          refine tv_aload_n (pc := 39) 0 C dX7_shower_39 rfl rfl ?_
          refine tv_iload_n (pc := 40) 1 C dX7_shower_40 rfl rfl ?_
          refine tv_callV (pc := 41) [tm_i c] [] C (c7_weigh E _ n1 d hd g2 hI1.1 c (by omega)) cv_X7_258 rfl rfl (by decide) rfl (Nat.le_of_ble_eq_true rfl) rfl dX7_shower_41 (tm_kv ?_)
          rintro n2 ⟨hF, hC⟩
          refine tv_aload_n (pc := 44) 0 C dX7_shower_44 rfl rfl ?_
          refine tv_iload_n (pc := 45) 1 C dX7_shower_45 rfl rfl ?_
          refine tv_puti (pc := 46) C rfl rfl fp_X7_93 dX7_shower_46 ?_
          have hch : tm_up n2 0 18 c 72 k.toNat = sw_s d c k.toNat (2 ^ (d 3 0).toNat) := by rw [tm_uk (by decide)]; exact hC k.toNat (by omega)
          have h6 : n2 6 1 = d 3 0 := by rw [hF 6 (by omega) (by omega)]; exact hI1.1.2.2.2.2.1
          refine tv_aload_n (pc := 49) 0 C dX7_shower_49 rfl rfl ?_
          refine tv_getr (pc := 50) (q := 72) C rfl rfl fl_X7_86 dX7_shower_50 ?_
          refine tv_iload_n (pc := 53) 2 C dX7_shower_53 rfl rfl ?_
          refine tv_lald (pc := 54) (j := k.toNat) (z := sw_s d c k.toNat (2 ^ (d 3 0).toNat)) C rfl dX7_shower_54 (by omega) (by omega) ((tm_uk (by decide)).trans (hC k.toNat (by omega))) ?_
          refine tv_lstore (pc := 55) [(4, tm_l (sw_s d c k.toNat (2 ^ (d 3 0).toNat))), (0, .ref (E.2.1 0)), (1, tm_i c), (2, tm_i k), (3, tm_i w)] C dX7_shower_55 (by decide) rfl ?_
          refine tv_bipush (pc := 57) C dX7_shower_57 (by decide) ?_
          refine tv_aload_n (pc := 59) 1 C dX7_shower_59 rfl rfl ?_
          refine tv_getr (pc := 60) (q := 6) C rfl rfl fl_X7_18 dX7_shower_60 ?_
          refine tv_geti (pc := 63) (z := d 3 0) C rfl rfl fl_X7_105 dX7_shower_63 ((tm_uk (by decide)).trans (h6)) ?_
          refine tv_callS (pc := 66) [tm_i 16, tm_i (d 3 0)] [] C (c7_power E _ (tm_up n2 0 18 c) 16 (d 3 0) (d 3 0).toNat (by omega) (by omega) (by omega)) cs_X7_261 (by decide) rfl (Nat.le_of_ble_eq_true rfl) rfl dX7_shower_66 (tm_kl ?_)
          rintro zp np ⟨rfl, rfl⟩
          refine tv_lstore (pc := 69) [(6, tm_l ((16 : Int) ^ (d 3 0).toNat)), (4, tm_l (sw_s d c k.toNat (2 ^ (d 3 0).toNat))), (0, .ref (E.2.1 0)), (1, tm_i c), (2, tm_i k), (3, tm_i w)] C dX7_shower_69 (by decide) rfl ?_
          refine tv_iconst (pc := 71) C dX7_shower_71 ?_
          refine tv_istore (pc := 72) [(8, tm_i 0), (6, tm_l ((16 : Int) ^ (d 3 0).toNat)), (4, tm_l (sw_s d c k.toNat (2 ^ (d 3 0).toNat))), (0, .ref (E.2.1 0)), (1, tm_i c), (2, tm_i k), (3, tm_i w)] C dX7_shower_72 (by decide) rfl ?_
          refine tv_sub (lv1 := [(8, tm_i 0), (4, tm_l (sw_s d c k.toNat (2 ^ (d 3 0).toNat))), (6, tm_l ((16 : Int) ^ (d 3 0).toNat)), (0, .ref (E.2.1 0)), (3, tm_i w)]) [0, 2, 1, 3, 6] rfl ?_
          refine l_shower C _ d (by rw [tm_uk (by decide), hF 6 (by omega) (by omega)]; exact hI1.1.2.2.2.2.1) hd.2.2.2.2.1 w (by omega) (hv_n (4 * (d 3 0).toNat) (sw_s d c k.toNat (2 ^ (d 3 0).toNat))) _ ⟨_, rfl, ?_, cl_I_w hI1 g3 (by omega) (fun a h1 h2 h3 => by rw [tm_uf h3]; exact hF a h1 h2) (fun b hb => by rw [tm_uj hb, hF 0 (by omega) (by omega)]) tm_us (fun k hk => by rw [tm_uk (by omega)]; exact hC k hk), fun a ha => by rw [tm_uf (by omega), hF a (by omega) (by omega)]; exact fr1 a ha⟩ (4 * (d 3 0).toNat + 1) (4 * (d 3 0).toNat) 0 _ _ (by omega) (by omega) (sw_s_bd hd (by omega) _ hWW.2) ?_ rfl
          · rw [show (16 : Int) = 2 ^ 4 by decide, ← Int.pow_mul]
          · unfold sr_z; exact (if_pos (by omega)).symm
      · skip
        refine tv_ldc2 (pc := 27) (z := (-9223372036854775806)) C kl_X7_256 dX7_shower_27 (by decide) ?_
        refine tv_lret (pc := 30) C dX7_shower_30 ?_
        exact ⟨_, rfl, by unfold sr_z; rw [if_neg (by omega)], hI1, fr1⟩
