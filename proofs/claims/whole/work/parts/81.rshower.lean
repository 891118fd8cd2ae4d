theorem l_lowest {E : tm_Ev} {X : tm_X} (C : tm_C E X yX8_lowest.cls cX8_lowest 11 (some .long) 0) (μ : tm_M) (A B : Nat) (a b w : Int) (ha : a = (A : Int)) (hb : b = (B : Int)) (hA : A ≤ 2147483647) (hB : 0 < B) (hB2 : B ≤ 2147483647) (hw : 0 ≤ w ∧ w ≤ 1) (post : Option Value → tm_M → Prop) (hpost : post (some (tm_l (if w = 0 then ((A / Nat.gcd A B : Nat) : Int) else ((B / Nat.gcd A B : Nat) : Int)))) μ) : ∀ (f u v : Nat) (x y : Int), x = (u : Int) → y = (v : Int) → v < f → (u ≤ 2147483647 ∧ v ≤ 2147483647) → Nat.gcd u v = Nat.gcd A B → tm_V E X (tm_Q E X post) 11 6 [(7, tm_l y), (5, tm_l x), (0, tm_l a), (2, tm_l b), (4, tm_i w)] [] μ := by
  intro f
  induction f with
  | zero => intro u v x y hx hy hf hb9 hg; omega
  | succ f ih =>
    intro u v x y hx hy hf hb9 hg
    refine tv_lload (pc := 6) 0 C dX8_lowest_6 rfl ?_
    refine tv_lconst (pc := 8) (z := 0) C dX8_lowest_8 rfl ?_
    refine tv_lc_eq (pc := 9) 31 C dX8_lowest_9 dX8_lowest_10 (by decide) (by omega) (by omega) (fun h9 => ?_) (fun h9 => ?_)
    · skip
      have hv0 : v = 0 := by omega
      subst hv0
      rw [Nat.gcd_zero_right] at hg
      have hu : 0 < u := by rw [hg]; exact Nat.gcd_pos_of_pos_right _ hB
      refine tv_iload (pc := 31) 4 C dX8_lowest_31 rfl ?_
      refine tv_if_ne (pc := 33) 43 C dX8_lowest_33 (by decide) (by omega) (fun h33 => ?_) (fun h33 => ?_)
      · skip
        refine tv_lload_n (pc := 43) 3 C dX8_lowest_43 rfl rfl ?_
        refine tv_lload (pc := 44) 1 C dX8_lowest_44 rfl ?_
        refine tv_ldiv (pc := 46) C dX8_lowest_46 (by omega) (by omega) ?_
        refine tv_lret (pc := 47) C dX8_lowest_47 ?_
        have ez : b / x = (if w = 0 then ((A / Nat.gcd A B : Nat) : Int) else ((B / Nat.gcd A B : Nat) : Int)) := by
          rw [if_neg (by omega), ← hg, hx, hb]; rfl
        rw [ez]
        exact hpost
      · skip
        refine tv_lload_n (pc := 36) 2 C dX8_lowest_36 rfl rfl ?_
        refine tv_lload (pc := 37) 1 C dX8_lowest_37 rfl ?_
        refine tv_ldiv (pc := 39) C dX8_lowest_39 (by omega) (by omega) ?_
        refine tv_goto (pc := 40) 47 C dX8_lowest_40 (by decide) ?_
        refine tv_lret (pc := 47) C dX8_lowest_47 ?_
        have ez : a / x = (if w = 0 then ((A / Nat.gcd A B : Nat) : Int) else ((B / Nat.gcd A B : Nat) : Int)) := by
          rw [if_pos (by omega), ← hg, hx, ha]; rfl
        rw [ez]
        exact hpost
    · skip
      have hlt := Nat.mod_lt u (show v > 0 by omega)
      refine tv_lload (pc := 13) 1 C dX8_lowest_13 rfl ?_
      refine tv_lload (pc := 15) 0 C dX8_lowest_15 rfl ?_
      refine tv_lrem (pc := 17) C dX8_lowest_17 (by omega) (by omega) ?_
      refine tv_lstore (pc := 18) [(9, tm_l (x % y)), (7, tm_l y), (5, tm_l x), (0, tm_l a), (2, tm_l b), (4, tm_i w)] C dX8_lowest_18 (by decide) rfl ?_
      refine tv_lload (pc := 20) 1 C dX8_lowest_20 rfl ?_
      refine tv_lstore (pc := 22) [(5, tm_l y), (9, tm_l (x % y)), (7, tm_l y), (0, tm_l a), (2, tm_l b), (4, tm_i w)] C dX8_lowest_22 (by decide) rfl ?_
      refine tv_lload (pc := 24) 1 C dX8_lowest_24 rfl ?_
      refine tv_lstore (pc := 26) [(7, tm_l (x % y)), (5, tm_l y), (9, tm_l (x % y)), (0, tm_l a), (2, tm_l b), (4, tm_i w)] C dX8_lowest_26 (by decide) rfl ?_
      refine tv_goto (pc := 28) 6 C dX8_lowest_28 (by decide) ?_
      refine tv_sub (lv1 := [(7, tm_l (x % y)), (5, tm_l y), (0, tm_l a), (2, tm_l b), (4, tm_i w)]) [0, 1, 3, 4, 5] rfl ?_
      exact ih v (u % v) y (x % y) hy (by rw [hx, hy]; rfl) (by omega) (by omega) (by rw [← hg, Nat.gcd_comm u v, Nat.gcd_rec v u, Nat.gcd_comm])
theorem c8_lowest (E : tm_Ev) (l : Launch) (μ : tm_M) (A B : Nat) (a b w : Int) (ha : a = (A : Int)) (hb : b = (B : Int)) (hA : A ≤ 2147483647) (hB : 0 < B) (hB2 : B ≤ 2147483647) (hw : 0 ≤ w ∧ w ≤ 1) : tm_Met E l yX8_lowest cX8_lowest 11 (some .long) 0 [tm_l a, tm_l b, tm_i w] μ (tm_pl (fun z μ' => z = (if w = 0 then ((A / Nat.gcd A B : Nat) : Int) else ((B / Nat.gcd A B : Nat) : Int)) ∧ μ' = μ)) := by
  refine tm_intro [(0, tm_l a), (2, tm_l b), (4, tm_i w)] rfl (by decide +kernel) (Nat.le_of_ble_eq_true rfl) ?_
  intro X hX C
  subst hX
  refine tv_lload_n (pc := 0) 0 C dX8_lowest_0 rfl rfl ?_
  refine tv_lstore (pc := 1) [(5, tm_l a), (0, tm_l a), (2, tm_l b), (4, tm_i w)] C dX8_lowest_1 (by decide) rfl ?_
  refine tv_lload_n (pc := 3) 2 C dX8_lowest_3 rfl rfl ?_
  refine tv_lstore (pc := 4) [(7, tm_l b), (5, tm_l a), (0, tm_l a), (2, tm_l b), (4, tm_i w)] C dX8_lowest_4 (by decide) rfl ?_
  refine tv_sub (lv1 := [(7, tm_l b), (5, tm_l a), (0, tm_l a), (2, tm_l b), (4, tm_i w)]) [0, 1, 2, 3, 4] rfl ?_
  exact l_lowest C μ A B a b w ha hb hA hB hB2 hw _ ⟨_, rfl, rfl, rfl⟩ (B + 1) A B a b ha hb (by omega) (by omega) rfl
theorem sw_T_cp {d : tm_M} (hd : dd_ok d) {c : Int} {k x : Nat} (hx : x < 2 ^ (d 3 0).toNat) : (if py_b d (sm_e (dd_rain d (2 ^ (d 3 0).toNat - 1 - x)) 40) k = true then sw_w (16 - c) x (d 3 0).toNat else 0) = sw_T d c k (2 ^ (d 3 0).toNat - 1 - x) := by
  have z3 := hd.2.2.2.2.1
  unfold sw_T
  rw [sw_cp (c := c) (by omega) hx (d 3 0).toNat (Nat.le_refl _)]
theorem tb_lshl : ∀ n : Nat, n ≤ 6 → Int64.ofInt 1 <<< ((Int32.ofInt (4 * (n : Int))).toInt64 &&& 63) = Int64.ofInt (((2 ^ (4 * n) : Nat) : Int)) := by
  have h : ∀ n : Fin 7, Int64.ofInt 1 <<< ((Int32.ofInt (4 * ((n : Nat) : Int))).toInt64 &&& 63) = Int64.ofInt (((2 ^ (4 * (n : Nat)) : Nat) : Int)) := by decide +kernel
  intro n hn
  exact h ⟨n, by omega⟩
theorem pw_24 : ∀ n : Nat, n ≤ 6 → 2 ^ (4 * n) ≤ 16777216 := by
  have h : ∀ n : Fin 7, 2 ^ (4 * (n : Nat)) ≤ 16777216 := by decide +kernel
  intro n hn
  exact h ⟨n, by omega⟩
theorem l_shOf1 {E : tm_Ev} {X : tm_X} (C : tm_C E X yX8_showerOf.cls cX8_showerOf 10 (some .long) 7) (ν d : tm_M) (h10 : ν 74 10 = d 3 0) (z3 : 0 ≤ d 3 0 ∧ d 3 0 ≤ 6) (x : Nat) (y c u o w : Int) (hy : y = x) (hx : x < 64) (hc : 0 ≤ c ∧ c ≤ 16) (Q : State → Prop) (hk9 : tm_V E X Q 10 67 [(7, tm_l (sw_w (16 - c) x (d 3 0).toNat)), (6, tm_i y), (4, tm_l u), (0, .ref (E.2.1 74)), (1, tm_i c), (2, tm_i o), (3, tm_i w)] [] ν) : ∀ (f j : Nat) (z g : Int), z = j → (j : Int) ≤ d 3 0 → 6 - j < f → g = sw_w (16 - c) x j → tm_V E X Q 10 27 [(9, tm_i z), (7, tm_l g), (6, tm_i y), (4, tm_l u), (0, .ref (E.2.1 74)), (1, tm_i c), (2, tm_i o), (3, tm_i w)] [] ν := by
  intro f
  induction f with
  | zero => intro j z g hz hj hf hg; omega
  | succ f ih =>
    intro j z g hz hj hf hg
    refine tv_iload (pc := 27) 0 C dX8_showerOf_27 rfl ?_
    refine tv_aload_n (pc := 29) 4 C dX8_showerOf_29 rfl rfl ?_
    refine tv_geti (pc := 30) (z := d 3 0) C rfl rfl fl_X8_146 dX8_showerOf_30 h10 ?_
    refine tv_icmp_ge (pc := 33) 67 C dX8_showerOf_33 (by decide) (by omega) (by omega) (fun h33 => ?_) (fun h33 => ?_)
    · skip
      refine tv_sub (lv1 := [(7, tm_l g), (6, tm_i y), (4, tm_l u), (0, .ref (E.2.1 74)), (1, tm_i c), (2, tm_i o), (3, tm_i w)]) [1, 2, 3, 4, 5, 6, 7] rfl ?_
      have hin : j = (d 3 0).toNat := by omega
      subst hin
      rw [hg]
      exact hk9
    · skip
      refine tv_lload (pc := 36) 1 C dX8_showerOf_36 rfl ?_
      refine tv_iload (pc := 38) 2 C dX8_showerOf_38 rfl ?_
      refine tv_iload (pc := 40) 0 C dX8_showerOf_40 rfl ?_
      refine tv_top (j : Int) hz ?_
      refine tv_callS (pc := 42) [tm_i y, tm_i (j : Int)] [tm_l g] C (c8_isIn E _ ν y j (by omega) (by omega)) cs_X8_179 (by decide) rfl (Nat.le_of_ble_eq_true rfl) rfl dX8_showerOf_42 (tm_kp ?_)
      refine tv_ifeqB (pc := 45) 56 C dX8_showerOf_45 (by decide) (fun h45 => ?_) (fun h45 => ?_)
      · skip
        refine tv_iload_n (pc := 56) 5 C dX8_showerOf_56 rfl rfl ?_
        refine tv_i2l (pc := 57) C dX8_showerOf_57 (by omega) ?_
        refine tv_lmul (pc := 58) C dX8_showerOf_58 ?_
        refine tv_lstore (pc := 59) [(7, tm_l (g * c)), (9, tm_i z), (6, tm_i y), (4, tm_l u), (0, .ref (E.2.1 74)), (1, tm_i c), (2, tm_i o), (3, tm_i w)] C dX8_showerOf_59 (by decide) rfl ?_
        refine tv_iinc (pc := 61) 1 [(9, tm_i (z + 1)), (7, tm_l (g * c)), (6, tm_i y), (4, tm_l u), (0, .ref (E.2.1 74)), (1, tm_i c), (2, tm_i o), (3, tm_i w)] C dX8_showerOf_61 rfl (by decide) rfl ?_
        refine tv_goto (pc := 64) 27 C dX8_showerOf_64 (by decide) ?_
        refine tv_sub (lv1 := [(9, tm_i (z + 1)), (7, tm_l (g * c)), (6, tm_i y), (4, tm_l u), (0, .ref (E.2.1 74)), (1, tm_i c), (2, tm_i o), (3, tm_i w)]) [0, 1, 2, 3, 4, 5, 6, 7] rfl ?_
        exact ih (j + 1) (z + 1) _ (by omega) (by omega) (by omega) (by rw [sw_s1, hg, ← hy, if_neg h45, show 16 - (16 - c) = c by omega])
      · skip
        refine tv_bipush (pc := 48) C dX8_showerOf_48 (by decide) ?_
        refine tv_iload_n (pc := 50) 5 C dX8_showerOf_50 rfl rfl ?_
        refine tv_isub (pc := 51) C dX8_showerOf_51 ?_
        refine tv_i2l (pc := 52) C dX8_showerOf_52 (by omega) ?_
        refine tv_goto (pc := 53) 58 C dX8_showerOf_53 (by decide) ?_
        refine tv_lmul (pc := 58) C dX8_showerOf_58 ?_
        refine tv_lstore (pc := 59) [(7, tm_l (g * (16 - c))), (9, tm_i z), (6, tm_i y), (4, tm_l u), (0, .ref (E.2.1 74)), (1, tm_i c), (2, tm_i o), (3, tm_i w)] C dX8_showerOf_59 (by decide) rfl ?_
        refine tv_iinc (pc := 61) 1 [(9, tm_i (z + 1)), (7, tm_l (g * (16 - c))), (6, tm_i y), (4, tm_l u), (0, .ref (E.2.1 74)), (1, tm_i c), (2, tm_i o), (3, tm_i w)] C dX8_showerOf_61 rfl (by decide) rfl ?_
        refine tv_goto (pc := 64) 27 C dX8_showerOf_64 (by decide) ?_
        refine tv_sub (lv1 := [(9, tm_i (z + 1)), (7, tm_l (g * (16 - c))), (6, tm_i y), (4, tm_l u), (0, .ref (E.2.1 74)), (1, tm_i c), (2, tm_i o), (3, tm_i w)]) [0, 1, 2, 3, 4, 5, 6, 7] rfl ?_
        exact ih (j + 1) (z + 1) _ (by omega) (by omega) (by omega) (by rw [sw_s1, hg, ← hy, if_pos h45])
theorem l_shOf {E : tm_Ev} {X : tm_X} (C : tm_C E X yX8_showerOf.cls cX8_showerOf 10 (some .long) 7) (μ d : tm_M) (hd : dd_ok d) (c o w : Int) (hc : 0 ≤ c ∧ c ≤ 16) (k : Nat) (ho : o = k) (hk : k < dd_n d) (hw : 0 ≤ w ∧ w ≤ 1) (W : Nat) (hW : W = 2 ^ (d 3 0).toNat) (hWi : (W : Int) = (2 : Int) ^ (d 3 0).toNat) (hW64 : W ≤ 64) (post : Option Value → tm_M → Prop) (hpost : ∀ ν, rf_m ν d → rf_r ν d → rf_F μ ν → post (some (tm_l (if w = 0 then (hv_n (4 * (d 3 0).toNat) (sw_s d c k W)).1 else (hv_n (4 * (d 3 0).toNat) (sw_s d c k W)).2))) ν) : ∀ (f x : Nat) (y u : Int) (p0 ν : tm_M), y = x → x ≤ W → W - x < f → u = (su_n (fun x => sw_T d c k (W - 1 - x)) x) → rf_T ν d p0 → (∀ a, a ≠ 2 → p0 a = dd_p d a) → rf_F μ ν → tm_V E X (tm_Q E X post) 10 10 [(6, tm_i y), (4, tm_l u), (0, .ref (E.2.1 74)), (1, tm_i c), (2, tm_i o), (3, tm_i w)] [] ν := by
  intro f
  induction f with
  | zero => intro x y u p0 ν hy hj hf hu hT hp0 hF; omega
  | succ f ih =>
    intro x y u p0 ν hy hj hf hu hT hp0 hF
    have h10 := hT.1.2.2.2.2.1
    have z3 := hd.2.2.2.2.1
    refine tv_iload (pc := 10) 0 C dX8_showerOf_10 rfl ?_
    refine tv_iconst (pc := 12) C dX8_showerOf_12 ?_
    refine tv_aload_n (pc := 13) 2 C dX8_showerOf_13 rfl rfl ?_
    refine tv_geti (pc := 14) (z := d 3 0) C rfl rfl fl_X8_146 dX8_showerOf_14 h10 ?_
    refine tv_ishl (pc := 17) (z := (W : Int)) C dX8_showerOf_17 (by rw [hWi]; exact tb_shl2 (k := (d 3 0).toNat) (by omega) (by omega)) ?_
    refine tv_icmp_ge (pc := 18) 102 C dX8_showerOf_18 (by decide) (by omega) (by omega) (fun h18 => ?_) (fun h18 => ?_)
    · skip
      have hin : W = x := by omega
      subst hin
      rw [su_rev, ← sw_sT] at hu
      have hsb := sw_s_bd hd hc k hW64
      have hpw := pw_24 (d 3 0).toNat (by omega)
      refine tv_lload (pc := 102) 1 C dX8_showerOf_102 rfl ?_
      refine tv_lconst (pc := 104) (z := 1) C dX8_showerOf_104 rfl ?_
      refine tv_iconst (pc := 105) C dX8_showerOf_105 ?_
      refine tv_aload_n (pc := 106) 2 C dX8_showerOf_106 rfl rfl ?_
      refine tv_geti (pc := 107) (z := d 3 0) C rfl rfl fl_X8_146 dX8_showerOf_107 h10 ?_
      refine tv_imul (pc := 110) C dX8_showerOf_110 ?_
      refine tv_lshl (pc := 111) (z := ((2 ^ (4 * (d 3 0).toNat) : Nat) : Int)) C dX8_showerOf_111 (by have q := tb_lshl (d 3 0).toNat (by omega); rw [Int.toNat_of_nonneg z3.1] at q; exact q) ?_
      refine tv_iload_n (pc := 112) 5 C dX8_showerOf_112 rfl rfl ?_
      refine tv_callS (pc := 113) [tm_l u, tm_l ((2 ^ (4 * (d 3 0).toNat) : Nat) : Int), tm_i w] [] C (c8_lowest E _ ν (sw_s d c k W).toNat (2 ^ (4 * (d 3 0).toNat)) u ((2 ^ (4 * (d 3 0).toNat) : Nat) : Int) w (by rw [hu]; omega) rfl (by omega) (Nat.pow_pos (by omega)) (by omega) hw) cs_X8_283 (by decide) rfl (Nat.le_of_ble_eq_true rfl) rfl dX8_showerOf_113 (tm_kl ?_)
      rintro zz n9 ⟨hz, hn9⟩
      subst hn9
      refine tv_lret (pc := 116) C dX8_showerOf_116 ?_
      have ez : zz = (if w = 0 then (hv_n (4 * (d 3 0).toNat) (sw_s d c k W)).1 else (hv_n (4 * (d 3 0).toNat) (sw_s d c k W)).2) := by
        have q := hv_gcd (4 * (d 3 0).toNat) (sw_s d c k W).toNat
        rw [Int.toNat_of_nonneg hsb.1] at q
        rw [hz, q]
      rw [ez]
      exact hpost _ hT.1 hT.2.1 hF
    · skip
      refine tv_lconst (pc := 21) (z := 1) C dX8_showerOf_21 rfl ?_
      refine tv_lstore (pc := 22) [(7, tm_l 1), (6, tm_i y), (4, tm_l u), (0, .ref (E.2.1 74)), (1, tm_i c), (2, tm_i o), (3, tm_i w)] C dX8_showerOf_22 (by decide) rfl ?_
      refine tv_iconst (pc := 24) C dX8_showerOf_24 ?_
      refine tv_istore (pc := 25) [(9, tm_i 0), (7, tm_l 1), (6, tm_i y), (4, tm_l u), (0, .ref (E.2.1 74)), (1, tm_i c), (2, tm_i o), (3, tm_i w)] C dX8_showerOf_25 (by decide) rfl ?_
      refine tv_sub (lv1 := [(9, tm_i 0), (7, tm_l 1), (6, tm_i y), (4, tm_l u), (0, .ref (E.2.1 74)), (1, tm_i c), (2, tm_i o), (3, tm_i w)]) [0, 1, 2, 3, 4, 5, 6, 7] rfl ?_
      refine l_shOf1 C ν d h10 z3 x y c u o w hy (by omega) hc _ ?_ 7 0 0 1 rfl (by omega) (by omega) rfl
      refine tv_aload_n (pc := 67) 3 C dX8_showerOf_67 rfl rfl ?_
      refine tv_iload (pc := 68) 1 C dX8_showerOf_68 rfl ?_
      refine tv_puti (pc := 70) C rfl rfl fp_X8_161 dX8_showerOf_70 ?_
      have hT2 : rf_T (tm_up ν 74 15 y) d (dd_rain d (W - 1 - x)) := by
        rw [hy]
        have q := rn_cp hd (x := x) (by omega)
        rw [← hW] at q
        exact rf_T_ag (rf_T_15 hd hT hp0 (by omega)) q
      refine tv_aload_n (pc := 73) 3 C dX8_showerOf_73 rfl rfl ?_
      refine tv_callV (pc := 74) [] [] C (c8_runs E _ (tm_up ν 74 15 y) (rf_T_ok hT2 hd (rn_ok hd _))) cv_X8_216 rfl rfl (by decide) rfl (Nat.le_of_ble_eq_true rfl) rfl dX8_showerOf_74 (tm_kv ?_)
      rintro n3 hr9
      obtain ⟨hT3, hN, hH, hG⟩ := rf_T_run hT2 (rn_ok hd _) hr9
      clear hr9
      refine tv_lload (pc := 77) 2 C dX8_showerOf_77 rfl ?_
      refine tv_aload_n (pc := 79) 3 C dX8_showerOf_79 rfl rfl ?_
      refine tv_iload_n (pc := 80) 5 C dX8_showerOf_80 rfl rfl ?_
      refine tv_callV (pc := 81) [tm_i o] [tm_l u] C (c8_isPaid E _ n3 d (sm_e (dd_rain d (W - 1 - x)) 40) hd hT3.2.1.2.1 (fun k hk => ⟨(hT3.2.1.2.2.2 k hk).2.2.1, (hT3.2.1.2.2.2 k hk).2.2.2⟩) hN.2.1 (sm_e_40 _) k o ho hk) cv_X8_228 rfl rfl (by decide) rfl (Nat.le_of_ble_eq_true rfl) rfl dX8_showerOf_81 (tm_kp ?_)
      refine tv_ifeqB (pc := 84) 92 C dX8_showerOf_84 (by decide) (fun h84 => ?_) (fun h84 => ?_)
      · skip
        refine tv_lconst (pc := 92) (z := 0) C dX8_showerOf_92 rfl ?_
        refine tv_ladd (pc := 93) C dX8_showerOf_93 ?_
        refine tv_lstore (pc := 94) [(4, tm_l (u + 0)), (7, tm_l (sw_w (16 - c) x (d 3 0).toNat)), (6, tm_i y), (0, .ref (E.2.1 74)), (1, tm_i c), (2, tm_i o), (3, tm_i w)] C dX8_showerOf_94 (by decide) rfl ?_
        refine tv_iinc (pc := 96) 2 [(6, tm_i (y + 1)), (4, tm_l (u + 0)), (7, tm_l (sw_w (16 - c) x (d 3 0).toNat)), (0, .ref (E.2.1 74)), (1, tm_i c), (2, tm_i o), (3, tm_i w)] C dX8_showerOf_96 rfl (by decide) rfl ?_
        refine tv_goto (pc := 99) 10 C dX8_showerOf_99 (by decide) ?_
        refine tv_sub (lv1 := [(6, tm_i (y + 1)), (4, tm_l (u + 0)), (0, .ref (E.2.1 74)), (1, tm_i c), (2, tm_i o), (3, tm_i w)]) [0, 1, 3, 4, 5, 6] rfl ?_
        refine ih (x + 1) (y + 1) _ (dd_rain d (W - 1 - x)) n3 (by omega) (by omega) (by omega) ?_ hT3 (fun a ha => rn_o d _ a ha) (rf_F_t hF (fun a ha => by rw [hH a (by omega) (by omega), tm_uf (by omega)]) (by rw [hG 35 (by omega), tm_uj (by decide)]) (by rw [hG 44 (by omega), tm_uj (by decide)]))
        rw [su_s, hu, hW, ← sw_T_cp hd (by omega), ← hW, if_neg h84]
      · skip
        refine tv_lload (pc := 87) 0 C dX8_showerOf_87 rfl ?_
        refine tv_goto (pc := 89) 93 C dX8_showerOf_89 (by decide) ?_
        refine tv_ladd (pc := 93) C dX8_showerOf_93 ?_
        refine tv_lstore (pc := 94) [(4, tm_l (u + (sw_w (16 - c) x (d 3 0).toNat))), (7, tm_l (sw_w (16 - c) x (d 3 0).toNat)), (6, tm_i y), (0, .ref (E.2.1 74)), (1, tm_i c), (2, tm_i o), (3, tm_i w)] C dX8_showerOf_94 (by decide) rfl ?_
        refine tv_iinc (pc := 96) 2 [(6, tm_i (y + 1)), (4, tm_l (u + (sw_w (16 - c) x (d 3 0).toNat))), (7, tm_l (sw_w (16 - c) x (d 3 0).toNat)), (0, .ref (E.2.1 74)), (1, tm_i c), (2, tm_i o), (3, tm_i w)] C dX8_showerOf_96 rfl (by decide) rfl ?_
        refine tv_goto (pc := 99) 10 C dX8_showerOf_99 (by decide) ?_
        refine tv_sub (lv1 := [(6, tm_i (y + 1)), (4, tm_l (u + (sw_w (16 - c) x (d 3 0).toNat))), (0, .ref (E.2.1 74)), (1, tm_i c), (2, tm_i o), (3, tm_i w)]) [0, 1, 3, 4, 5, 6] rfl ?_
        refine ih (x + 1) (y + 1) _ (dd_rain d (W - 1 - x)) n3 (by omega) (by omega) (by omega) ?_ hT3 (fun a ha => rn_o d _ a ha) (rf_F_t hF (fun a ha => by rw [hH a (by omega) (by omega), tm_uf (by omega)]) (by rw [hG 35 (by omega), tm_uj (by decide)]) (by rw [hG 44 (by omega), tm_uj (by decide)]))
        rw [su_s, hu, hW, ← sw_T_cp hd (by omega), ← hW, if_pos h84]
theorem k8_showerOf (E : tm_Ev) (l : Launch) (μ : tm_M) (d s : tm_M) (hd : dd_ok d) (hI : rf_I μ d s) (c o w : Int) (hc : 0 ≤ c ∧ c ≤ 16) (ho : 0 ≤ o ∧ o < (dd_n d : Int)) (hw : 0 ≤ w ∧ w ≤ 1) : tm_Met E l yX8_showerOf cX8_showerOf 10 (some .long) 7 [.ref (E.2.1 74), tm_i c, tm_i o, tm_i w] μ (tm_pl (fun z μ' => z = sr_z d c o w ∧ rf_I μ' d s ∧ rf_r μ' d ∧ ∀ a, a < 74 → μ' a = μ a)) := by
  refine tm_intro [(0, .ref (E.2.1 74)), (1, tm_i c), (2, tm_i o), (3, tm_i w)] rfl (by decide +kernel) (Nat.le_of_ble_eq_true rfl) ?_
  intro X hX C
  subst hX
  have h8 : dd_n d ≤ 8 := sp_no_bd _ (by have q := hd.2.1; omega)
  have hWW := pw_W hd
  refine tv_aload_n (pc := 0) 0 C dX8_showerOf_0 rfl rfl ?_
  refine tv_callV (pc := 1) [] [] C (c8_asTold E _ μ d hd hI.1) cv_X8_213 rfl rfl (by decide) rfl (Nat.le_of_ble_eq_true rfl) rfl dX8_showerOf_1 (tm_kv ?_)
  rintro n1 ⟨g1, g2, g3, g4⟩
  have hF0 := rf_F_g g4
  have hT0 := rf_T_t hd g1 g2 g3
  have h12 := g1.2.2.2.2.2.1
  have hn := g2.2.1
  refine tv_lconst (pc := 4) (z := 0) C dX8_showerOf_4 rfl ?_
  refine tv_lstore (pc := 5) [(4, tm_l 0), (0, .ref (E.2.1 74)), (1, tm_i c), (2, tm_i o), (3, tm_i w)] C dX8_showerOf_5 (by decide) rfl ?_
  refine tv_iconst (pc := 7) C dX8_showerOf_7 ?_
  refine tv_istore (pc := 8) [(6, tm_i 0), (4, tm_l 0), (0, .ref (E.2.1 74)), (1, tm_i c), (2, tm_i o), (3, tm_i w)] C dX8_showerOf_8 (by decide) rfl ?_
  refine tv_sub (lv1 := [(6, tm_i 0), (4, tm_l 0), (0, .ref (E.2.1 74)), (1, tm_i c), (2, tm_i o), (3, tm_i w)]) [0, 1, 2, 3, 4, 5] rfl ?_
  exact l_shOf C μ d hd c o w hc o.toNat (by omega) (by omega) hw (2 ^ (d 3 0).toNat) rfl hWW.1.symm hWW.2 _ (fun n9 q1 q2 q3 => ⟨_, rfl, by unfold sr_z; exact (if_pos (by omega)).symm, rf_I_F hI q1 q3, q2, fun a ha => q3.1 a (Or.inl ha)⟩) (2 ^ (d 3 0).toNat + 1) 0 0 0 (dd_p d) n1 rfl (Nat.zero_le _) (Nat.lt_succ_of_le (Nat.sub_le _ _)) rfl hT0 (fun a _ => rfl) hF0
theorem c8_no (E : tm_Ev) (l : Launch) (μ : tm_M) (v : Int) (hv : -10 ≤ v ∧ v ≤ 10) : tm_Met E l yX8_no cX8_no 1 (some .long) 0 [tm_i v] μ (tm_pl (fun z μ' => z = -9223372036854775808 - v ∧ μ' = μ)) := by
  refine tm_intro [(0, tm_i v)] rfl (by decide +kernel) (Nat.le_of_ble_eq_true rfl) ?_
  intro X hX C
  subst hX
  refine tv_ldc2 (pc := 0) (z := (-9223372036854775808)) C kl_X8_92 dX8_no_0 (by decide) ?_
  refine tv_iload_n (pc := 3) 0 C dX8_no_3 rfl rfl ?_
  refine tv_i2l (pc := 4) C dX8_no_4 (by omega) ?_
  refine tv_lsub (pc := 5) C dX8_no_5 ?_
  refine tv_lret (pc := 6) C dX8_no_6 ?_
  exact ⟨_, rfl, rfl, rfl⟩
theorem k8_shower (E : tm_Ev) (l : Launch) (μ : tm_M) (d s : tm_M) (hd : dd_ok d) (hI : rf_I μ d s) (c k w : Int) (hc : -2147483648 ≤ c ∧ c ≤ 2147483647) (hk : -2147483648 ≤ k ∧ k ≤ 2147483647) (hw : -2147483648 ≤ w ∧ w ≤ 2147483647) : tm_Met E l yX8_shower cX8_shower 4 (some .long) 8 [.ref (E.2.1 74), tm_i c, tm_i k, tm_i w] μ (tm_pl (fun z μ' => z = sr_z d c k w ∧ rf_I μ' d s ∧ ∀ a, a < 74 → μ' a = μ a)) := by
  refine tm_intro [(0, .ref (E.2.1 74)), (1, tm_i c), (2, tm_i k), (3, tm_i w)] rfl (by decide +kernel) (Nat.le_of_ble_eq_true rfl) ?_
  intro X hX C
  subst hX
  refine tv_iload_n (pc := 0) 1 C dX8_shower_0 rfl rfl ?_
  refine tv_iconst (pc := 1) C dX8_shower_1 ?_
  refine tv_bipush (pc := 2) C dX8_shower_2 (by decide) ?_
  refine tv_callS (pc := 4) [tm_i c, tm_i 0, tm_i 16] [] C (c8_in E _ μ c 0 16 (by omega) (by omega) (by omega)) cs_X8_94 (by decide) rfl (Nat.le_of_ble_eq_true rfl) rfl dX8_shower_4 (tm_kp ?_)
  refine tv_ifeqB (pc := 7) 37 C dX8_shower_7 (by decide) (fun h7 => ?_) (fun h7 => ?_)
  · skip
    refine tv_bipush (pc := 37) C dX8_shower_37 (by decide) ?_
    refine tv_callS (pc := 39) [tm_i (-2)] [] C (c8_no E _ μ (-2) (by omega)) cs_X8_291 (by decide) rfl (Nat.le_of_ble_eq_true rfl) rfl dX8_shower_39 (tm_kl ?_)
    rintro zz n9 ⟨hz, hn9⟩
    have hn9 := hn9.symm
    subst hn9
    refine tv_lret (pc := 42) C dX8_shower_42 ?_
    exact ⟨_, rfl, by rw [hz]; unfold sr_z; rw [if_neg (by omega)]; rfl, hI, fun a _ => rfl⟩
  · skip
    refine tv_aload_n (pc := 10) 0 C dX8_shower_10 rfl rfl ?_
    refine tv_iload_n (pc := 11) 2 C dX8_shower_11 rfl rfl ?_
    refine tv_callV (pc := 12) [tm_i k] [] C (k8_isOrder E _ μ d s hd hI k (by omega)) cv_X8_140 rfl rfl (by decide) rfl (Nat.le_of_ble_eq_true rfl) rfl dX8_shower_12 (tm_ki ?_)
    rintro z1 n1 ⟨rfl, hI1, g2, fr1⟩
    have hn := g2.2.1
    refine tv_ifeqB (pc := 15) 37 C dX8_shower_15 (by decide) (fun h15 => ?_) (fun h15 => ?_)
    · skip
      refine tv_bipush (pc := 37) C dX8_shower_37 (by decide) ?_
      refine tv_callS (pc := 39) [tm_i (-2)] [] C (c8_no E _ n1 (-2) (by omega)) cs_X8_291 (by decide) rfl (Nat.le_of_ble_eq_true rfl) rfl dX8_shower_39 (tm_kl ?_)
      rintro zz n9 ⟨hz, hn9⟩
      have hn9 := hn9.symm
      subst hn9
      refine tv_lret (pc := 42) C dX8_shower_42 ?_
      exact ⟨_, rfl, by rw [hz]; unfold sr_z; rw [if_neg (by omega)]; rfl, hI1, fr1⟩
    · skip
      refine tv_iload_n (pc := 18) 3 C dX8_shower_18 rfl rfl ?_
      refine tv_iconst (pc := 19) C dX8_shower_19 ?_
      refine tv_iconst (pc := 20) C dX8_shower_20 ?_
      refine tv_callS (pc := 21) [tm_i w, tm_i 0, tm_i 1] [] C (c8_in E _ n1 w 0 1 (by omega) (by omega) (by omega)) cs_X8_94 (by decide) rfl (Nat.le_of_ble_eq_true rfl) rfl dX8_shower_21 (tm_kp ?_)
      refine tv_ifeqB (pc := 24) 37 C dX8_shower_24 (by decide) (fun h24 => ?_) (fun h24 => ?_)
      · skip
        refine tv_bipush (pc := 37) C dX8_shower_37 (by decide) ?_
        refine tv_callS (pc := 39) [tm_i (-2)] [] C (c8_no E _ n1 (-2) (by omega)) cs_X8_291 (by decide) rfl (Nat.le_of_ble_eq_true rfl) rfl dX8_shower_39 (tm_kl ?_)
        rintro zz n9 ⟨hz, hn9⟩
        have hn9 := hn9.symm
        subst hn9
        refine tv_lret (pc := 42) C dX8_shower_42 ?_
        exact ⟨_, rfl, by rw [hz]; unfold sr_z; rw [if_neg (by omega)]; rfl, hI1, fr1⟩
      · skip
        refine tv_aload_n (pc := 27) 0 C dX8_shower_27 rfl rfl ?_
        refine tv_iload_n (pc := 28) 1 C dX8_shower_28 rfl rfl ?_
        refine tv_iload_n (pc := 29) 2 C dX8_shower_29 rfl rfl ?_
        refine tv_iload_n (pc := 30) 3 C dX8_shower_30 rfl rfl ?_
        refine tv_callV (pc := 31) [tm_i c, tm_i k, tm_i w] [] C (k8_showerOf E _ n1 d s hd hI1 c k w (by omega) (by omega) (by omega)) cv_X8_287 rfl rfl (by decide) rfl (Nat.le_of_ble_eq_true rfl) rfl dX8_shower_31 (tm_kl ?_)
        rintro zz n2 ⟨hz, hI2, g3, fr2⟩
        refine tv_goto (pc := 34) 42 C dX8_shower_34 (by decide) ?_
        refine tv_lret (pc := 42) C dX8_shower_42 ?_
        exact ⟨_, rfl, hz, hI2, fun a ha => (fr2 a ha).trans (fr1 a ha)⟩
