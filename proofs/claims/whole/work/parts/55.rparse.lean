theorem l_rt1 {E : tm_Ev} {X : tm_X} (C : tm_C E X yX8_readsTides.cls cX8_readsTides 2 (some .int) 1) (M : tm_M) (Q : State → Prop) (hk : ∀ x : Int, tm_V E X Q 2 26 [(1, tm_i x), (0, .ref (E.2.1 74))] [] (tm_fill M 77 40 0)) : ∀ (f h : Nat) (x : Int), x = h → h ≤ 40 → 40 - h < f → tm_V E X Q 2 7 [(1, tm_i x), (0, .ref (E.2.1 74))] [] (tm_fill M 77 h 0) := by
  intro f
  induction f with
  | zero => intro h x hx hj hf; omega
  | succ f ih =>
    intro h x hx hj hf
    refine tv_iload_n (pc := 7) 0 C dX8_readsTides_7 rfl rfl ?_
    refine tv_bipush (pc := 8) C dX8_readsTides_8 (by decide) ?_
    refine tv_icmp_ge (pc := 10) 26 C dX8_readsTides_10 (by decide) (by omega) (by omega) (fun h10 => ?_) (fun h10 => ?_)
    · skip
      refine tv_sub (lv1 := [(1, tm_i x), (0, .ref (E.2.1 74))]) [0, 1] rfl ?_
      have hin : h = 40 := by omega
      subst hin
      exact hk x
    · skip
      refine tv_aload_n (pc := 13) 1 C dX8_readsTides_13 rfl rfl ?_
      refine tv_getr (pc := 14) (q := 77) C rfl rfl fl_X8_16 dX8_readsTides_14 ?_
      refine tv_iload_n (pc := 17) 0 C dX8_readsTides_17 rfl rfl ?_
      refine tv_iconst (pc := 18) C dX8_readsTides_18 ?_
      refine tv_iast (pc := 19) (j := h) C rfl dX8_readsTides_19 (by omega) (by omega) ?_
      refine tv_iinc (pc := 20) 0 [(1, tm_i (x + 1)), (0, .ref (E.2.1 74))] C dX8_readsTides_20 rfl (by decide) rfl ?_
      refine tv_goto (pc := 23) 7 C dX8_readsTides_23 (by decide) ?_
      refine tv_sub (lv1 := [(1, tm_i (x + 1)), (0, .ref (E.2.1 74))]) [0, 1] rfl ?_
      rw [tm_fill_s]
      exact ih (h + 1) (x + 1) (by omega) (by omega) (by omega)
theorem l_rt2 {E : tm_Ev} {X : tm_X} (C : tm_C E X yX8_readsTides.cls cX8_readsTides 2 (some .int) 1) (M : tm_M) (n : Int) (hs : 0 ≤ n ∧ n ≤ 40) (hn : M 75 0 = n) (hby : ∀ j : Nat, (j : Int) < n → 0 ≤ M 76 j ∧ M 76 j ≤ 255) (post : Option Value → tm_M → Prop) (hret : ¬ fi_n (ok_t (M 76)) n.toNat 0 = -1 → post (some (tm_i (fi_n (ok_t (M 76)) n.toNat 0))) M) (hk : fi_n (ok_t (M 76)) n.toNat 0 = -1 → ∀ x : Int, tm_V E X (tm_Q E X post) 2 62 [(1, tm_i x), (0, .ref (E.2.1 74))] [] M) : ∀ (f j : Nat) (x : Int), x = j → (j : Int) ≤ n → 40 - j < f → fi_n (ok_t (M 76)) n.toNat 0 = fi_n (ok_t (M 76)) (n.toNat - j) j → tm_V E X (tm_Q E X post) 2 28 [(1, tm_i x), (0, .ref (E.2.1 74))] [] M := by
  intro f
  induction f with
  | zero => intro j x hx hj hf hfi; omega
  | succ f ih =>
    intro j x hx hj hf hfi
    refine tv_iload_n (pc := 28) 0 C dX8_readsTides_28 rfl rfl ?_
    refine tv_aload_n (pc := 29) 1 C dX8_readsTides_29 rfl rfl ?_
    refine tv_getr (pc := 30) (q := 75) C rfl rfl fl_X8_7 dX8_readsTides_30 ?_
    refine tv_iconst (pc := 33) C dX8_readsTides_33 ?_
    refine tv_iald (pc := 34) (j := 0) (z := n) C rfl dX8_readsTides_34 (by omega) rfl hn ?_
    refine tv_icmp_ge (pc := 35) 62 C dX8_readsTides_35 (by decide) (by omega) (by omega) (fun h35 => ?_) (fun h35 => ?_)
    · skip
      refine tv_sub (lv1 := [(1, tm_i x), (0, .ref (E.2.1 74))]) [0, 1] rfl ?_
      exact hk (by rw [hfi]; exact fi_e (by omega)) x
    · skip
      have hb := hby j (by omega)
      refine tv_aload_n (pc := 38) 1 C dX8_readsTides_38 rfl rfl ?_
      refine tv_getr (pc := 39) (q := 76) C rfl rfl fl_X8_13 dX8_readsTides_39 ?_
      refine tv_iload_n (pc := 42) 0 C dX8_readsTides_42 rfl rfl ?_
      refine tv_iald (pc := 43) (j := j) (z := M 76 j) C rfl dX8_readsTides_43 (by omega) (by omega) rfl ?_
      refine tv_bipush (pc := 44) C dX8_readsTides_44 (by decide) ?_
      refine tv_bipush (pc := 46) C dX8_readsTides_46 (by decide) ?_
      refine tv_callS (pc := 48) [tm_i (M 76 j), tm_i 48, tm_i 57] [] C (c8_in E _ M (M 76 j) 48 57 (by omega) (by omega) (by omega)) cs_X8_94 (by decide) rfl (Nat.le_of_ble_eq_true rfl) rfl dX8_readsTides_48 (tm_kp ?_)
      refine tv_ifneB (pc := 51) 56 C dX8_readsTides_51 (by decide) (fun h51 => ?_) (fun h51 => ?_)
      · skip
        refine tv_iinc (pc := 56) 0 [(1, tm_i (x + 1)), (0, .ref (E.2.1 74))] C dX8_readsTides_56 rfl (by decide) rfl ?_
        refine tv_goto (pc := 59) 28 C dX8_readsTides_59 (by decide) ?_
        refine tv_sub (lv1 := [(1, tm_i (x + 1)), (0, .ref (E.2.1 74))]) [0, 1] rfl ?_
        exact ih (j + 1) (x + 1) (by omega) (by omega) (by omega) (by rw [hfi]; exact fi_y (by omega) (decide_eq_true (by simpa using h51)))
      · skip
        refine tv_iload_n (pc := 54) 0 C dX8_readsTides_54 rfl rfl ?_
        refine tv_iret (pc := 55) C dX8_readsTides_55 ?_
        have e := fi_x (ok := ok_t (M 76)) (n := n.toNat) (i := j) (by omega) (fun q => h51 (by simpa [ok_t] using q))
        refine cast (congrArg (fun y => post (some (tm_i y)) M) ?_) (hret (by rw [hfi, e]; omega))
        rw [hfi, e]; omega
theorem l_rt3 {E : tm_Ev} {X : tm_X} (C : tm_C E X yX8_readsTides.cls cX8_readsTides 2 (some .int) 1) (M : tm_M) (n : Int) (hs : 0 ≤ n ∧ n ≤ 40) (hn : M 75 0 = n) (hby : ∀ j : Nat, (j : Int) < n → 0 ≤ M 76 j ∧ M 76 j ≤ 255) (post : Option Value → tm_M → Prop) (hpost : post (some (tm_i (-1))) (tm_up (tm_rowf M 77 n.toNat (fun b => 2 * (M 76 b - 48))) 74 2 n)) : ∀ (f j : Nat) (x : Int), x = j → (j : Int) ≤ n → 40 - j < f → tm_V E X (tm_Q E X post) 2 64 [(1, tm_i x), (0, .ref (E.2.1 74))] [] (tm_rowf M 77 j (fun b => 2 * (M 76 b - 48))) := by
  intro f
  induction f with
  | zero => intro j x hx hj hf; omega
  | succ f ih =>
    intro j x hx hj hf
    refine tv_iload_n (pc := 64) 0 C dX8_readsTides_64 rfl rfl ?_
    refine tv_aload_n (pc := 65) 1 C dX8_readsTides_65 rfl rfl ?_
    refine tv_getr (pc := 66) (q := 75) C rfl rfl fl_X8_7 dX8_readsTides_66 ?_
    refine tv_iconst (pc := 69) C dX8_readsTides_69 ?_
    refine tv_iald (pc := 70) (j := 0) (z := n) C rfl dX8_readsTides_70 (by omega) rfl ((tm_rowf_k (by decide)).trans hn) ?_
    refine tv_icmp_ge (pc := 71) 97 C dX8_readsTides_71 (by decide) (by omega) (by omega) (fun h71 => ?_) (fun h71 => ?_)
    · skip
      refine tv_aload_n (pc := 97) 1 C dX8_readsTides_97 rfl rfl ?_
      refine tv_aload_n (pc := 98) 1 C dX8_readsTides_98 rfl rfl ?_
      refine tv_getr (pc := 99) (q := 75) C rfl rfl fl_X8_7 dX8_readsTides_99 ?_
      refine tv_iconst (pc := 102) C dX8_readsTides_102 ?_
      refine tv_iald (pc := 103) (j := 0) (z := n) C rfl dX8_readsTides_103 (by omega) rfl ((tm_rowf_k (by decide)).trans hn) ?_
      refine tv_puti (pc := 104) C rfl rfl fp_X8_102 dX8_readsTides_104 ?_
      refine tv_iconst (pc := 107) C dX8_readsTides_107 ?_
      refine tv_iret (pc := 108) C dX8_readsTides_108 ?_
      have hin : j = n.toNat := by omega
      subst hin
      exact hpost
    · skip
      refine tv_aload_n (pc := 74) 1 C dX8_readsTides_74 rfl rfl ?_
      refine tv_getr (pc := 75) (q := 77) C rfl rfl fl_X8_16 dX8_readsTides_75 ?_
      refine tv_iload_n (pc := 78) 0 C dX8_readsTides_78 rfl rfl ?_
      refine tv_iconst (pc := 79) C dX8_readsTides_79 ?_
      refine tv_aload_n (pc := 80) 1 C dX8_readsTides_80 rfl rfl ?_
      refine tv_getr (pc := 81) (q := 76) C rfl rfl fl_X8_13 dX8_readsTides_81 ?_
      refine tv_iload_n (pc := 84) 0 C dX8_readsTides_84 rfl rfl ?_
      refine tv_iald (pc := 85) (j := j) (z := M 76 j) C rfl dX8_readsTides_85 (by omega) (by omega) (tm_rowf_k (by decide)) ?_
      refine tv_bipush (pc := 86) C dX8_readsTides_86 (by decide) ?_
      refine tv_isub (pc := 88) C dX8_readsTides_88 ?_
      refine tv_imul (pc := 89) C dX8_readsTides_89 ?_
      refine tv_iast (pc := 90) (j := j) C rfl dX8_readsTides_90 (by omega) (by omega) ?_
      refine tv_iinc (pc := 91) 0 [(1, tm_i (x + 1)), (0, .ref (E.2.1 74))] C dX8_readsTides_91 rfl (by decide) rfl ?_
      refine tv_goto (pc := 94) 64 C dX8_readsTides_94 (by decide) ?_
      refine tv_sub (lv1 := [(1, tm_i (x + 1)), (0, .ref (E.2.1 74))]) [0, 1] rfl ?_
      rw [tm_rowf_s rfl]
      exact ih (j + 1) (x + 1) (by omega) (by omega) (by omega)
set_option maxHeartbeats 1000000 in
theorem c8_readsTides (E : tm_Ev) (l : Launch) (μ : tm_M) (hs : 0 ≤ μ 75 0 ∧ μ 75 0 ≤ 40) (hby : ∀ j : Nat, (j : Int) < μ 75 0 → 0 ≤ μ 76 j ∧ μ 76 j ≤ 255) : tm_Met E l yX8_readsTides cX8_readsTides 2 (some .int) 1 [.ref (E.2.1 74)] μ (tm_pi (fun z μ' => z = sp_tf (μ 76) (μ 75 0).toNat ∧ μ' 74 2 = (if z = -1 then μ 75 0 else 0) ∧ (∀ h, h < 40 → μ' 77 h = sp_sea (μ 76) (μ 75 0).toNat h) ∧ (∀ b, b ≠ 2 → μ' 74 b = μ 74 b) ∧ (∀ a, a ≠ 74 → a ≠ 77 → μ' a = μ a))) := by
  refine tm_intro [(0, .ref (E.2.1 74))] rfl (by decide +kernel) (Nat.le_of_ble_eq_true rfl) ?_
  intro X hX C
  subst hX
  refine tv_aload_n (pc := 0) 0 C dX8_readsTides_0 rfl rfl ?_
  refine tv_iconst (pc := 1) C dX8_readsTides_1 ?_
  refine tv_puti (pc := 2) C rfl rfl fp_X8_102 dX8_readsTides_2 ?_
  refine tv_iconst (pc := 5) C dX8_readsTides_5 ?_
  refine tv_istore_n (pc := 6) [(1, tm_i 0), (0, .ref (E.2.1 74))] C dX8_readsTides_6 rfl (by decide) rfl ?_
  refine tv_sub (lv1 := [(1, tm_i 0), (0, .ref (E.2.1 74))]) [0, 1] rfl ?_
  refine tv_mem _ (tm_fill_0 _ 77 0).symm ?_
  refine l_rt1 C _ _ (fun x => ?_) 41 0 0 rfl (by omega) (by omega)
  obtain ⟨M, hM⟩ : ∃ M, M = tm_fill (tm_up μ 74 2 0) 77 40 0 := ⟨_, rfl⟩
  rw [← hM]
  have m75 : M 75 = μ 75 := by rw [hM, tm_fill_f (by decide), tm_uf (by decide)]
  have m76 : M 76 = μ 76 := by rw [hM, tm_fill_f (by decide), tm_uf (by decide)]
  have m74 : ∀ b, b ≠ 2 → M 74 b = μ 74 b := fun b hb => by rw [hM, tm_fill_k (by decide), tm_uj hb]
  have mo : ∀ a, a ≠ 74 → a ≠ 77 → M a = μ a := fun a h1 h2 => by rw [hM, tm_fill_f h2, tm_uf h1]
  have m2 : M 74 2 = 0 := by rw [hM, tm_fill_k (by decide), tm_us]
  have m77 : ∀ h, h < 40 → M 77 h = 0 := fun h hh => by rw [hM, tm_fill_in hh]
  refine tv_iconst (pc := 26) C dX8_readsTides_26 ?_
  refine tv_istore_n (pc := 27) [(1, tm_i 0), (0, .ref (E.2.1 74))] C dX8_readsTides_27 rfl (by decide) rfl ?_
  refine tv_sub (lv1 := [(1, tm_i 0), (0, .ref (E.2.1 74))]) [0, 1] rfl ?_
  refine l_rt2 C M (μ 75 0) hs (by rw [m75]) (by rw [m76]; exact hby) _ (fun hne => ?_) (fun he x => ?_) 41 0 0 rfl (by omega) (by omega) rfl
  · refine ⟨_, rfl, by rw [m76]; rfl, by rw [if_neg hne]; exact m2, fun h hh => ?_, m74, mo⟩
    rw [m77 h hh]
    rw [m76] at hne
    unfold sp_sea
    rw [if_neg (fun q => hne q.1)]
  · skip
    refine tv_iconst (pc := 62) C dX8_readsTides_62 ?_
    refine tv_istore_n (pc := 63) [(1, tm_i 0), (0, .ref (E.2.1 74))] C dX8_readsTides_63 rfl (by decide) rfl ?_
    refine tv_sub (lv1 := [(1, tm_i 0), (0, .ref (E.2.1 74))]) [0, 1] rfl ?_
    refine tv_mem _ (tm_rowf_0 M 77 (fun b => 2 * (M 76 b - 48))).symm ?_
    refine l_rt3 C M (μ 75 0) hs (by rw [m75]) (by rw [m76]; exact hby) _ ?_ 41 0 0 rfl (by omega) (by omega)
    rw [m76] at he
    refine ⟨_, rfl, he.symm, ?_, fun h hh => ?_, fun b hb => ?_, fun a h1 h2 => ?_⟩
    · rw [if_pos rfl, tm_us]
    · rw [tm_uk (by decide)]
      unfold sp_sea
      by_cases hc : h < (μ 75 0).toNat
      · rw [if_pos ⟨he, hc⟩, tm_rowf_in hc, m76]
      · rw [if_neg (fun q => hc q.2), tm_rowf_out (by omega), m77 h hh]
    · rw [tm_uj hb, tm_rowf_k (by decide), m74 b hb]
    · rw [tm_uf h1, tm_rowf_f h2, mo a h1 h2]
def rb_b (μ : tm_M) (k : Nat) : Int := if (k : Int) < μ 75 1 then μ 76 (47 + k) else -1
theorem c8_byteAt (E : tm_Ev) (l : Launch) (μ : tm_M) (hs : 0 ≤ μ 75 1 ∧ μ 75 1 ≤ 47) (hby : ∀ j : Nat, (j : Int) < μ 75 1 → 0 ≤ μ 76 (47 + j) ∧ μ 76 (47 + j) ≤ 255) (k : Nat) (x : Int) (hx : x = k) (hk : k < 1000) : tm_Met E l yX8_byteAt cX8_byteAt 2 (some .int) 0 [.ref (E.2.1 74), tm_i x] μ (tm_pi (fun z μ' => z = rb_b μ k ∧ μ' = μ)) := by
  refine tm_intro [(0, .ref (E.2.1 74)), (1, tm_i x)] rfl (by decide +kernel) (Nat.le_of_ble_eq_true rfl) ?_
  intro X hX C
  subst hX
  refine tv_iload_n (pc := 0) 1 C dX8_byteAt_0 rfl rfl ?_
  refine tv_aload_n (pc := 1) 0 C dX8_byteAt_1 rfl rfl ?_
  refine tv_getr (pc := 2) (q := 75) C rfl rfl fl_X8_7 dX8_byteAt_2 ?_
  refine tv_iconst (pc := 5) C dX8_byteAt_5 ?_
  refine tv_iald (pc := 6) (j := 1) (z := μ 75 1) C rfl dX8_byteAt_6 (by omega) rfl rfl ?_
  refine tv_icmp_ge (pc := 7) 22 C dX8_byteAt_7 (by decide) (by omega) (by omega) (fun h7 => ?_) (fun h7 => ?_)
  · skip
    refine tv_iconst (pc := 22) C dX8_byteAt_22 ?_
    refine tv_iret (pc := 23) C dX8_byteAt_23 ?_
    exact ⟨_, rfl, by unfold rb_b; first | (rw [if_pos (by omega)]; done) | (rw [if_neg (by omega)]; done), rfl⟩
  · skip
    refine tv_aload_n (pc := 10) 0 C dX8_byteAt_10 rfl rfl ?_
    refine tv_getr (pc := 11) (q := 76) C rfl rfl fl_X8_13 dX8_byteAt_11 ?_
    refine tv_bipush (pc := 14) C dX8_byteAt_14 (by decide) ?_
    refine tv_iload_n (pc := 16) 1 C dX8_byteAt_16 rfl rfl ?_
    refine tv_iadd (pc := 17) C dX8_byteAt_17 ?_
    refine tv_iald (pc := 18) (j := (47 + k)) (z := μ 76 (47 + k)) C rfl dX8_byteAt_18 (by omega) (by omega) rfl ?_
    refine tv_goto (pc := 19) 23 C dX8_byteAt_19 (by decide) ?_
    refine tv_iret (pc := 23) C dX8_byteAt_23 ?_
    exact ⟨_, rfl, by unfold rb_b; first | (rw [if_pos (by omega)]; done) | (rw [if_neg (by omega)]; done), rfl⟩
theorem rb_bd {μ : tm_M} (hby : ∀ j : Nat, (j : Int) < μ 75 1 → 0 ≤ μ 76 (47 + j) ∧ μ 76 (47 + j) ≤ 255) (k : Nat) : -1 ≤ rb_b μ k ∧ rb_b μ k ≤ 255 := by
  unfold rb_b
  split
  · rename_i h
    have := hby k h
    omega
  · omega
theorem c8_isWell (E : tm_Ev) (l : Launch) (μ : tm_M) (hs : 0 ≤ μ 75 1 ∧ μ 75 1 ≤ 47) (hby : ∀ j : Nat, (j : Int) < μ 75 1 → 0 ≤ μ 76 (47 + j) ∧ μ 76 (47 + j) ≤ 255) (k q : Nat) (x y : Int) (hx : x = k) (hy : y = q) (hk : k < 500) (hq : q < 5) : tm_Met E l yX8_isWell cX8_isWell 4 (some .boolean) 1 [.ref (E.2.1 74), tm_i x, tm_i y] μ (tm_pi (fun z μ' => z = (if sp_fit (rb_b μ (k + q)) q = true then 1 else 0) ∧ μ' = μ)) := by
  refine tm_intro [(0, .ref (E.2.1 74)), (1, tm_i x), (2, tm_i y)] rfl (by decide +kernel) (Nat.le_of_ble_eq_true rfl) ?_
  intro X hX C
  subst hX
  have hrb := rb_bd hby (k + q)
  refine tv_aload_n (pc := 0) 0 C dX8_isWell_0 rfl rfl ?_
  refine tv_iload_n (pc := 1) 1 C dX8_isWell_1 rfl rfl ?_
  refine tv_iload_n (pc := 2) 2 C dX8_isWell_2 rfl rfl ?_
  refine tv_iadd (pc := 3) C dX8_isWell_3 ?_
  refine tv_callV (pc := 4) [tm_i (x + y)] [] C (c8_byteAt E _ μ hs hby (k + q) _ (by omega) (by omega)) cv_X8_106 rfl rfl (by decide) rfl (Nat.le_of_ble_eq_true rfl) rfl dX8_isWell_4 (tm_kp ?_)
  refine tv_istore_n (pc := 7) [(3, tm_i (rb_b μ (k + q))), (0, .ref (E.2.1 74)), (1, tm_i x), (2, tm_i y)] C dX8_isWell_7 rfl (by decide) rfl ?_
  rcases (show q = 0 ∨ q = 1 ∨ q = 2 ∨ q = 3 ∨ q = 4 by omega) with rfl | rfl | rfl | rfl | rfl <;> subst hy
  · skip
    refine tv_iload_n (pc := 8) 3 C dX8_isWell_8 rfl rfl ?_
    refine tv_if_ne (pc := 9) 38 C dX8_isWell_9 (by decide) (by omega) (fun q => absurd q (by decide)) (fun _ => ?_)
    refine tv_iload_n (pc := 12) 0 C dX8_isWell_12 rfl rfl ?_
    refine tv_bipush (pc := 13) C dX8_isWell_13 (by decide) ?_
    refine tv_icmp_eq (pc := 15) 30 C dX8_isWell_15 (by decide) (by omega) (by omega) (fun h15 => ?_) (fun h15 => ?_)
    · skip
      refine tv_iconst (pc := 30) C dX8_isWell_30 ?_
      refine tv_goto (pc := 31) 66 C dX8_isWell_31 (by decide) ?_
      refine tv_zret (pc := 66) C dX8_isWell_66 (by omega) ?_
      exact ⟨_, rfl, by rw [if_pos (by simp only [sp_fit, decide_eq_true_eq]; omega)], rfl⟩
    · skip
      refine tv_iload_n (pc := 18) 0 C dX8_isWell_18 rfl rfl ?_
      refine tv_bipush (pc := 19) C dX8_isWell_19 (by decide) ?_
      refine tv_icmp_eq (pc := 21) 30 C dX8_isWell_21 (by decide) (by omega) (by omega) (fun h21 => ?_) (fun h21 => ?_)
      · skip
        refine tv_iconst (pc := 30) C dX8_isWell_30 ?_
        refine tv_goto (pc := 31) 66 C dX8_isWell_31 (by decide) ?_
        refine tv_zret (pc := 66) C dX8_isWell_66 (by omega) ?_
        exact ⟨_, rfl, by rw [if_pos (by simp only [sp_fit, decide_eq_true_eq]; omega)], rfl⟩
      · skip
        refine tv_iload_n (pc := 24) 0 C dX8_isWell_24 rfl rfl ?_
        refine tv_bipush (pc := 25) C dX8_isWell_25 (by decide) ?_
        refine tv_icmp_ne (pc := 27) 34 C dX8_isWell_27 (by decide) (by omega) (by omega) (fun h27 => ?_) (fun h27 => ?_)
        · skip
          refine tv_iconst (pc := 34) C dX8_isWell_34 ?_
          refine tv_goto (pc := 35) 66 C dX8_isWell_35 (by decide) ?_
          refine tv_zret (pc := 66) C dX8_isWell_66 (by omega) ?_
          exact ⟨_, rfl, by rw [if_neg (by simp only [sp_fit, decide_eq_true_eq]; omega)], rfl⟩
        · skip
          refine tv_iconst (pc := 30) C dX8_isWell_30 ?_
          refine tv_goto (pc := 31) 66 C dX8_isWell_31 (by decide) ?_
          refine tv_zret (pc := 66) C dX8_isWell_66 (by omega) ?_
          exact ⟨_, rfl, by rw [if_pos (by simp only [sp_fit, decide_eq_true_eq]; omega)], rfl⟩
  · skip
    refine tv_iload_n (pc := 8) 3 C dX8_isWell_8 rfl rfl ?_
    refine tv_if_ne (pc := 9) 38 C dX8_isWell_9 (by decide) (by omega) (fun _ => ?_) (fun q => absurd q (by decide))
    refine tv_iload_n (pc := 38) 0 C dX8_isWell_38 rfl rfl ?_
    refine tv_iload_n (pc := 39) 3 C dX8_isWell_39 rfl rfl ?_
    refine tv_iconst (pc := 40) C dX8_isWell_40 ?_
    refine tv_icmp_ne (pc := 41) 49 C dX8_isWell_41 (by decide) (by omega) (by omega) (fun q => absurd q (by decide)) (fun _ => ?_)
    refine tv_bipush (pc := 44) C dX8_isWell_44 (by decide) ?_
    refine tv_goto (pc := 46) 51 C dX8_isWell_46 (by decide) ?_
    refine tv_iload_n (pc := 51) 3 C dX8_isWell_51 rfl rfl ?_
    refine tv_iconst (pc := 52) C dX8_isWell_52 ?_
    refine tv_icmp_ne (pc := 53) 61 C dX8_isWell_53 (by decide) (by omega) (by omega) (fun _ => ?_) (fun q => absurd q (by decide))
    refine tv_bipush (pc := 61) C dX8_isWell_61 (by decide) ?_
    refine tv_callS (pc := 63) [tm_i (rb_b μ (k + 1)), tm_i 49, tm_i 57] [] C (c8_in E _ μ (rb_b μ (k + 1)) 49 57 (by omega) (by omega) (by omega)) cs_X8_94 (by decide) rfl (Nat.le_of_ble_eq_true rfl) rfl dX8_isWell_63 (tm_kp ?_)
    refine tv_zret (pc := 66) C dX8_isWell_66 (by omega) ?_
    exact ⟨_, rfl, by simp only [sp_fit, decide_eq_true_eq], rfl⟩
  · skip
    refine tv_iload_n (pc := 8) 3 C dX8_isWell_8 rfl rfl ?_
    refine tv_if_ne (pc := 9) 38 C dX8_isWell_9 (by decide) (by omega) (fun _ => ?_) (fun q => absurd q (by decide))
    refine tv_iload_n (pc := 38) 0 C dX8_isWell_38 rfl rfl ?_
    refine tv_iload_n (pc := 39) 3 C dX8_isWell_39 rfl rfl ?_
    refine tv_iconst (pc := 40) C dX8_isWell_40 ?_
    refine tv_icmp_ne (pc := 41) 49 C dX8_isWell_41 (by decide) (by omega) (by omega) (fun _ => ?_) (fun q => absurd q (by decide))
    refine tv_bipush (pc := 49) C dX8_isWell_49 (by decide) ?_
    refine tv_iload_n (pc := 51) 3 C dX8_isWell_51 rfl rfl ?_
    refine tv_iconst (pc := 52) C dX8_isWell_52 ?_
    refine tv_icmp_ne (pc := 53) 61 C dX8_isWell_53 (by decide) (by omega) (by omega) (fun q => absurd q (by decide)) (fun _ => ?_)
    refine tv_bipush (pc := 56) C dX8_isWell_56 (by decide) ?_
    refine tv_goto (pc := 58) 63 C dX8_isWell_58 (by decide) ?_
    refine tv_callS (pc := 63) [tm_i (rb_b μ (k + 2)), tm_i 48, tm_i 51] [] C (c8_in E _ μ (rb_b μ (k + 2)) 48 51 (by omega) (by omega) (by omega)) cs_X8_94 (by decide) rfl (Nat.le_of_ble_eq_true rfl) rfl dX8_isWell_63 (tm_kp ?_)
    refine tv_zret (pc := 66) C dX8_isWell_66 (by omega) ?_
    exact ⟨_, rfl, by simp only [sp_fit, decide_eq_true_eq], rfl⟩
  · skip
    refine tv_iload_n (pc := 8) 3 C dX8_isWell_8 rfl rfl ?_
    refine tv_if_ne (pc := 9) 38 C dX8_isWell_9 (by decide) (by omega) (fun _ => ?_) (fun q => absurd q (by decide))
    refine tv_iload_n (pc := 38) 0 C dX8_isWell_38 rfl rfl ?_
    refine tv_iload_n (pc := 39) 3 C dX8_isWell_39 rfl rfl ?_
    refine tv_iconst (pc := 40) C dX8_isWell_40 ?_
    refine tv_icmp_ne (pc := 41) 49 C dX8_isWell_41 (by decide) (by omega) (by omega) (fun _ => ?_) (fun q => absurd q (by decide))
    refine tv_bipush (pc := 49) C dX8_isWell_49 (by decide) ?_
    refine tv_iload_n (pc := 51) 3 C dX8_isWell_51 rfl rfl ?_
    refine tv_iconst (pc := 52) C dX8_isWell_52 ?_
    refine tv_icmp_ne (pc := 53) 61 C dX8_isWell_53 (by decide) (by omega) (by omega) (fun _ => ?_) (fun q => absurd q (by decide))
    refine tv_bipush (pc := 61) C dX8_isWell_61 (by decide) ?_
    refine tv_callS (pc := 63) [tm_i (rb_b μ (k + 3)), tm_i 48, tm_i 57] [] C (c8_in E _ μ (rb_b μ (k + 3)) 48 57 (by omega) (by omega) (by omega)) cs_X8_94 (by decide) rfl (Nat.le_of_ble_eq_true rfl) rfl dX8_isWell_63 (tm_kp ?_)
    refine tv_zret (pc := 66) C dX8_isWell_66 (by omega) ?_
    exact ⟨_, rfl, by simp only [sp_fit, decide_eq_true_eq], rfl⟩
  · skip
    refine tv_iload_n (pc := 8) 3 C dX8_isWell_8 rfl rfl ?_
    refine tv_if_ne (pc := 9) 38 C dX8_isWell_9 (by decide) (by omega) (fun _ => ?_) (fun q => absurd q (by decide))
    refine tv_iload_n (pc := 38) 0 C dX8_isWell_38 rfl rfl ?_
    refine tv_iload_n (pc := 39) 3 C dX8_isWell_39 rfl rfl ?_
    refine tv_iconst (pc := 40) C dX8_isWell_40 ?_
    refine tv_icmp_ne (pc := 41) 49 C dX8_isWell_41 (by decide) (by omega) (by omega) (fun _ => ?_) (fun q => absurd q (by decide))
    refine tv_bipush (pc := 49) C dX8_isWell_49 (by decide) ?_
    refine tv_iload_n (pc := 51) 3 C dX8_isWell_51 rfl rfl ?_
    refine tv_iconst (pc := 52) C dX8_isWell_52 ?_
    refine tv_icmp_ne (pc := 53) 61 C dX8_isWell_53 (by decide) (by omega) (by omega) (fun _ => ?_) (fun q => absurd q (by decide))
    refine tv_bipush (pc := 61) C dX8_isWell_61 (by decide) ?_
    refine tv_callS (pc := 63) [tm_i (rb_b μ (k + 4)), tm_i 48, tm_i 57] [] C (c8_in E _ μ (rb_b μ (k + 4)) 48 57 (by omega) (by omega) (by omega)) cs_X8_94 (by decide) rfl (Nat.le_of_ble_eq_true rfl) rfl dX8_isWell_63 (tm_kp ?_)
    refine tv_zret (pc := 66) C dX8_isWell_66 (by omega) ?_
    exact ⟨_, rfl, by simp only [sp_fit, decide_eq_true_eq], rfl⟩
