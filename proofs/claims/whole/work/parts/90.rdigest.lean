theorem l_odg {E : tm_Ev} {X : tm_X} (C : tm_C E X yX8_orderDigest.cls cX8_orderDigest 7 (some .long) 9) (ν d s : tm_M) (hd : dd_ok d) (rr_ν : rf_r ν d) (h : Nat) (x g0 : Int) (hx : x = h) (hh : h < dd_n d) (h8 : dd_n d ≤ 8) (Q : State → Prop) (hk9 : tm_V E X Q 7 35 [(4, tm_l (fo_n (fun w => wr (or_z d (h : Int) (w : Int))) g0 4)), (0, .ref (E.2.1 74)), (3, tm_i x)] [] ν) : ∀ (f k : Nat) (y g : Int), y = k → k ≤ 4 → 4 - k < f → g = fo_n (fun w => wr (or_z d (h : Int) (w : Int))) g0 k → tm_V E X Q 7 6 [(6, tm_i y), (4, tm_l g), (0, .ref (E.2.1 74)), (3, tm_i x)] [] ν := by
  intro f
  induction f with
  | zero => intro k y g hy hj hf hg; omega
  | succ f ih =>
    intro k y g hy hj hf hg
    refine tv_iload (pc := 6) 0 C dX8_orderDigest_6 rfl ?_
    refine tv_iconst (pc := 8) C dX8_orderDigest_8 ?_
    refine tv_icmp_ge (pc := 9) 35 C dX8_orderDigest_9 (by decide) (by omega) (by omega) (fun h9 => ?_) (fun h9 => ?_)
    · skip
      refine tv_sub (lv1 := [(4, tm_l g), (0, .ref (E.2.1 74)), (3, tm_i x)]) [1, 2, 3] rfl ?_
      have hin : k = 4 := by omega
      subst hin
      rw [hg]
      exact hk9
    · skip
      refine tv_ldc2 (pc := 12) (z := 31) C kl_X8_314 dX8_orderDigest_12 (by decide) ?_
      refine tv_lload (pc := 15) 1 C dX8_orderDigest_15 rfl ?_
      refine tv_lmul (pc := 17) C dX8_orderDigest_17 ?_
      refine tv_aload_n (pc := 18) 2 C dX8_orderDigest_18 rfl rfl ?_
      refine tv_iload_n (pc := 19) 3 C dX8_orderDigest_19 rfl rfl ?_
      refine tv_iload (pc := 20) 0 C dX8_orderDigest_20 rfl ?_
      refine tv_callV (pc := 22) [tm_i x, tm_i y] [tm_l (31 * g)] C (k8_orderOf E _ ν d hd rr_ν x y (by omega) (by omega)) cv_X8_143 rfl rfl (by decide) rfl (Nat.le_of_ble_eq_true rfl) rfl dX8_orderDigest_22 (tm_kp ?_)
      refine tv_i2lw (pc := 25) C dX8_orderDigest_25 ?_
      refine tv_ladd (pc := 26) C dX8_orderDigest_26 ?_
      refine tv_lstore (pc := 27) [(4, tm_l ((31 * g) + (wr (or_z d x y)))), (6, tm_i y), (0, .ref (E.2.1 74)), (3, tm_i x)] C dX8_orderDigest_27 (by decide) rfl ?_
      refine tv_iinc (pc := 29) 1 [(6, tm_i (y + 1)), (4, tm_l ((31 * g) + (wr (or_z d x y)))), (0, .ref (E.2.1 74)), (3, tm_i x)] C dX8_orderDigest_29 rfl (by decide) rfl ?_
      refine tv_goto (pc := 32) 6 C dX8_orderDigest_32 (by decide) ?_
      refine tv_sub (lv1 := [(6, tm_i (y + 1)), (4, tm_l ((31 * g) + (wr (or_z d x y)))), (0, .ref (E.2.1 74)), (3, tm_i x)]) [0, 1, 2, 3] rfl ?_
      refine ih (k + 1) (y + 1) _ (by omega) (by omega) (by omega) ?_
      rw [fo_s, ← hg, ← hx, ← hy]
theorem k8_odg (E : tm_Ev) (l : Launch) (μ : tm_M) (d s : tm_M) (hd : dd_ok d) (hI : rf_I μ d s) (rr_μ : rf_r μ d) (g x : Int) (h : Nat) (hx : x = h) (hh : h < dd_n d) (h8 : dd_n d ≤ 8) : tm_Met E l yX8_orderDigest cX8_orderDigest 7 (some .long) 9 [.ref (E.2.1 74), tm_l g, tm_i x] μ (tm_pl (fun z μ' => z = 31 * (31 * (31 * fo_n (fun w => wr (or_z d (h : Int) (w : Int))) g 4 + wr (en_z d (h : Int))) + sr_z d 5 (h : Int) 0) + sr_z d 5 (h : Int) 1 ∧ rf_I μ' d s ∧ rf_r μ' d ∧ ∀ a, a < 74 → μ' a = μ a)) := by
  refine tm_intro [(0, .ref (E.2.1 74)), (1, tm_l g), (3, tm_i x)] rfl (by decide +kernel) (Nat.le_of_ble_eq_true rfl) ?_
  intro X hX C
  subst hX
  refine tv_lload_n (pc := 0) 1 C dX8_orderDigest_0 rfl rfl ?_
  refine tv_lstore (pc := 1) [(4, tm_l g), (0, .ref (E.2.1 74)), (1, tm_l g), (3, tm_i x)] C dX8_orderDigest_1 (by decide) rfl ?_
  refine tv_iconst (pc := 3) C dX8_orderDigest_3 ?_
  refine tv_istore (pc := 4) [(6, tm_i 0), (4, tm_l g), (0, .ref (E.2.1 74)), (1, tm_l g), (3, tm_i x)] C dX8_orderDigest_4 (by decide) rfl ?_
  refine tv_sub (lv1 := [(6, tm_i 0), (4, tm_l g), (0, .ref (E.2.1 74)), (3, tm_i x)]) [0, 1, 2, 4] rfl ?_
  have hI_μ := hI
  have fr_μ : ∀ a, a < 74 → μ a = μ a := fun a _ => rfl
  refine l_odg C μ d s hd rr_μ h x _ hx hh h8 _ ?_ 5 0 0 _ rfl (by omega) (by omega) rfl
  refine tv_ldc2 (pc := 35) (z := 31) C kl_X8_314 dX8_orderDigest_35 (by decide) ?_
  refine tv_lload (pc := 38) 0 C dX8_orderDigest_38 rfl ?_
  refine tv_lmul (pc := 40) C dX8_orderDigest_40 ?_
  refine tv_aload_n (pc := 41) 1 C dX8_orderDigest_41 rfl rfl ?_
  refine tv_iload_n (pc := 42) 2 C dX8_orderDigest_42 rfl rfl ?_
  refine tv_callV (pc := 43) [tm_i x] [tm_l (31 * (fo_n (fun w => wr (or_z d (h : Int) (w : Int))) g 4))] C (k8_endsOf E _ μ d s hd hI_μ x (by omega)) cv_X8_225 rfl rfl (by decide) rfl (Nat.le_of_ble_eq_true rfl) rfl dX8_orderDigest_43 (tm_ki ?_)
  rintro z9 n1 ⟨hz9, hI_n1, rr_n1, fq⟩
  subst hz9
  have fr_n1 : ∀ a, a < 74 → n1 a = μ a := fun a ha => (fq a ha).trans (fr_μ a ha)
  clear fq
  refine tv_i2lw (pc := 46) C dX8_orderDigest_46 ?_
  refine tv_ladd (pc := 47) C dX8_orderDigest_47 ?_
  refine tv_lstore (pc := 48) [(4, tm_l ((31 * (fo_n (fun w => wr (or_z d (h : Int) (w : Int))) g 4)) + (wr (en_z d x)))), (0, .ref (E.2.1 74)), (3, tm_i x)] C dX8_orderDigest_48 (by decide) rfl ?_
  refine tv_ldc2 (pc := 50) (z := 31) C kl_X8_314 dX8_orderDigest_50 (by decide) ?_
  refine tv_lload (pc := 53) 0 C dX8_orderDigest_53 rfl ?_
  refine tv_lmul (pc := 55) C dX8_orderDigest_55 ?_
  refine tv_aload_n (pc := 56) 1 C dX8_orderDigest_56 rfl rfl ?_
  refine tv_iconst (pc := 57) C dX8_orderDigest_57 ?_
  refine tv_iload_n (pc := 58) 2 C dX8_orderDigest_58 rfl rfl ?_
  refine tv_iconst (pc := 59) C dX8_orderDigest_59 ?_
  refine tv_callV (pc := 60) [tm_i 5, tm_i x, tm_i 0] [tm_l (31 * ((31 * (fo_n (fun w => wr (or_z d (h : Int) (w : Int))) g 4)) + (wr (en_z d x))))] C (k8_showerOf E _ n1 d s hd hI_n1 5 x 0 (by omega) (by omega) (by omega)) cv_X8_287 rfl rfl (by decide) rfl (Nat.le_of_ble_eq_true rfl) rfl dX8_orderDigest_60 (tm_kl ?_)
  rintro z9 n2 ⟨hz9, hI_n2, rr_n2, fq⟩
  subst hz9
  have fr_n2 : ∀ a, a < 74 → n2 a = μ a := fun a ha => (fq a ha).trans (fr_n1 a ha)
  clear fq
  refine tv_ladd (pc := 63) C dX8_orderDigest_63 ?_
  refine tv_lstore (pc := 64) [(4, tm_l ((31 * ((31 * (fo_n (fun w => wr (or_z d (h : Int) (w : Int))) g 4)) + (wr (en_z d x)))) + (sr_z d 5 x 0))), (0, .ref (E.2.1 74)), (3, tm_i x)] C dX8_orderDigest_64 (by decide) rfl ?_
  refine tv_ldc2 (pc := 66) (z := 31) C kl_X8_314 dX8_orderDigest_66 (by decide) ?_
  refine tv_lload (pc := 69) 0 C dX8_orderDigest_69 rfl ?_
  refine tv_lmul (pc := 71) C dX8_orderDigest_71 ?_
  refine tv_aload_n (pc := 72) 1 C dX8_orderDigest_72 rfl rfl ?_
  refine tv_iconst (pc := 73) C dX8_orderDigest_73 ?_
  refine tv_iload_n (pc := 74) 2 C dX8_orderDigest_74 rfl rfl ?_
  refine tv_iconst (pc := 75) C dX8_orderDigest_75 ?_
  refine tv_callV (pc := 76) [tm_i 5, tm_i x, tm_i 1] [tm_l (31 * ((31 * ((31 * (fo_n (fun w => wr (or_z d (h : Int) (w : Int))) g 4)) + (wr (en_z d x)))) + (sr_z d 5 x 0)))] C (k8_showerOf E _ n2 d s hd hI_n2 5 x 1 (by omega) (by omega) (by omega)) cv_X8_287 rfl rfl (by decide) rfl (Nat.le_of_ble_eq_true rfl) rfl dX8_orderDigest_76 (tm_kl ?_)
  rintro z9 n3 ⟨hz9, hI_n3, rr_n3, fq⟩
  subst hz9
  have fr_n3 : ∀ a, a < 74 → n3 a = μ a := fun a ha => (fq a ha).trans (fr_n2 a ha)
  clear fq
  refine tv_ladd (pc := 79) C dX8_orderDigest_79 ?_
  refine tv_lret (pc := 80) C dX8_orderDigest_80 ?_
  exact ⟨_, rfl, by rw [hx], hI_n3, rr_n3, fr_n3⟩
theorem l_rdg1 {E : tm_Ev} {X : tm_X} (C : tm_C E X yX8_digest.cls cX8_digest 5 (some .long) 10) (μ d s : tm_M) (hd : dd_ok d) (hs : ss_ok s) (Q : State → Prop) (hk9 : ∀ ν : tm_M, rf_I ν d s → (∀ a, a < 74 → ν a = μ a) → tm_V E X Q 5 31 [(1, tm_l (dg_a d s)), (0, .ref (E.2.1 74))] [] ν) : ∀ (f k : Nat) (x g : Int) (ν : tm_M), x = k → k ≤ 8 → 8 - k < f → g = fo_n (fun k => wr (co_z d s (k : Int))) 17 k → rf_I ν d s → (∀ a, a < 74 → ν a = μ a) → tm_V E X Q 5 6 [(3, tm_i x), (1, tm_l g), (0, .ref (E.2.1 74))] [] ν := by
  intro f
  induction f with
  | zero => intro k x g ν hx hj hf hg hI_ν fr_ν; omega
  | succ f ih =>
    intro k x g ν hx hj hf hg hI_ν fr_ν
    refine tv_iload_n (pc := 6) 0 C dX8_digest_6 rfl rfl ?_
    refine tv_bipush (pc := 7) C dX8_digest_7 (by decide) ?_
    refine tv_icmp_ge (pc := 9) 31 C dX8_digest_9 (by decide) (by omega) (by omega) (fun h9 => ?_) (fun h9 => ?_)
    · skip
      refine tv_sub (lv1 := [(1, tm_l g), (0, .ref (E.2.1 74))]) [1, 2] rfl ?_
      have hin : k = 8 := by omega
      subst hin
      rw [hg]
      exact hk9 ν hI_ν fr_ν
    · skip
      refine tv_ldc2 (pc := 12) (z := 31) C kl_X8_314 dX8_digest_12 (by decide) ?_
      refine tv_lload_n (pc := 15) 1 C dX8_digest_15 rfl rfl ?_
      refine tv_lmul (pc := 16) C dX8_digest_16 ?_
      refine tv_aload_n (pc := 17) 2 C dX8_digest_17 rfl rfl ?_
      refine tv_iload_n (pc := 18) 0 C dX8_digest_18 rfl rfl ?_
      refine tv_callV (pc := 19) [tm_i x] [tm_l (31 * g)] C (k8_count E _ ν d s hd hI_ν x (by omega)) cv_X8_318 rfl rfl (by decide) rfl (Nat.le_of_ble_eq_true rfl) rfl dX8_digest_19 (tm_ki ?_)
      rintro z9 n4 ⟨hz9, hI_n4, fq⟩
      subst hz9
      have fr_n4 : ∀ a, a < 74 → n4 a = μ a := fun a ha => (fq a ha).trans (fr_ν a ha)
      clear fq
      refine tv_i2lw (pc := 22) C dX8_digest_22 ?_
      refine tv_ladd (pc := 23) C dX8_digest_23 ?_
      refine tv_lstore_n (pc := 24) [(1, tm_l ((31 * g) + (wr (co_z d s x)))), (3, tm_i x), (0, .ref (E.2.1 74))] C dX8_digest_24 rfl (by decide) rfl ?_
      refine tv_iinc (pc := 25) 1 [(3, tm_i (x + 1)), (1, tm_l ((31 * g) + (wr (co_z d s x)))), (0, .ref (E.2.1 74))] C dX8_digest_25 rfl (by decide) rfl ?_
      refine tv_goto (pc := 28) 6 C dX8_digest_28 (by decide) ?_
      refine tv_sub (lv1 := [(3, tm_i (x + 1)), (1, tm_l ((31 * g) + (wr (co_z d s x)))), (0, .ref (E.2.1 74))]) [0, 1, 2] rfl ?_
      refine ih (k + 1) (x + 1) _ n4 (by omega) (by omega) (by omega) ?_ hI_n4 fr_n4
      rw [fo_s, ← hg, ← hx]
theorem l_rdg2b {E : tm_Ev} {X : tm_X} (C : tm_C E X yX8_digest.cls cX8_digest 5 (some .long) 10) (μ d s : tm_M) (hd : dd_ok d) (hs : ss_ok s) (h : Nat) (x g0 : Int) (hx : x = h) (hh : h < 40) (Q : State → Prop) (hk9 : ∀ ν : tm_M, rf_I ν d s → (∀ a, a < 74 → ν a = μ a) → rf_r ν d → tm_V E X Q 5 108 [(3, tm_i x), (1, tm_l (fo_n (fun w => wr (at_z d (h : Int) (w : Int))) g0 5)), (0, .ref (E.2.1 74))] [] ν) : ∀ (f k : Nat) (y g : Int) (ν : tm_M), y = k → k ≤ 5 → 5 - k < f → g = fo_n (fun w => wr (at_z d (h : Int) (w : Int))) g0 k → rf_I ν d s → (∀ a, a < 74 → ν a = μ a) → (0 < k → rf_r ν d) → tm_V E X Q 5 81 [(4, tm_i y), (3, tm_i x), (1, tm_l g), (0, .ref (E.2.1 74))] [] ν := by
  intro f
  induction f with
  | zero => intro k y g ν hy hj hf hg hI_ν fr_ν hrr; omega
  | succ f ih =>
    intro k y g ν hy hj hf hg hI_ν fr_ν hrr
    refine tv_iload (pc := 81) 0 C dX8_digest_81 rfl ?_
    refine tv_iconst (pc := 83) C dX8_digest_83 ?_
    refine tv_icmp_ge (pc := 84) 108 C dX8_digest_84 (by decide) (by omega) (by omega) (fun h84 => ?_) (fun h84 => ?_)
    · skip
      refine tv_sub (lv1 := [(3, tm_i x), (1, tm_l g), (0, .ref (E.2.1 74))]) [1, 2, 3] rfl ?_
      have hin : k = 5 := by omega
      subst hin
      rw [hg]
      exact hk9 ν hI_ν fr_ν (hrr (by omega))
    · skip
      refine tv_ldc2 (pc := 87) (z := 31) C kl_X8_314 dX8_digest_87 (by decide) ?_
      refine tv_lload_n (pc := 90) 2 C dX8_digest_90 rfl rfl ?_
      refine tv_lmul (pc := 91) C dX8_digest_91 ?_
      refine tv_aload_n (pc := 92) 3 C dX8_digest_92 rfl rfl ?_
      refine tv_iload_n (pc := 93) 1 C dX8_digest_93 rfl rfl ?_
      refine tv_iload (pc := 94) 0 C dX8_digest_94 rfl ?_
      refine tv_callV (pc := 96) [tm_i x, tm_i y] [tm_l (31 * g)] C (k8_atOf E _ ν d s hd hI_ν x y (by omega) (by omega)) cv_X8_222 rfl rfl (by decide) rfl (Nat.le_of_ble_eq_true rfl) rfl dX8_digest_96 (tm_ki ?_)
      rintro z9 n5 ⟨hz9, hI_n5, rr_n5, fq⟩
      subst hz9
      have fr_n5 : ∀ a, a < 74 → n5 a = μ a := fun a ha => (fq a ha).trans (fr_ν a ha)
      clear fq
      refine tv_i2lw (pc := 99) C dX8_digest_99 ?_
      refine tv_ladd (pc := 100) C dX8_digest_100 ?_
      refine tv_lstore_n (pc := 101) [(1, tm_l ((31 * g) + (wr (at_z d x y)))), (4, tm_i y), (3, tm_i x), (0, .ref (E.2.1 74))] C dX8_digest_101 rfl (by decide) rfl ?_
      refine tv_iinc (pc := 102) 1 [(4, tm_i (y + 1)), (1, tm_l ((31 * g) + (wr (at_z d x y)))), (3, tm_i x), (0, .ref (E.2.1 74))] C dX8_digest_102 rfl (by decide) rfl ?_
      refine tv_goto (pc := 105) 81 C dX8_digest_105 (by decide) ?_
      refine tv_sub (lv1 := [(4, tm_i (y + 1)), (3, tm_i x), (1, tm_l ((31 * g) + (wr (at_z d x y)))), (0, .ref (E.2.1 74))]) [0, 2, 1, 3] rfl ?_
      refine ih (k + 1) (y + 1) _ n5 (by omega) (by omega) (by omega) ?_ hI_n5 fr_n5 (fun _ => rr_n5)
      rw [fo_s, ← hg, ← hx, ← hy]
theorem l_rdg2 {E : tm_Ev} {X : tm_X} (C : tm_C E X yX8_digest.cls cX8_digest 5 (some .long) 10) (μ d s : tm_M) (hd : dd_ok d) (hs : ss_ok s) (g0 : Int) (Q : State → Prop) (hk9 : ∀ ν : tm_M, rf_I ν d s → (∀ a, a < 74 → ν a = μ a) → rf_r ν d → tm_V E X Q 5 114 [(1, tm_l (dg_h d g0 40)), (0, .ref (E.2.1 74))] [] ν) : ∀ (f h : Nat) (x g : Int) (ν : tm_M), x = h → h ≤ 40 → 40 - h < f → g = dg_h d g0 h → rf_I ν d s → (∀ a, a < 74 → ν a = μ a) → (0 < h → rf_r ν d) → tm_V E X Q 5 59 [(3, tm_i x), (1, tm_l g), (0, .ref (E.2.1 74))] [] ν := by
  intro f
  induction f with
  | zero => intro h x g ν hx hj hf hg hI_ν fr_ν hrr; omega
  | succ f ih =>
    intro h x g ν hx hj hf hg hI_ν fr_ν hrr
    refine tv_iload_n (pc := 59) 0 C dX8_digest_59 rfl rfl ?_
    refine tv_bipush (pc := 60) C dX8_digest_60 (by decide) ?_
    refine tv_icmp_ge (pc := 62) 114 C dX8_digest_62 (by decide) (by omega) (by omega) (fun h62 => ?_) (fun h62 => ?_)
    · skip
      refine tv_sub (lv1 := [(1, tm_l g), (0, .ref (E.2.1 74))]) [1, 2] rfl ?_
      have hin : h = 40 := by omega
      subst hin
      rw [hg]
      exact hk9 ν hI_ν fr_ν (hrr (by omega))
    · skip
      refine tv_ldc2 (pc := 65) (z := 31) C kl_X8_314 dX8_digest_65 (by decide) ?_
      refine tv_lload_n (pc := 68) 1 C dX8_digest_68 rfl rfl ?_
      refine tv_lmul (pc := 69) C dX8_digest_69 ?_
      refine tv_aload_n (pc := 70) 2 C dX8_digest_70 rfl rfl ?_
      refine tv_iload_n (pc := 71) 0 C dX8_digest_71 rfl rfl ?_
      refine tv_callV (pc := 72) [tm_i x] [tm_l (31 * g)] C (k8_seaOf E _ ν d s hd hI_ν x (by omega)) cv_X8_137 rfl rfl (by decide) rfl (Nat.le_of_ble_eq_true rfl) rfl dX8_digest_72 (tm_ki ?_)
      rintro z9 n6 ⟨hz9, hI_n6, rr_n6, fq⟩
      subst hz9
      have fr_n6 : ∀ a, a < 74 → n6 a = μ a := fun a ha => (fq a ha).trans (fr_ν a ha)
      clear fq
      refine tv_i2lw (pc := 75) C dX8_digest_75 ?_
      refine tv_ladd (pc := 76) C dX8_digest_76 ?_
      refine tv_lstore_n (pc := 77) [(1, tm_l ((31 * g) + (wr (sa_z d x)))), (3, tm_i x), (0, .ref (E.2.1 74))] C dX8_digest_77 rfl (by decide) rfl ?_
      refine tv_iconst (pc := 78) C dX8_digest_78 ?_
      refine tv_istore (pc := 79) [(4, tm_i 0), (1, tm_l ((31 * g) + (wr (sa_z d x)))), (3, tm_i x), (0, .ref (E.2.1 74))] C dX8_digest_79 (by decide) rfl ?_
      refine tv_sub (lv1 := [(4, tm_i 0), (3, tm_i x), (1, tm_l ((31 * g) + (wr (sa_z d x)))), (0, .ref (E.2.1 74))]) [0, 2, 1, 3] rfl ?_
      refine l_rdg2b C μ d s hd hs h x _ hx (by omega) _ ?_ 6 0 0 _ n6 rfl (by omega) (by omega) rfl hI_n6 fr_n6 (fun q => by omega)
      intro κ hI_κ fr_κ rr_κ
      refine tv_iinc (pc := 108) 0 [(3, tm_i (x + 1)), (1, tm_l (fo_n (fun w => wr (at_z d (h : Int) (w : Int))) ((31 * g) + (wr (sa_z d x))) 5)), (0, .ref (E.2.1 74))] C dX8_digest_108 rfl (by decide) rfl ?_
      refine tv_goto (pc := 111) 59 C dX8_digest_111 (by decide) ?_
      refine tv_sub (lv1 := [(3, tm_i (x + 1)), (1, tm_l (fo_n (fun w => wr (at_z d (h : Int) (w : Int))) ((31 * g) + (wr (sa_z d x))) 5)), (0, .ref (E.2.1 74))]) [0, 1, 2] rfl ?_
      refine ih (h + 1) (x + 1) _ κ (by omega) (by omega) (by omega) ?_ hI_κ fr_κ (fun _ => rr_κ)
      show _ = fo_n _ (31 * dg_h d g0 h + wr (sa_z d (h : Int))) 5
      rw [← hg, ← hx]
theorem l_rdg3 {E : tm_Ev} {X : tm_X} (C : tm_C E X yX8_digest.cls cX8_digest 5 (some .long) 10) (μ d s : tm_M) (hd : dd_ok d) (hs : ss_ok s) (h8 : dd_n d ≤ 8) (g0 : Int) (Q : State → Prop) (hk9 : ∀ ν : tm_M, rf_I ν d s → (∀ a, a < 74 → ν a = μ a) → tm_V E X Q 5 137 [(1, tm_l (dg_o d g0 (dd_n d))), (0, .ref (E.2.1 74))] [] ν) : ∀ (f h : Nat) (x g : Int) (ν : tm_M), x = h → h ≤ dd_n d → dd_n d - h < f → g = dg_o d g0 h → rf_I ν d s → (∀ a, a < 74 → ν a = μ a) → rf_r ν d → tm_V E X Q 5 116 [(3, tm_i x), (1, tm_l g), (0, .ref (E.2.1 74))] [] ν := by
  intro f
  induction f with
  | zero => intro h x g ν hx hj hf hg hI_ν fr_ν rr_ν; omega
  | succ f ih =>
    intro h x g ν hx hj hf hg hI_ν fr_ν rr_ν
    refine tv_iload_n (pc := 116) 0 C dX8_digest_116 rfl rfl ?_
    refine tv_aload_n (pc := 117) 2 C dX8_digest_117 rfl rfl ?_
    refine tv_geti (pc := 118) (z := (dd_n d : Int)) C rfl rfl fl_X8_114 dX8_digest_118 rr_ν.2.1 ?_
    refine tv_icmp_ge (pc := 121) 137 C dX8_digest_121 (by decide) (by omega) (by omega) (fun h121 => ?_) (fun h121 => ?_)
    · skip
      refine tv_sub (lv1 := [(1, tm_l g), (0, .ref (E.2.1 74))]) [1, 2] rfl ?_
      have hin : h = dd_n d := by omega
      subst hin
      rw [hg]
      exact hk9 ν hI_ν fr_ν
    · skip
      refine tv_aload_n (pc := 124) 2 C dX8_digest_124 rfl rfl ?_
      refine tv_lload_n (pc := 125) 1 C dX8_digest_125 rfl rfl ?_
      refine tv_iload_n (pc := 126) 0 C dX8_digest_126 rfl rfl ?_
      refine tv_callV (pc := 127) [tm_l g, tm_i x] [] C (k8_odg E _ ν d s hd hI_ν rr_ν g x h hx (by omega) h8) cv_X8_321 rfl rfl (by decide) rfl (Nat.le_of_ble_eq_true rfl) rfl dX8_digest_127 (tm_kl ?_)
      rintro q9 κ ⟨hq9, hI_κ, rr_κ, fq⟩
      have fr_κ : ∀ a, a < 74 → κ a = μ a := fun a ha => (fq a ha).trans (fr_ν a ha)
      refine tv_lstore_n (pc := 130) [(1, tm_l q9), (3, tm_i x), (0, .ref (E.2.1 74))] C dX8_digest_130 rfl (by decide) rfl ?_
      refine tv_iinc (pc := 131) 1 [(3, tm_i (x + 1)), (1, tm_l q9), (0, .ref (E.2.1 74))] C dX8_digest_131 rfl (by decide) rfl ?_
      refine tv_goto (pc := 134) 116 C dX8_digest_134 (by decide) ?_
      refine tv_sub (lv1 := [(3, tm_i (x + 1)), (1, tm_l q9), (0, .ref (E.2.1 74))]) [0, 1, 2] rfl ?_
      refine ih (h + 1) (x + 1) q9 κ (by omega) (by omega) (by omega) ?_ hI_κ fr_κ rr_κ
      rw [hq9, hg]
      rfl
theorem ro_s {d : tm_M} {k : Nat} (hk : k < 3) : ro_z d ((k + 1 : Nat) : Int) = if k < dd_n d then (rb_m d).2 k else -1 := by
  unfold ro_z
  rw [if_pos (by omega)]
  by_cases hc : k < dd_n d
  · rw [if_pos hc, if_neg (by omega), if_neg (by omega), show (((k + 1 : Nat) : Int) - 1).toNat = k by omega]
  · rw [if_neg hc, if_pos (by omega)]
theorem ro_0 (d : tm_M) : ro_z d ((0 : Nat) : Int) = if dd_n d = 0 then -1 else (rb_m d).1 := by
  unfold ro_z
  rw [if_pos (by omega)]
  by_cases hc : dd_n d = 0
  · rw [if_pos hc, if_pos (by omega)]
  · rw [if_neg hc, if_neg (by omega), if_pos (by omega)]
theorem l_rdg4 {E : tm_Ev} {X : tm_X} (C : tm_C E X yX8_digest.cls cX8_digest 5 (some .long) 10) (ν d : tm_M) (h8 : dd_n d ≤ 8) (g0 : Int) (rr_ν : rf_r ν d) (hbr : ∀ j, j < dd_n d → ν 93 j = (rb_m d).2 j) (Q : State → Prop) (hk9 : tm_V E X Q 5 242 [(1, tm_l (fo_n (fun k => wr (ro_z d (k : Int))) g0 4)), (0, .ref (E.2.1 74))] [] ν) : ∀ (f k : Nat) (x g : Int), x = k → k ≤ 3 → 3 - k < f → g = fo_n (fun k => wr (ro_z d (k : Int))) g0 (k + 1) → tm_V E X Q 5 202 [(4, tm_i x), (1, tm_l g), (0, .ref (E.2.1 74))] [] ν := by
  intro f
  induction f with
  | zero => intro k x g hx hj hf hg; omega
  | succ f ih =>
    intro k x g hx hj hf hg
    refine tv_iload (pc := 202) 0 C dX8_digest_202 rfl ?_
    refine tv_iconst (pc := 204) C dX8_digest_204 ?_
    refine tv_icmp_ge (pc := 205) 242 C dX8_digest_205 (by decide) (by omega) (by omega) (fun h205 => ?_) (fun h205 => ?_)
    · skip
      refine tv_sub (lv1 := [(1, tm_l g), (0, .ref (E.2.1 74))]) [1, 2] rfl ?_
      have hin : k = 3 := by omega
      subst hin
      rw [hg]
      exact hk9
    · skip
      refine tv_ldc2 (pc := 208) (z := 31) C kl_X8_314 dX8_digest_208 (by decide) ?_
      refine tv_lload_n (pc := 211) 1 C dX8_digest_211 rfl rfl ?_
      refine tv_lmul (pc := 212) C dX8_digest_212 ?_
      refine tv_iload (pc := 213) 0 C dX8_digest_213 rfl ?_
      refine tv_aload_n (pc := 215) 2 C dX8_digest_215 rfl rfl ?_
      refine tv_geti (pc := 216) (z := (dd_n d : Int)) C rfl rfl fl_X8_114 dX8_digest_216 rr_ν.2.1 ?_
      refine tv_icmp_ge (pc := 219) 232 C dX8_digest_219 (by decide) (by omega) (by omega) (fun h219 => ?_) (fun h219 => ?_)
      · skip
        refine tv_iconst (pc := 232) C dX8_digest_232 ?_
        refine tv_i2lw (pc := 233) C dX8_digest_233 ?_
        refine tv_ladd (pc := 234) C dX8_digest_234 ?_
        refine tv_lstore_n (pc := 235) [(1, tm_l ((31 * g) + (wr (-1)))), (4, tm_i x), (0, .ref (E.2.1 74))] C dX8_digest_235 rfl (by decide) rfl ?_
        refine tv_iinc (pc := 236) 1 [(4, tm_i (x + 1)), (1, tm_l ((31 * g) + (wr (-1)))), (0, .ref (E.2.1 74))] C dX8_digest_236 rfl (by decide) rfl ?_
        refine tv_goto (pc := 239) 202 C dX8_digest_239 (by decide) ?_
        refine tv_sub (lv1 := [(4, tm_i (x + 1)), (1, tm_l ((31 * g) + (wr (-1)))), (0, .ref (E.2.1 74))]) [0, 1, 2] rfl ?_
        refine ih (k + 1) (x + 1) _ (by omega) (by omega) (by omega) ?_
        rw [fo_s, ← hg]
        show _ = 31 * g + wr (ro_z d ((k + 1 : Nat) : Int))
        rw [ro_s (by omega), if_neg (by omega)]
      · skip
        refine tv_aload_n (pc := 222) 2 C dX8_digest_222 rfl rfl ?_
        refine tv_getr (pc := 223) (q := 93) C rfl rfl fl_X8_64 dX8_digest_223 ?_
        refine tv_iload (pc := 226) 0 C dX8_digest_226 rfl ?_
        refine tv_iald (pc := 228) (j := k) (z := (rb_m d).2 k) C rfl dX8_digest_228 (by omega) (by omega) (hbr k (by omega)) ?_
        refine tv_goto (pc := 229) 233 C dX8_digest_229 (by decide) ?_
        refine tv_i2lw (pc := 233) C dX8_digest_233 ?_
        refine tv_ladd (pc := 234) C dX8_digest_234 ?_
        refine tv_lstore_n (pc := 235) [(1, tm_l ((31 * g) + (wr ((rb_m d).2 k)))), (4, tm_i x), (0, .ref (E.2.1 74))] C dX8_digest_235 rfl (by decide) rfl ?_
        refine tv_iinc (pc := 236) 1 [(4, tm_i (x + 1)), (1, tm_l ((31 * g) + (wr ((rb_m d).2 k)))), (0, .ref (E.2.1 74))] C dX8_digest_236 rfl (by decide) rfl ?_
        refine tv_goto (pc := 239) 202 C dX8_digest_239 (by decide) ?_
        refine tv_sub (lv1 := [(4, tm_i (x + 1)), (1, tm_l ((31 * g) + (wr ((rb_m d).2 k)))), (0, .ref (E.2.1 74))]) [0, 1, 2] rfl ?_
        refine ih (k + 1) (x + 1) _ (by omega) (by omega) (by omega) ?_
        rw [fo_s, ← hg]
        show _ = 31 * g + wr (ro_z d ((k + 1 : Nat) : Int))
        rw [ro_s (by omega), if_pos (by omega)]
theorem wa_0 (d s : tm_M) : fl_z d s = wa_z d s 0 := by
  unfold wa_z
  rw [if_pos (by omega), if_pos rfl]
theorem wa_1 (d s : tm_M) : sb_z d s = wa_z d s 1 := by
  unfold wa_z
  rw [if_pos (by omega), if_neg (by omega)]
set_option maxRecDepth 100000 in
theorem k8_digest (E : tm_Ev) (l : Launch) (μ : tm_M) (d s : tm_M) (hd : dd_ok d) (hs : ss_ok s) (hI : rf_I μ d s) : tm_Met E l yX8_digest cX8_digest 5 (some .long) 10 [.ref (E.2.1 74)] μ (tm_pl (fun z μ' => z = dg_z d s ∧ rf_I μ' d s ∧ ∀ a, a < 74 → μ' a = μ a)) := by
  refine tm_intro [(0, .ref (E.2.1 74))] rfl (by decide +kernel) (Nat.le_of_ble_eq_true rfl) ?_
  intro X hX C
  subst hX
  have h8 : dd_n d ≤ 8 := sp_no_bd _ (by have q := hd.2.1; omega)
  refine tv_ldc2 (pc := 0) (z := 17) C kl_X8_316 dX8_digest_0 (by decide) ?_
  refine tv_lstore_n (pc := 3) [(1, tm_l 17), (0, .ref (E.2.1 74))] C dX8_digest_3 rfl (by decide) rfl ?_
  refine tv_iconst (pc := 4) C dX8_digest_4 ?_
  refine tv_istore_n (pc := 5) [(3, tm_i 0), (1, tm_l 17), (0, .ref (E.2.1 74))] C dX8_digest_5 rfl (by decide) rfl ?_
  refine tv_sub (lv1 := [(3, tm_i 0), (1, tm_l 17), (0, .ref (E.2.1 74))]) [0, 1, 2] rfl ?_
  refine l_rdg1 C μ d s hd hs _ ?_ 9 0 0 _ μ rfl (by omega) (by omega) rfl hI (fun a _ => rfl)
  intro ν1 hI_ν1 fr_ν1
  refine tv_ldc2 (pc := 31) (z := 31) C kl_X8_314 dX8_digest_31 (by decide) ?_
  refine tv_lload_n (pc := 34) 0 C dX8_digest_34 rfl rfl ?_
  refine tv_lmul (pc := 35) C dX8_digest_35 ?_
  refine tv_aload_n (pc := 36) 1 C dX8_digest_36 rfl rfl ?_
  refine tv_iconst (pc := 37) C dX8_digest_37 ?_
  refine tv_callV (pc := 38) [tm_i 0] [tm_l (31 * (dg_a d s))] C (c8_faultOf E _ ν1 d hd hI_ν1.1 0 (by omega)) cv_X8_128 rfl rfl (by decide) rfl (Nat.le_of_ble_eq_true rfl) rfl dX8_digest_38 (tm_ki ?_)
  rintro z9 n7 ⟨hz9, g1, rr_n7, g3⟩
  have hz9 : z9 = fa_z d 0 := by rw [hz9]; unfold fa_z; exact (if_pos (by omega)).symm
  subst hz9
  have hI_n7 := rf_I_f hI_ν1 g1 g3
  have fr_n7 : ∀ a, a < 74 → n7 a = μ a := fun a ha => (g3.1 a (by omega) (by omega)).trans (fr_ν1 a ha)
  clear g1 g3
  refine tv_i2lw (pc := 41) C dX8_digest_41 ?_
  refine tv_ladd (pc := 42) C dX8_digest_42 ?_
  obtain ⟨q8, hq8⟩ : ∃ q : Int, q = (31 * (dg_a d s)) + (wr (fa_z d 0)) := ⟨_, rfl⟩
  refine tv_topl q8 hq8.symm ?_
  refine tv_lstore_n (pc := 43) [(1, tm_l q8), (0, .ref (E.2.1 74))] C dX8_digest_43 rfl (by decide) rfl ?_
  refine tv_ldc2 (pc := 44) (z := 31) C kl_X8_314 dX8_digest_44 (by decide) ?_
  refine tv_lload_n (pc := 47) 0 C dX8_digest_47 rfl rfl ?_
  refine tv_lmul (pc := 48) C dX8_digest_48 ?_
  refine tv_aload_n (pc := 49) 1 C dX8_digest_49 rfl rfl ?_
  refine tv_iconst (pc := 50) C dX8_digest_50 ?_
  refine tv_callV (pc := 51) [tm_i 1] [tm_l (31 * q8)] C (c8_faultOf E _ n7 d hd hI_n7.1 1 (by omega)) cv_X8_128 rfl rfl (by decide) rfl (Nat.le_of_ble_eq_true rfl) rfl dX8_digest_51 (tm_ki ?_)
  rintro z9 n9 ⟨hz9, g1, rr_n9, g3⟩
  have hz9 : z9 = fa_z d 1 := by rw [hz9]; unfold fa_z; exact (if_pos (by omega)).symm
  subst hz9
  have hI_n9 := rf_I_f hI_n7 g1 g3
  have fr_n9 : ∀ a, a < 74 → n9 a = μ a := fun a ha => (g3.1 a (by omega) (by omega)).trans (fr_n7 a ha)
  clear g1 g3
  refine tv_i2lw (pc := 54) C dX8_digest_54 ?_
  refine tv_ladd (pc := 55) C dX8_digest_55 ?_
  obtain ⟨q10, hq10⟩ : ∃ q : Int, q = (31 * q8) + (wr (fa_z d 1)) := ⟨_, rfl⟩
  refine tv_topl q10 hq10.symm ?_
  refine tv_lstore_n (pc := 56) [(1, tm_l q10), (0, .ref (E.2.1 74))] C dX8_digest_56 rfl (by decide) rfl ?_
  refine tv_iconst (pc := 57) C dX8_digest_57 ?_
  refine tv_istore_n (pc := 58) [(3, tm_i 0), (1, tm_l q10), (0, .ref (E.2.1 74))] C dX8_digest_58 rfl (by decide) rfl ?_
  refine tv_sub (lv1 := [(3, tm_i 0), (1, tm_l q10), (0, .ref (E.2.1 74))]) [0, 1, 2] rfl ?_
  refine l_rdg2 C μ d s hd hs (dg_b d s) _ ?_ 41 0 0 _ n9 rfl (by omega) (by omega) (by rw [hq10, hq8]; rfl) hI_n9 fr_n9 (fun q => by omega)
  intro ν2 hI_ν2 fr_ν2 rr
  refine tv_iconst (pc := 114) C dX8_digest_114 ?_
  refine tv_istore_n (pc := 115) [(3, tm_i 0), (1, tm_l (dg_h d (dg_b d s) 40)), (0, .ref (E.2.1 74))] C dX8_digest_115 rfl (by decide) rfl ?_
  refine tv_sub (lv1 := [(3, tm_i 0), (1, tm_l (dg_h d (dg_b d s) 40)), (0, .ref (E.2.1 74))]) [0, 1, 2] rfl ?_
  refine l_rdg3 C μ d s hd hs h8 _ _ ?_ (dd_n d + 1) 0 0 _ ν2 rfl (by omega) (by omega) rfl hI_ν2 fr_ν2 rr
  intro ν3 hI_ν3 fr_ν3
  refine tv_sub (lv1 := [(1, tm_l (dg_c d s)), (0, .ref (E.2.1 74))]) [0, 1] rfl ?_
  refine tv_ldc2 (pc := 137) (z := 31) C kl_X8_314 dX8_digest_137 (by decide) ?_
  refine tv_lload_n (pc := 140) 0 C dX8_digest_140 rfl rfl ?_
  refine tv_lmul (pc := 141) C dX8_digest_141 ?_
  refine tv_aload_n (pc := 142) 1 C dX8_digest_142 rfl rfl ?_
  refine tv_callV (pc := 143) [] [tm_l (31 * (dg_c d s))] C (k8_paidOf E _ ν3 d s hd hI_ν3  ) cv_X8_234 rfl rfl (by decide) rfl (Nat.le_of_ble_eq_true rfl) rfl dX8_digest_143 (tm_ki ?_)
  rintro z9 n11 ⟨hz9, hI_n11, rr_n11, fq⟩
  subst hz9
  have fr_n11 : ∀ a, a < 74 → n11 a = μ a := fun a ha => (fq a ha).trans (fr_ν3 a ha)
  clear fq
  refine tv_i2lw (pc := 146) C dX8_digest_146 ?_
  refine tv_ladd (pc := 147) C dX8_digest_147 ?_
  obtain ⟨q12, hq12⟩ : ∃ q : Int, q = (31 * (dg_c d s)) + (wr (pa_z d)) := ⟨_, rfl⟩
  refine tv_topl q12 hq12.symm ?_
  refine tv_lstore_n (pc := 148) [(1, tm_l q12), (0, .ref (E.2.1 74))] C dX8_digest_148 rfl (by decide) rfl ?_
  refine tv_ldc2 (pc := 149) (z := 31) C kl_X8_314 dX8_digest_149 (by decide) ?_
  refine tv_lload_n (pc := 152) 0 C dX8_digest_152 rfl rfl ?_
  refine tv_lmul (pc := 153) C dX8_digest_153 ?_
  refine tv_aload_n (pc := 154) 1 C dX8_digest_154 rfl rfl ?_
  refine tv_callV (pc := 155) [] [tm_l (31 * q12)] C (k8_spiltOf E _ n11 d s hd hI_n11  ) cv_X8_237 rfl rfl (by decide) rfl (Nat.le_of_ble_eq_true rfl) rfl dX8_digest_155 (tm_ki ?_)
  rintro z9 n13 ⟨hz9, hI_n13, rr_n13, fq⟩
  subst hz9
  have fr_n13 : ∀ a, a < 74 → n13 a = μ a := fun a ha => (fq a ha).trans (fr_n11 a ha)
  clear fq
  refine tv_i2lw (pc := 158) C dX8_digest_158 ?_
  refine tv_ladd (pc := 159) C dX8_digest_159 ?_
  obtain ⟨q14, hq14⟩ : ∃ q : Int, q = (31 * q12) + (wr (sm_s (dd_p d) 40)) := ⟨_, rfl⟩
  refine tv_topl q14 hq14.symm ?_
  refine tv_lstore_n (pc := 160) [(1, tm_l q14), (0, .ref (E.2.1 74))] C dX8_digest_160 rfl (by decide) rfl ?_
  refine tv_ldc2 (pc := 161) (z := 31) C kl_X8_314 dX8_digest_161 (by decide) ?_
  refine tv_lload_n (pc := 164) 0 C dX8_digest_164 rfl rfl ?_
  refine tv_lmul (pc := 165) C dX8_digest_165 ?_
  refine tv_aload_n (pc := 166) 1 C dX8_digest_166 rfl rfl ?_
  refine tv_callV (pc := 167) [] [tm_l (31 * q14)] C (k8_idleOf E _ n13 d s hd hI_n13  ) cv_X8_240 rfl rfl (by decide) rfl (Nat.le_of_ble_eq_true rfl) rfl dX8_digest_167 (tm_ki ?_)
  rintro z9 n15 ⟨hz9, hI_n15, rr_n15, fq⟩
  subst hz9
  have fr_n15 : ∀ a, a < 74 → n15 a = μ a := fun a ha => (fq a ha).trans (fr_n13 a ha)
  clear fq
  refine tv_i2lw (pc := 170) C dX8_digest_170 ?_
  refine tv_ladd (pc := 171) C dX8_digest_171 ?_
  obtain ⟨q16, hq16⟩ : ∃ q : Int, q = (31 * q14) + (wr (sm_i (dd_p d) 40)) := ⟨_, rfl⟩
  refine tv_topl q16 hq16.symm ?_
  refine tv_lstore_n (pc := 172) [(1, tm_l q16), (0, .ref (E.2.1 74))] C dX8_digest_172 rfl (by decide) rfl ?_
  refine tv_ldc2 (pc := 173) (z := 31) C kl_X8_314 dX8_digest_173 (by decide) ?_
  refine tv_lload_n (pc := 176) 0 C dX8_digest_176 rfl rfl ?_
  refine tv_lmul (pc := 177) C dX8_digest_177 ?_
  refine tv_aload_n (pc := 178) 1 C dX8_digest_178 rfl rfl ?_
  refine tv_callV (pc := 179) [] [tm_l (31 * q16)] C (k8_lateOf E _ n15 d s hd hI_n15  ) cv_X8_243 rfl rfl (by decide) rfl (Nat.le_of_ble_eq_true rfl) rfl dX8_digest_179 (tm_ki ?_)
  rintro z9 n17 ⟨hz9, hI_n17, rr_n17, fq⟩
  subst hz9
  have fr_n17 : ∀ a, a < 74 → n17 a = μ a := fun a ha => (fq a ha).trans (fr_n15 a ha)
  clear fq
  refine tv_i2lw (pc := 182) C dX8_digest_182 ?_
  refine tv_ladd (pc := 183) C dX8_digest_183 ?_
  obtain ⟨q18, hq18⟩ : ∃ q : Int, q = (31 * q16) + (wr (la_z d)) := ⟨_, rfl⟩
  refine tv_topl q18 hq18.symm ?_
  refine tv_lstore_n (pc := 184) [(1, tm_l q18), (0, .ref (E.2.1 74))] C dX8_digest_184 rfl (by decide) rfl ?_
  refine tv_aload_n (pc := 185) 1 C dX8_digest_185 rfl rfl ?_
  refine tv_callV (pc := 186) [] [] C (k8_rowBy E _ n17 d s hd hI_n17) cv_X8_250 rfl rfl (by decide) rfl (Nat.le_of_ble_eq_true rfl) rfl dX8_digest_186 (tm_ki ?_)
  rintro z9 κ ⟨hz9, ⟨hI_κ, hbr⟩, rr_κ, fq⟩
  rw [← ro_0] at hz9
  have fr_κ : ∀ a, a < 74 → κ a = μ a := fun a ha => (fq a ha).trans (fr_n17 a ha)
  refine tv_istore_n (pc := 189) [(3, tm_i z9), (1, tm_l q18), (0, .ref (E.2.1 74))] C dX8_digest_189 rfl (by decide) rfl ?_
  refine tv_ldc2 (pc := 190) (z := 31) C kl_X8_314 dX8_digest_190 (by decide) ?_
  refine tv_lload_n (pc := 193) 1 C dX8_digest_193 rfl rfl ?_
  refine tv_lmul (pc := 194) C dX8_digest_194 ?_
  refine tv_iload_n (pc := 195) 0 C dX8_digest_195 rfl rfl ?_
  refine tv_i2lw (pc := 196) C dX8_digest_196 ?_
  refine tv_ladd (pc := 197) C dX8_digest_197 ?_
  refine tv_lstore_n (pc := 198) [(1, tm_l ((31 * q18) + (wr z9))), (3, tm_i z9), (0, .ref (E.2.1 74))] C dX8_digest_198 rfl (by decide) rfl ?_
  refine tv_iconst (pc := 199) C dX8_digest_199 ?_
  refine tv_istore (pc := 200) [(4, tm_i 0), (1, tm_l ((31 * q18) + (wr z9))), (3, tm_i z9), (0, .ref (E.2.1 74))] C dX8_digest_200 (by decide) rfl ?_
  refine tv_sub (lv1 := [(4, tm_i 0), (1, tm_l ((31 * q18) + (wr z9))), (0, .ref (E.2.1 74))]) [0, 1, 3] rfl ?_
  refine l_rdg4 C κ d h8 (dg_d d s) rr_κ hbr _ ?_ 4 0 0 _ rfl (by omega) (by omega) (by rw [fo_s, hz9, hq18, hq16, hq14, hq12]; rfl)
  refine tv_sub (lv1 := [(1, tm_l (dg_e d s)), (0, .ref (E.2.1 74))]) [0, 1] rfl ?_
  refine tv_ldc2 (pc := 242) (z := 31) C kl_X8_314 dX8_digest_242 (by decide) ?_
  refine tv_lload_n (pc := 245) 0 C dX8_digest_245 rfl rfl ?_
  refine tv_lmul (pc := 246) C dX8_digest_246 ?_
  refine tv_aload_n (pc := 247) 1 C dX8_digest_247 rfl rfl ?_
  refine tv_iconst (pc := 248) C dX8_digest_248 ?_
  refine tv_callV (pc := 249) [tm_i 0] [tm_l (31 * (dg_e d s))] C (k8_dressOf E _ κ d s hd hI_κ 0 (by omega)) cv_X8_256 rfl rfl (by decide) rfl (Nat.le_of_ble_eq_true rfl) rfl dX8_digest_249 (tm_ki ?_)
  rintro z9 n19 ⟨hz9, hI_n19, rr_n19, fq⟩
  subst hz9
  have fr_n19 : ∀ a, a < 74 → n19 a = μ a := fun a ha => (fq a ha).trans (fr_κ a ha)
  clear fq
  refine tv_i2lw (pc := 252) C dX8_digest_252 ?_
  refine tv_ladd (pc := 253) C dX8_digest_253 ?_
  obtain ⟨q20, hq20⟩ : ∃ q : Int, q = (31 * (dg_e d s)) + (wr (dr_z d 0)) := ⟨_, rfl⟩
  refine tv_topl q20 hq20.symm ?_
  refine tv_lstore_n (pc := 254) [(1, tm_l q20), (0, .ref (E.2.1 74))] C dX8_digest_254 rfl (by decide) rfl ?_
  refine tv_ldc2 (pc := 255) (z := 31) C kl_X8_314 dX8_digest_255 (by decide) ?_
  refine tv_lload_n (pc := 258) 0 C dX8_digest_258 rfl rfl ?_
  refine tv_lmul (pc := 259) C dX8_digest_259 ?_
  refine tv_aload_n (pc := 260) 1 C dX8_digest_260 rfl rfl ?_
  refine tv_iconst (pc := 261) C dX8_digest_261 ?_
  refine tv_callV (pc := 262) [tm_i 1] [tm_l (31 * q20)] C (k8_dressOf E _ n19 d s hd hI_n19 1 (by omega)) cv_X8_256 rfl rfl (by decide) rfl (Nat.le_of_ble_eq_true rfl) rfl dX8_digest_262 (tm_ki ?_)
  rintro z9 n21 ⟨hz9, hI_n21, rr_n21, fq⟩
  subst hz9
  have fr_n21 : ∀ a, a < 74 → n21 a = μ a := fun a ha => (fq a ha).trans (fr_n19 a ha)
  clear fq
  refine tv_i2lw (pc := 265) C dX8_digest_265 ?_
  refine tv_ladd (pc := 266) C dX8_digest_266 ?_
  obtain ⟨q22, hq22⟩ : ∃ q : Int, q = (31 * q20) + (wr (dr_z d 1)) := ⟨_, rfl⟩
  refine tv_topl q22 hq22.symm ?_
  refine tv_lstore_n (pc := 267) [(1, tm_l q22), (0, .ref (E.2.1 74))] C dX8_digest_267 rfl (by decide) rfl ?_
  refine tv_ldc2 (pc := 268) (z := 31) C kl_X8_314 dX8_digest_268 (by decide) ?_
  refine tv_lload_n (pc := 271) 0 C dX8_digest_271 rfl rfl ?_
  refine tv_lmul (pc := 272) C dX8_digest_272 ?_
  refine tv_aload_n (pc := 273) 1 C dX8_digest_273 rfl rfl ?_
  refine tv_callV (pc := 274) [] [tm_l (31 * q22)] C (k8_leastNow E _ n21 d s hd hI_n21  ) cv_X8_259 rfl rfl (by decide) rfl (Nat.le_of_ble_eq_true rfl) rfl dX8_digest_274 (tm_ki ?_)
  rintro z9 n23 ⟨hz9, hI_n23, rr_n23, fq⟩
  subst hz9
  have fr_n23 : ∀ a, a < 74 → n23 a = μ a := fun a ha => (fq a ha).trans (fr_n21 a ha)
  clear fq
  refine tv_i2lw (pc := 277) C dX8_digest_277 ?_
  refine tv_ladd (pc := 278) C dX8_digest_278 ?_
  obtain ⟨q24, hq24⟩ : ∃ q : Int, q = (31 * q22) + (wr (le_z d)) := ⟨_, rfl⟩
  refine tv_topl q24 hq24.symm ?_
  refine tv_lstore_n (pc := 279) [(1, tm_l q24), (0, .ref (E.2.1 74))] C dX8_digest_279 rfl (by decide) rfl ?_
  refine tv_ldc2 (pc := 280) (z := 31) C kl_X8_314 dX8_digest_280 (by decide) ?_
  refine tv_lload_n (pc := 283) 0 C dX8_digest_283 rfl rfl ?_
  refine tv_lmul (pc := 284) C dX8_digest_284 ?_
  refine tv_aload_n (pc := 285) 1 C dX8_digest_285 rfl rfl ?_
  refine tv_iconst (pc := 286) C dX8_digest_286 ?_
  refine tv_callV (pc := 287) [tm_i 0] [tm_l (31 * q24)] C (k8_sendOf E _ n23 d s hd hI_n23 0 (by omega)) cv_X8_262 rfl rfl (by decide) rfl (Nat.le_of_ble_eq_true rfl) rfl dX8_digest_287 (tm_ki ?_)
  rintro z9 n25 ⟨hz9, hI_n25, rr_n25, fq⟩
  subst hz9
  have fr_n25 : ∀ a, a < 74 → n25 a = μ a := fun a ha => (fq a ha).trans (fr_n23 a ha)
  clear fq
  refine tv_i2lw (pc := 290) C dX8_digest_290 ?_
  refine tv_ladd (pc := 291) C dX8_digest_291 ?_
  obtain ⟨q26, hq26⟩ : ∃ q : Int, q = (31 * q24) + (wr (sd_z d 0)) := ⟨_, rfl⟩
  refine tv_topl q26 hq26.symm ?_
  refine tv_lstore_n (pc := 292) [(1, tm_l q26), (0, .ref (E.2.1 74))] C dX8_digest_292 rfl (by decide) rfl ?_
  refine tv_ldc2 (pc := 293) (z := 31) C kl_X8_314 dX8_digest_293 (by decide) ?_
  refine tv_lload_n (pc := 296) 0 C dX8_digest_296 rfl rfl ?_
  refine tv_lmul (pc := 297) C dX8_digest_297 ?_
  refine tv_aload_n (pc := 298) 1 C dX8_digest_298 rfl rfl ?_
  refine tv_iconst (pc := 299) C dX8_digest_299 ?_
  refine tv_callV (pc := 300) [tm_i 1] [tm_l (31 * q26)] C (k8_sendOf E _ n25 d s hd hI_n25 1 (by omega)) cv_X8_262 rfl rfl (by decide) rfl (Nat.le_of_ble_eq_true rfl) rfl dX8_digest_300 (tm_ki ?_)
  rintro z9 n27 ⟨hz9, hI_n27, rr_n27, fq⟩
  subst hz9
  have fr_n27 : ∀ a, a < 74 → n27 a = μ a := fun a ha => (fq a ha).trans (fr_n25 a ha)
  clear fq
  refine tv_i2lw (pc := 303) C dX8_digest_303 ?_
  refine tv_ladd (pc := 304) C dX8_digest_304 ?_
  obtain ⟨q28, hq28⟩ : ∃ q : Int, q = (31 * q26) + (wr (sd_z d 1)) := ⟨_, rfl⟩
  refine tv_topl q28 hq28.symm ?_
  refine tv_lstore_n (pc := 305) [(1, tm_l q28), (0, .ref (E.2.1 74))] C dX8_digest_305 rfl (by decide) rfl ?_
  refine tv_ldc2 (pc := 306) (z := 31) C kl_X8_314 dX8_digest_306 (by decide) ?_
  refine tv_lload_n (pc := 309) 0 C dX8_digest_309 rfl rfl ?_
  refine tv_lmul (pc := 310) C dX8_digest_310 ?_
  refine tv_aload_n (pc := 311) 1 C dX8_digest_311 rfl rfl ?_
  refine tv_callV (pc := 312) [] [tm_l (31 * q28)] C (k8_neverNow E _ n27 d s hd hs hI_n27  ) cv_X8_271 rfl rfl (by decide) rfl (Nat.le_of_ble_eq_true rfl) rfl dX8_digest_312 (tm_ki ?_)
  rintro z9 n29 ⟨hz9, hI_n29, rr_n29, fq⟩
  subst hz9
  have fr_n29 : ∀ a, a < 74 → n29 a = μ a := fun a ha => (fq a ha).trans (fr_n27 a ha)
  clear fq
  refine tv_i2lw (pc := 315) C dX8_digest_315 ?_
  refine tv_ladd (pc := 316) C dX8_digest_316 ?_
  obtain ⟨q30, hq30⟩ : ∃ q : Int, q = (31 * q28) + (wr (nv_z d s)) := ⟨_, rfl⟩
  refine tv_topl q30 hq30.symm ?_
  refine tv_lstore_n (pc := 317) [(1, tm_l q30), (0, .ref (E.2.1 74))] C dX8_digest_317 rfl (by decide) rfl ?_
  refine tv_ldc2 (pc := 318) (z := 31) C kl_X8_314 dX8_digest_318 (by decide) ?_
  refine tv_lload_n (pc := 321) 0 C dX8_digest_321 rfl rfl ?_
  refine tv_lmul (pc := 322) C dX8_digest_322 ?_
  refine tv_aload_n (pc := 323) 1 C dX8_digest_323 rfl rfl ?_
  refine tv_callV (pc := 324) [] [tm_l (31 * q30)] C (k8_flowsBy E _ n29 d s hd hs hI_n29  ) cv_X8_274 rfl rfl (by decide) rfl (Nat.le_of_ble_eq_true rfl) rfl dX8_digest_324 (tm_ki ?_)
  rintro z9 n31 ⟨hz9, hI_n31, rr_n31, fq⟩
  subst hz9
  have fr_n31 : ∀ a, a < 74 → n31 a = μ a := fun a ha => (fq a ha).trans (fr_n29 a ha)
  clear fq
  refine tv_i2lw (pc := 327) C dX8_digest_327 ?_
  refine tv_ladd (pc := 328) C dX8_digest_328 ?_
  obtain ⟨q32, hq32⟩ : ∃ q : Int, q = (31 * q30) + (wr (fl_z d s)) := ⟨_, rfl⟩
  refine tv_topl q32 hq32.symm ?_
  refine tv_lstore_n (pc := 329) [(1, tm_l q32), (0, .ref (E.2.1 74))] C dX8_digest_329 rfl (by decide) rfl ?_
  refine tv_ldc2 (pc := 330) (z := 31) C kl_X8_314 dX8_digest_330 (by decide) ?_
  refine tv_lload_n (pc := 333) 0 C dX8_digest_333 rfl rfl ?_
  refine tv_lmul (pc := 334) C dX8_digest_334 ?_
  refine tv_aload_n (pc := 335) 1 C dX8_digest_335 rfl rfl ?_
  refine tv_callV (pc := 336) [] [tm_l (31 * q32)] C (k8_startsBy E _ n31 d s hd hs hI_n31  ) cv_X8_277 rfl rfl (by decide) rfl (Nat.le_of_ble_eq_true rfl) rfl dX8_digest_336 (tm_ki ?_)
  rintro z9 n33 ⟨hz9, ⟨hI_n33, -⟩, rr_n33, fq⟩
  subst hz9
  have fr_n33 : ∀ a, a < 74 → n33 a = μ a := fun a ha => (fq a ha).trans (fr_n31 a ha)
  clear fq
  refine tv_i2lw (pc := 339) C dX8_digest_339 ?_
  refine tv_ladd (pc := 340) C dX8_digest_340 ?_
  obtain ⟨q34, hq34⟩ : ∃ q : Int, q = (31 * q32) + (wr (sb_z d s)) := ⟨_, rfl⟩
  refine tv_topl q34 hq34.symm ?_
  refine tv_lstore_n (pc := 341) [(1, tm_l q34), (0, .ref (E.2.1 74))] C dX8_digest_341 rfl (by decide) rfl ?_
  refine tv_ldc2 (pc := 342) (z := 31) C kl_X8_314 dX8_digest_342 (by decide) ?_
  refine tv_lload_n (pc := 345) 0 C dX8_digest_345 rfl rfl ?_
  refine tv_lmul (pc := 346) C dX8_digest_346 ?_
  refine tv_aload_n (pc := 347) 1 C dX8_digest_347 rfl rfl ?_
  refine tv_callV (pc := 348) [] [tm_l (31 * q34)] C (k8_askNow E _ n33 d s hd hs hI_n33  ) cv_X8_280 rfl rfl (by decide) rfl (Nat.le_of_ble_eq_true rfl) rfl dX8_digest_348 (tm_ki ?_)
  rintro z9 n35 ⟨hz9, hI_n35, rr_n35, fq⟩
  subst hz9
  have fr_n35 : ∀ a, a < 74 → n35 a = μ a := fun a ha => (fq a ha).trans (fr_n33 a ha)
  clear fq
  refine tv_i2lw (pc := 351) C dX8_digest_351 ?_
  refine tv_ladd (pc := 352) C dX8_digest_352 ?_
  obtain ⟨q36, hq36⟩ : ∃ q : Int, q = (31 * q34) + (wr (as_z d s)) := ⟨_, rfl⟩
  refine tv_topl q36 hq36.symm ?_
  refine tv_lstore_n (pc := 353) [(1, tm_l q36), (0, .ref (E.2.1 74))] C dX8_digest_353 rfl (by decide) rfl ?_
  refine tv_ldc2 (pc := 354) (z := 31) C kl_X8_314 dX8_digest_354 (by decide) ?_
  refine tv_lload_n (pc := 357) 0 C dX8_digest_357 rfl rfl ?_
  refine tv_lmul (pc := 358) C dX8_digest_358 ?_
  refine tv_aload_n (pc := 359) 1 C dX8_digest_359 rfl rfl ?_
  refine tv_bipush (pc := 360) C dX8_digest_360 (by decide) ?_
  refine tv_bipush (pc := 362) C dX8_digest_362 (by decide) ?_
  refine tv_iconst (pc := 364) C dX8_digest_364 ?_
  refine tv_callV (pc := 365) [tm_i 7, tm_i 30, tm_i 0] [tm_l (31 * q36)] C (k8_moonOf E _ n35 d s hd hI_n35 7 30 0 (by omega) (by omega)) cv_X8_296 rfl rfl (by decide) rfl (Nat.le_of_ble_eq_true rfl) rfl dX8_digest_365 (tm_ki ?_)
  rintro z9 n37 ⟨hz9, hI_n37, rr_n37, fq⟩
  subst hz9
  have fr_n37 : ∀ a, a < 74 → n37 a = μ a := fun a ha => (fq a ha).trans (fr_n35 a ha)
  clear fq
  refine tv_i2lw (pc := 368) C dX8_digest_368 ?_
  refine tv_ladd (pc := 369) C dX8_digest_369 ?_
  obtain ⟨q38, hq38⟩ : ∃ q : Int, q = (31 * q36) + (wr (mn_z d 7 30 0)) := ⟨_, rfl⟩
  refine tv_topl q38 hq38.symm ?_
  refine tv_lstore_n (pc := 370) [(1, tm_l q38), (0, .ref (E.2.1 74))] C dX8_digest_370 rfl (by decide) rfl ?_
  refine tv_ldc2 (pc := 371) (z := 31) C kl_X8_314 dX8_digest_371 (by decide) ?_
  refine tv_lload_n (pc := 374) 0 C dX8_digest_374 rfl rfl ?_
  refine tv_lmul (pc := 375) C dX8_digest_375 ?_
  refine tv_aload_n (pc := 376) 1 C dX8_digest_376 rfl rfl ?_
  refine tv_bipush (pc := 377) C dX8_digest_377 (by decide) ?_
  refine tv_bipush (pc := 379) C dX8_digest_379 (by decide) ?_
  refine tv_iconst (pc := 381) C dX8_digest_381 ?_
  refine tv_callV (pc := 382) [tm_i 7, tm_i 30, tm_i 1] [tm_l (31 * q38)] C (k8_moonOf E _ n37 d s hd hI_n37 7 30 1 (by omega) (by omega)) cv_X8_296 rfl rfl (by decide) rfl (Nat.le_of_ble_eq_true rfl) rfl dX8_digest_382 (tm_ki ?_)
  rintro z9 n39 ⟨hz9, hI_n39, rr_n39, fq⟩
  subst hz9
  have fr_n39 : ∀ a, a < 74 → n39 a = μ a := fun a ha => (fq a ha).trans (fr_n37 a ha)
  clear fq
  refine tv_i2lw (pc := 385) C dX8_digest_385 ?_
  refine tv_ladd (pc := 386) C dX8_digest_386 ?_
  refine tv_lret (pc := 387) C dX8_digest_387 ?_
  refine ⟨_, rfl, ?_, hI_n39, fr_n39⟩
  rw [hq38, hq36, hq34, hq32, hq30, hq28, hq26, hq24, hq22, hq20, show fl_z d s = wa_z d s 0 from wa_0 d s, show sb_z d s = wa_z d s 1 from wa_1 d s]
  rfl
