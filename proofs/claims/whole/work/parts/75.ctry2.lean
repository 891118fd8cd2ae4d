theorem l_never {E : tm_Ev} {X : tm_X} (C : tm_C E X yX7_never.cls cX7_never 3 (some .int) 5) (d s n1 : tm_M) (hd : dd_ok d) (g2 : cl_s n1 d) (hs : ss_ok s) (hcd : cl_d n1 s) (hcm : cl_m n1 d) (post : Option Value → tm_M → Prop) (hpost : ∀ ν, (∀ a, ¬ (43 ≤ a ∧ a ≤ 56) → ν a = n1 a) → post (some (tm_i (nv_z d s))) ν) : ∀ (f k : Nat) (x y : Int) (ν : tm_M), x = k → (k : Int) ≤ d 3 0 → 6 - k < f → y = bi_n (fun k => so_b s (nv_p d k)) k → (∀ a, ¬ (43 ≤ a ∧ a ≤ 56) → ν a = n1 a) → tm_V E X (tm_Q E X post) 3 8 [(2, tm_i x), (1, tm_i y), (0, .ref (E.2.1 0))] [] ν := by
  intro f
  induction f with
  | zero => intro k x y ν hx hj hf hy hF; omega
  | succ f ih =>
    intro k x y ν hx hj hf hy hF
    have h6 : ν 6 1 = d 3 0 := by rw [hF 6 (by omega)]; exact hcm.2.2.2.2.1
    have h7 : ∀ j : Nat, (j : Int) < d 3 0 → ν 7 j = d 4 j := by rw [hF 7 (by omega)]; exact hcm.2.2.2.2.2.2.1
    have z3 := hd.2.2.2.2.1
    refine tv_iload_n (pc := 8) 0 C dX7_never_8 rfl rfl ?_
    refine tv_aload_n (pc := 9) 2 C dX7_never_9 rfl rfl ?_
    refine tv_getr (pc := 10) (q := 6) C rfl rfl fl_X7_18 dX7_never_10 ?_
    refine tv_geti (pc := 13) (z := d 3 0) C rfl rfl fl_X7_105 dX7_never_13 h6 ?_
    refine tv_icmp_ge (pc := 16) 70 C dX7_never_16 (by decide) (by omega) (by omega) (fun h16 => ?_) (fun h16 => ?_)
    · skip
      refine tv_iload_n (pc := 70) 1 C dX7_never_70 rfl rfl ?_
      refine tv_iret (pc := 71) C dX7_never_71 ?_
      have hin : k = (d 3 0).toNat := by omega
      subst hin
      rw [hy]
      exact hpost ν hF
    · skip
      have hS : cl_s ν d := cl_s_same g2 (fun a ha => hF a (by omega))
      have h4 := hd.2.2.2.2.2.2.1 k (by omega)
      refine tv_aload_n (pc := 19) 2 C dX7_never_19 rfl rfl ?_
      refine tv_getr (pc := 20) (q := 43) C rfl rfl fl_X7_73 dX7_never_20 ?_
      refine tv_aload_n (pc := 23) 2 C dX7_never_23 rfl rfl ?_
      refine tv_getr (pc := 24) (q := 29) C rfl rfl fl_X7_62 dX7_never_24 ?_
      refine tv_callV (pc := 27) [.ref (E.2.1 29)] [] C (c0_like E _ ν) cv_X7_224 rfl rfl (by decide) rfl (Nat.le_of_ble_eq_true rfl) rfl dX7_never_27 (tm_kv ?_)
      rintro n2 ⟨gl, hF3⟩
      have hA := gl (dd_p d) hS.1 (dd_p_ok hd)
      clear gl
      refine tv_aload_n (pc := 30) 2 C dX7_never_30 rfl rfl ?_
      refine tv_getr (pc := 31) (q := 43) C rfl rfl fl_X7_73 dX7_never_31 ?_
      refine tv_getr (pc := 34) (q := 46) C rfl rfl fl_X7_244 dX7_never_34 ?_
      refine tv_aload_n (pc := 37) 2 C dX7_never_37 rfl rfl ?_
      refine tv_getr (pc := 38) (q := 6) C rfl rfl fl_X7_18 dX7_never_38 ?_
      refine tv_getr (pc := 41) (q := 7) C rfl rfl fl_X7_246 dX7_never_41 ?_
      refine tv_iload_n (pc := 44) 0 C dX7_never_44 rfl rfl ?_
      refine tv_iald (pc := 45) (j := k) (z := d 4 k) C rfl dX7_never_45 (by omega) (by omega) ((congrFun (hF3 7 (by omega)) k).trans (h7 k (by omega))) ?_
      refine tv_dup2 (pc := 46) C dX7_never_46 rfl rfl ?_
      refine tv_iald (pc := 47) (j := (d 4 k).toNat) (z := dd_p d 2 (d 4 k).toNat) C rfl dX7_never_47 (by omega) rfl ((hA.2.1 (d 4 k).toNat (by omega)).2.1) ?_
      refine tv_iconst (pc := 48) C dX7_never_48 ?_
      refine tv_isub (pc := 49) C dX7_never_49 ?_
      refine tv_iast (pc := 50) (j := (d 4 k).toNat) C rfl dX7_never_50 (by omega) rfl ?_
      have hA3 : sm_ag (sm_p (tm_up n2 46 (d 4 k).toNat (dd_p d 2 (d 4 k).toNat - 1)) 43) (nv_p d k) := ag_rain hA _ _
      refine tv_aload_n (pc := 51) 2 C dX7_never_51 rfl rfl ?_
      refine tv_callV (pc := 52) [] [] C (c7_comes E _ (tm_up n2 46 ((d 4 k).toNat) ((dd_p d 2 (d 4 k).toNat) - 1)) s (nv_p d k) hs (nv_ok hd (by omega)) (cl_d_same hcd (fun a ha => by rw [tm_uf (by omega), hF3 a (by omega), hF a (by omega)]) (by rw [tm_uf (by omega), hF3 0 (by omega), hF 0 (by omega)])) hA3) cv_X7_247 rfl rfl (by decide) rfl (Nat.le_of_ble_eq_true rfl) rfl dX7_never_52 (tm_ki ?_)
      rintro zc n3 ⟨rfl, hN, hF2⟩
      refine tv_ifeqB (pc := 55) 64 C dX7_never_55 (by decide) (fun h55 => ?_) (fun h55 => ?_)
      · skip
        refine tv_iinc (pc := 64) 0 [(2, tm_i (x + 1)), (1, tm_i y), (0, .ref (E.2.1 0))] C dX7_never_64 rfl (by decide) rfl ?_
        refine tv_goto (pc := 67) 8 C dX7_never_67 (by decide) ?_
        refine tv_sub (lv1 := [(2, tm_i (x + 1)), (1, tm_i y), (0, .ref (E.2.1 0))]) [0, 1, 2] rfl ?_
        exact ih (k + 1) (x + 1) _ n3 (by omega) (by omega) (by omega) (by rw [bi_s, if_neg h55]; omega) (fun a ha => by rw [hF2 a (by omega), tm_uf (by omega), hF3 a (by omega), hF a ha])
      · skip
        refine tv_iload_n (pc := 58) 1 C dX7_never_58 rfl rfl ?_
        refine tv_iconst (pc := 59) C dX7_never_59 ?_
        refine tv_iload_n (pc := 60) 0 C dX7_never_60 rfl rfl ?_
        refine tv_ishl (pc := 61) (z := (2 ^ k)) C dX7_never_61 (by rw [hx]; exact tb_shl (by omega)) ?_
        refine tv_ior (pc := 62) (z := (y + 2 ^ k)) C dX7_never_62 (by rw [hy]; exact tb_or (by omega) (bi_bd _ k)) ?_
        refine tv_istore_n (pc := 63) [(1, tm_i (y + 2 ^ k)), (2, tm_i x), (0, .ref (E.2.1 0))] C dX7_never_63 rfl (by decide) rfl ?_
        refine tv_iinc (pc := 64) 1 [(2, tm_i (x + 1)), (1, tm_i (y + 2 ^ k)), (0, .ref (E.2.1 0))] C dX7_never_64 rfl (by decide) rfl ?_
        refine tv_goto (pc := 67) 8 C dX7_never_67 (by decide) ?_
        refine tv_sub (lv1 := [(2, tm_i (x + 1)), (1, tm_i (y + 2 ^ k)), (0, .ref (E.2.1 0))]) [0, 1, 2] rfl ?_
        exact ih (k + 1) (x + 1) _ n3 (by omega) (by omega) (by omega) (by rw [bi_s, if_pos h55]; omega) (fun a ha => by rw [hF2 a (by omega), tm_uf (by omega), hF3 a (by omega), hF a ha])
theorem k7_never (E : tm_Ev) (l : Launch) (μ : tm_M) (d s : tm_M) (hd : dd_ok d) (hs : ss_ok s) (hI : cl_I μ d s) : tm_Met E l yX7_never cX7_never 3 (some .int) 5 [.ref (E.2.1 0)] μ (tm_pi (fun z μ' => z = nv_z d s ∧ cl_I μ' d s ∧ ∀ a, 74 ≤ a → μ' a = μ a)) := by
  refine tm_intro [(0, .ref (E.2.1 0))] rfl (by decide +kernel) (Nat.le_of_ble_eq_true rfl) ?_
  intro X hX C
  subst hX
  refine tv_aload_n (pc := 0) 0 C dX7_never_0 rfl rfl ?_
  refine tv_callV (pc := 1) [] [] C (c7_settle E _ μ d hd hI.1 hI.2.2.1 hI.2.2.2.1) cv_X7_125 rfl rfl (by decide) rfl (Nat.le_of_ble_eq_true rfl) rfl dX7_never_1 (tm_kv ?_)
  rintro n1 ⟨g1, g2, g3, g4, g5⟩
  have hI1 := cl_I_set hI g1 g2 g3 g4 g5
  have fr1 : ∀ a, 74 ≤ a → n1 a = μ a := fun a ha => g4 a (by omega)
  have hn := g2.2.1
  have hor := fun k hk => (g2.2.2.1 k hk)
  refine tv_iconst (pc := 4) C dX7_never_4 ?_
  refine tv_istore_n (pc := 5) [(1, tm_i 0), (0, .ref (E.2.1 0))] C dX7_never_5 rfl (by decide) rfl ?_
  refine tv_iconst (pc := 6) C dX7_never_6 ?_
  refine tv_istore_n (pc := 7) [(2, tm_i 0), (1, tm_i 0), (0, .ref (E.2.1 0))] C dX7_never_7 rfl (by decide) rfl ?_
  refine tv_sub (lv1 := [(2, tm_i 0), (1, tm_i 0), (0, .ref (E.2.1 0))]) [0, 1, 2] rfl ?_
  exact l_never C d s n1 hd g2 hs hI1.2.1 g1 _ (fun n9 q9 => ⟨_, rfl, rfl, cl_I_tr hI1 (fun a h1 _ => q9 a h1), fun a ha => by rw [q9 a (by omega)]; exact fr1 a ha⟩) 7 0 0 0 n1 rfl (by have := hd.2.2.2.2.1; omega) (by omega) rfl (fun a _ => rfl)
theorem l_was0 {E : tm_Ev} {X : tm_X} (C : tm_C E X yX7_was.cls cX7_was 5 (some .int) 5) (d s n1 : tm_M) (hd : dd_ok d) (g2 : cl_s n1 d) (hs : ss_ok s) (hcd : cl_d n1 s) (post : Option Value → tm_M → Prop) (hpost : ∀ ν, (∀ a, ¬ (43 ≤ a ∧ a ≤ 56) → ν a = n1 a) → post (some (tm_i (sb_z d s))) ν) : ∀ (f v : Nat) (x y v0 : Int) (ν : tm_M), x = v → v ≤ 21 → 0 ≤ v → 21 - v < f → y = bi_n (fun v => so_b s (di_p d 0 (v : Int))) v → sm_ag (sm_p ν 43) (di_p d 0 v0) → (∀ a, ¬ (43 ≤ a ∧ a ≤ 56) → ν a = n1 a) → tm_V E X (tm_Q E X post) 5 46 [(4, tm_i x), (3, tm_i y), (2, tm_i 0), (0, .ref (E.2.1 0))] [] ν := by
  intro f
  induction f with
  | zero => intro v x y v0 ν hx hj hl hf hy hA hF; omega
  | succ f ih =>
    intro v x y v0 ν hx hj hl hf hy hA hF
    refine tv_iload (pc := 46) 0 C dX7_was_46 rfl ?_
    refine tv_gets (pc := 48) 1 C (by decide) gs_X7_149 dX7_was_48 ?_
    refine tv_iload_n (pc := 51) 2 C dX7_was_51 rfl rfl ?_
    refine tv_sald (pc := 52) (z := 20) 1 C (by decide) dX7_was_52 (show (0 : Int) ≤ 0 ∧ (0 : Int) < ((5 : Nat) : Int) by omega) rfl ?_
    refine tv_icmp_gt (pc := 53) 87 C dX7_was_53 (by decide) (by omega) (by omega) (fun h53 => ?_) (fun h53 => ?_)
    · skip
      refine tv_iload_n (pc := 87) 1 C dX7_was_87 rfl rfl ?_
      refine tv_iret (pc := 88) C dX7_was_88 ?_
      have hin : v = 21 := by omega
      subst hin
      rw [hy]
      exact hpost ν hF
    · skip
      refine tv_aload_n (pc := 56) 3 C dX7_was_56 rfl rfl ?_
      refine tv_getr (pc := 57) (q := 43) C rfl rfl fl_X7_73 dX7_was_57 ?_
      refine tv_getr (pc := 60) (q := 44) C rfl rfl fl_X7_236 dX7_was_60 ?_
      refine tv_iload_n (pc := 63) 2 C dX7_was_63 rfl rfl ?_
      refine tv_iload (pc := 64) 0 C dX7_was_64 rfl ?_
      refine tv_iast (pc := 66) (j := 0) C rfl dX7_was_66 (by omega) rfl ?_
      refine tv_aload_n (pc := 67) 3 C dX7_was_67 rfl rfl ?_
      refine tv_callV (pc := 68) [] [] C (c7_comes E _ (tm_up ν 44 0 x) s (di_p d 0 x) hs (di_ok0 hd (by omega)) (cl_d_same hcd (fun a ha => by rw [tm_uf (by omega), hF a (by omega)]) (by rw [tm_uf (by omega), hF 0 (by omega)])) (ag_di hA x)) cv_X7_247 rfl rfl (by decide) rfl (Nat.le_of_ble_eq_true rfl) rfl dX7_was_68 (tm_ki ?_)
      rintro zc n3 ⟨rfl, hN, hF2⟩
      refine tv_ifeqB (pc := 71) 81 C dX7_was_71 (by decide) (fun h71 => ?_) (fun h71 => ?_)
      · skip
        refine tv_iinc (pc := 81) 0 [(4, tm_i (x + 1)), (3, tm_i y), (2, tm_i 0), (0, .ref (E.2.1 0))] C dX7_was_81 rfl (by decide) rfl ?_
        refine tv_goto (pc := 84) 46 C dX7_was_84 (by decide) ?_
        refine tv_sub (lv1 := [(4, tm_i (x + 1)), (3, tm_i y), (2, tm_i 0), (0, .ref (E.2.1 0))]) [0, 1, 2, 3] rfl ?_
        refine ih (v + 1) (x + 1) _ x n3 (by omega) (by omega) (by omega) (by omega) (by rw [bi_s, if_neg (by rw [← hx]; exact h71)]; omega) ?_ (fun a ha => by rw [hF2 a (by omega), tm_uf (by omega), hF a ha])
        rw [sm_p_same (fun a ha => hF2 a (by omega))]
        exact ag_di hA x
      · skip
        refine tv_iload_n (pc := 74) 1 C dX7_was_74 rfl rfl ?_
        refine tv_iconst (pc := 75) C dX7_was_75 ?_
        refine tv_iload (pc := 76) 0 C dX7_was_76 rfl ?_
        refine tv_ishl (pc := 78) (z := (2 ^ v)) C dX7_was_78 (by rw [hx]; exact tb_shl (by omega)) ?_
        refine tv_ior (pc := 79) (z := (y + 2 ^ v)) C dX7_was_79 (by rw [hy]; exact tb_or (by omega) (bi_bd _ v)) ?_
        refine tv_istore_n (pc := 80) [(3, tm_i (y + 2 ^ v)), (4, tm_i x), (2, tm_i 0), (0, .ref (E.2.1 0))] C dX7_was_80 rfl (by decide) rfl ?_
        refine tv_iinc (pc := 81) 1 [(4, tm_i (x + 1)), (3, tm_i (y + 2 ^ v)), (2, tm_i 0), (0, .ref (E.2.1 0))] C dX7_was_81 rfl (by decide) rfl ?_
        refine tv_goto (pc := 84) 46 C dX7_was_84 (by decide) ?_
        refine tv_sub (lv1 := [(4, tm_i (x + 1)), (3, tm_i (y + 2 ^ v)), (2, tm_i 0), (0, .ref (E.2.1 0))]) [0, 1, 2, 3] rfl ?_
        refine ih (v + 1) (x + 1) _ x n3 (by omega) (by omega) (by omega) (by omega) (by rw [bi_s, if_pos (by rw [← hx]; exact h71)]; omega) ?_ (fun a ha => by rw [hF2 a (by omega), tm_uf (by omega), hF a ha])
        rw [sm_p_same (fun a ha => hF2 a (by omega))]
        exact ag_di hA x
theorem l_was1 {E : tm_Ev} {X : tm_X} (C : tm_C E X yX7_was.cls cX7_was 5 (some .int) 5) (d s n1 : tm_M) (hd : dd_ok d) (g2 : cl_s n1 d) (hs : ss_ok s) (hcd : cl_d n1 s) (post : Option Value → tm_M → Prop) (hpost : ∀ ν, (∀ a, ¬ (43 ≤ a ∧ a ≤ 56) → ν a = n1 a) → post (some (tm_i (fl_z d s))) ν) : ∀ (f v : Nat) (x y v0 : Int) (ν : tm_M), x = v → v ≤ 10 → 1 ≤ v → 10 - v < f → y = bi_n (fun v => decide (1 ≤ v) && so_b s (di_p d 1 (v : Int))) v → sm_ag (sm_p ν 43) (di_p d 1 v0) → (∀ a, ¬ (43 ≤ a ∧ a ≤ 56) → ν a = n1 a) → tm_V E X (tm_Q E X post) 5 46 [(4, tm_i x), (3, tm_i y), (2, tm_i 1), (0, .ref (E.2.1 0))] [] ν := by
  intro f
  induction f with
  | zero => intro v x y v0 ν hx hj hl hf hy hA hF; omega
  | succ f ih =>
    intro v x y v0 ν hx hj hl hf hy hA hF
    refine tv_iload (pc := 46) 0 C dX7_was_46 rfl ?_
    refine tv_gets (pc := 48) 1 C (by decide) gs_X7_149 dX7_was_48 ?_
    refine tv_iload_n (pc := 51) 2 C dX7_was_51 rfl rfl ?_
    refine tv_sald (pc := 52) (z := 9) 1 C (by decide) dX7_was_52 (show (0 : Int) ≤ 1 ∧ (1 : Int) < ((5 : Nat) : Int) by omega) rfl ?_
    refine tv_icmp_gt (pc := 53) 87 C dX7_was_53 (by decide) (by omega) (by omega) (fun h53 => ?_) (fun h53 => ?_)
    · skip
      refine tv_iload_n (pc := 87) 1 C dX7_was_87 rfl rfl ?_
      refine tv_iret (pc := 88) C dX7_was_88 ?_
      have hin : v = 10 := by omega
      subst hin
      rw [hy]
      exact hpost ν hF
    · skip
      refine tv_aload_n (pc := 56) 3 C dX7_was_56 rfl rfl ?_
      refine tv_getr (pc := 57) (q := 43) C rfl rfl fl_X7_73 dX7_was_57 ?_
      refine tv_getr (pc := 60) (q := 44) C rfl rfl fl_X7_236 dX7_was_60 ?_
      refine tv_iload_n (pc := 63) 2 C dX7_was_63 rfl rfl ?_
      refine tv_iload (pc := 64) 0 C dX7_was_64 rfl ?_
      refine tv_iast (pc := 66) (j := 1) C rfl dX7_was_66 (by omega) rfl ?_
      refine tv_aload_n (pc := 67) 3 C dX7_was_67 rfl rfl ?_
      refine tv_callV (pc := 68) [] [] C (c7_comes E _ (tm_up ν 44 1 x) s (di_p d 1 x) hs (di_ok1 hd (by omega)) (cl_d_same hcd (fun a ha => by rw [tm_uf (by omega), hF a (by omega)]) (by rw [tm_uf (by omega), hF 0 (by omega)])) (ag_di hA x)) cv_X7_247 rfl rfl (by decide) rfl (Nat.le_of_ble_eq_true rfl) rfl dX7_was_68 (tm_ki ?_)
      rintro zc n3 ⟨rfl, hN, hF2⟩
      refine tv_ifeqB (pc := 71) 81 C dX7_was_71 (by decide) (fun h71 => ?_) (fun h71 => ?_)
      · skip
        refine tv_iinc (pc := 81) 0 [(4, tm_i (x + 1)), (3, tm_i y), (2, tm_i 1), (0, .ref (E.2.1 0))] C dX7_was_81 rfl (by decide) rfl ?_
        refine tv_goto (pc := 84) 46 C dX7_was_84 (by decide) ?_
        refine tv_sub (lv1 := [(4, tm_i (x + 1)), (3, tm_i y), (2, tm_i 1), (0, .ref (E.2.1 0))]) [0, 1, 2, 3] rfl ?_
        refine ih (v + 1) (x + 1) _ x n3 (by omega) (by omega) (by omega) (by omega) (by rw [bi_s, if_neg (by simp only [Bool.and_eq_true, decide_eq_true_eq]; rintro ⟨-, q⟩; rw [← hx] at q; exact h71 q)]; omega) ?_ (fun a ha => by rw [hF2 a (by omega), tm_uf (by omega), hF a ha])
        rw [sm_p_same (fun a ha => hF2 a (by omega))]
        exact ag_di hA x
      · skip
        refine tv_iload_n (pc := 74) 1 C dX7_was_74 rfl rfl ?_
        refine tv_iconst (pc := 75) C dX7_was_75 ?_
        refine tv_iload (pc := 76) 0 C dX7_was_76 rfl ?_
        refine tv_ishl (pc := 78) (z := (2 ^ v)) C dX7_was_78 (by rw [hx]; exact tb_shl (by omega)) ?_
        refine tv_ior (pc := 79) (z := (y + 2 ^ v)) C dX7_was_79 (by rw [hy]; exact tb_or (by omega) (bi_bd _ v)) ?_
        refine tv_istore_n (pc := 80) [(3, tm_i (y + 2 ^ v)), (4, tm_i x), (2, tm_i 1), (0, .ref (E.2.1 0))] C dX7_was_80 rfl (by decide) rfl ?_
        refine tv_iinc (pc := 81) 1 [(4, tm_i (x + 1)), (3, tm_i (y + 2 ^ v)), (2, tm_i 1), (0, .ref (E.2.1 0))] C dX7_was_81 rfl (by decide) rfl ?_
        refine tv_goto (pc := 84) 46 C dX7_was_84 (by decide) ?_
        refine tv_sub (lv1 := [(4, tm_i (x + 1)), (3, tm_i (y + 2 ^ v)), (2, tm_i 1), (0, .ref (E.2.1 0))]) [0, 1, 2, 3] rfl ?_
        refine ih (v + 1) (x + 1) _ x n3 (by omega) (by omega) (by omega) (by omega) (by rw [bi_s, if_pos (by simp only [Bool.and_eq_true, decide_eq_true_eq]; exact ⟨by omega, by rw [← hx]; exact h71⟩)]; omega) ?_ (fun a ha => by rw [hF2 a (by omega), tm_uf (by omega), hF a ha])
        rw [sm_p_same (fun a ha => hF2 a (by omega))]
        exact ag_di hA x
theorem k7_was (E : tm_Ev) (l : Launch) (μ : tm_M) (d s : tm_M) (hd : dd_ok d) (hs : ss_ok s) (hI : cl_I μ d s) (w : Int) (hw : -2147483648 ≤ w ∧ w ≤ 2147483647) : tm_Met E l yX7_was cX7_was 5 (some .int) 5 [.ref (E.2.1 0), tm_i w] μ (tm_pi (fun z μ' => z = wa_z d s w ∧ cl_I μ' d s ∧ ∀ a, 74 ≤ a → μ' a = μ a)) := by
  refine tm_intro [(0, .ref (E.2.1 0)), (1, tm_i w)] rfl (by decide +kernel) (Nat.le_of_ble_eq_true rfl) ?_
  intro X hX C
  subst hX
  refine tv_iload_n (pc := 0) 1 C dX7_was_0 rfl rfl ?_
  refine tv_iconst (pc := 1) C dX7_was_1 ?_
  refine tv_iconst (pc := 2) C dX7_was_2 ?_
  refine tv_callS (pc := 3) [tm_i w, tm_i 0, tm_i 1] [] C (c7_within E _ μ w 0 1 (by omega) (by omega) (by omega)) cs_X7_97 (by decide) rfl (Nat.le_of_ble_eq_true rfl) rfl dX7_was_3 (tm_kp ?_)
  refine tv_ifneB (pc := 6) 12 C dX7_was_6 (by decide) (fun h6 => ?_) (fun h6 => ?_)
  · skip
    refine tv_iload_n (pc := 12) 1 C dX7_was_12 rfl rfl ?_
    refine tv_if_ne (pc := 13) 20 C dX7_was_13 (by decide) (by omega) (fun h13 => ?_) (fun h13 => ?_)
    · skip
      refine tv_iconst (pc := 20) C dX7_was_20 ?_
      refine tv_istore_n (pc := 21) [(2, tm_i 0), (0, .ref (E.2.1 0)), (1, tm_i w)] C dX7_was_21 rfl (by decide) rfl ?_
      refine tv_aload_n (pc := 22) 1 C dX7_was_22 rfl rfl ?_
      refine tv_callV (pc := 23) [] [] C (c7_settle E _ μ d hd hI.1 hI.2.2.1 hI.2.2.2.1) cv_X7_125 rfl rfl (by decide) rfl (Nat.le_of_ble_eq_true rfl) rfl dX7_was_23 (tm_kv ?_)
      rintro n1 ⟨g1, g2, g3, g4, g5⟩
      have hI1 := cl_I_set hI g1 g2 g3 g4 g5
      have fr1 : ∀ a, 74 ≤ a → n1 a = μ a := fun a ha => g4 a (by omega)
      have hn := g2.2.1
      have hor := fun k hk => (g2.2.2.1 k hk)
      refine tv_aload_n (pc := 26) 1 C dX7_was_26 rfl rfl ?_
      refine tv_getr (pc := 27) (q := 43) C rfl rfl fl_X7_73 dX7_was_27 ?_
      refine tv_aload_n (pc := 30) 1 C dX7_was_30 rfl rfl ?_
      refine tv_getr (pc := 31) (q := 29) C rfl rfl fl_X7_62 dX7_was_31 ?_
      refine tv_callV (pc := 34) [.ref (E.2.1 29)] [] C (c0_like E _ n1) cv_X7_224 rfl rfl (by decide) rfl (Nat.le_of_ble_eq_true rfl) rfl dX7_was_34 (tm_kv ?_)
      rintro n2 ⟨gl, hF3⟩
      have hA := gl (dd_p d) g2.1 (dd_p_ok hd)
      clear gl
      refine tv_iconst (pc := 37) C dX7_was_37 ?_
      refine tv_istore_n (pc := 38) [(3, tm_i 0), (2, tm_i 0), (0, .ref (E.2.1 0)), (1, tm_i w)] C dX7_was_38 rfl (by decide) rfl ?_
      refine tv_gets (pc := 39) 0 C (by decide) gs_X7_146 dX7_was_39 ?_
      refine tv_iload_n (pc := 42) 1 C dX7_was_42 rfl rfl ?_
      refine tv_sald (pc := 43) (z := 0) 0 C (by decide) dX7_was_43 (by decide) rfl ?_
      refine tv_istore (pc := 44) [(4, tm_i 0), (3, tm_i 0), (2, tm_i 0), (0, .ref (E.2.1 0)), (1, tm_i w)] C dX7_was_44 (by decide) rfl ?_
      refine tv_sub (lv1 := [(4, tm_i 0), (3, tm_i 0), (2, tm_i 0), (0, .ref (E.2.1 0))]) [0, 1, 2, 3] rfl ?_
      exact l_was0 C d s n1 hd g2 hs hI1.2.1 _ (fun n9 q9 => ⟨_, rfl, by unfold wa_z; rw [if_pos (by omega), if_neg (by omega)], cl_I_tr hI1 (fun a h1 _ => q9 a h1), fun a ha => by rw [q9 a (by omega)]; exact fr1 a ha⟩) 22 0 0 0 (dd_p d 0 0) n2 rfl (by omega) (by omega) (by omega) rfl (by rw [di_id]; exact hA) (fun a ha => hF3 a (by omega))
    · skip
      refine tv_iconst (pc := 16) C dX7_was_16 ?_
      refine tv_goto (pc := 17) 21 C dX7_was_17 (by decide) ?_
      refine tv_istore_n (pc := 21) [(2, tm_i 1), (0, .ref (E.2.1 0)), (1, tm_i w)] C dX7_was_21 rfl (by decide) rfl ?_
      refine tv_aload_n (pc := 22) 1 C dX7_was_22 rfl rfl ?_
      refine tv_callV (pc := 23) [] [] C (c7_settle E _ μ d hd hI.1 hI.2.2.1 hI.2.2.2.1) cv_X7_125 rfl rfl (by decide) rfl (Nat.le_of_ble_eq_true rfl) rfl dX7_was_23 (tm_kv ?_)
      rintro n1 ⟨g1, g2, g3, g4, g5⟩
      have hI1 := cl_I_set hI g1 g2 g3 g4 g5
      have fr1 : ∀ a, 74 ≤ a → n1 a = μ a := fun a ha => g4 a (by omega)
      have hn := g2.2.1
      have hor := fun k hk => (g2.2.2.1 k hk)
      refine tv_aload_n (pc := 26) 1 C dX7_was_26 rfl rfl ?_
      refine tv_getr (pc := 27) (q := 43) C rfl rfl fl_X7_73 dX7_was_27 ?_
      refine tv_aload_n (pc := 30) 1 C dX7_was_30 rfl rfl ?_
      refine tv_getr (pc := 31) (q := 29) C rfl rfl fl_X7_62 dX7_was_31 ?_
      refine tv_callV (pc := 34) [.ref (E.2.1 29)] [] C (c0_like E _ n1) cv_X7_224 rfl rfl (by decide) rfl (Nat.le_of_ble_eq_true rfl) rfl dX7_was_34 (tm_kv ?_)
      rintro n2 ⟨gl, hF3⟩
      have hA := gl (dd_p d) g2.1 (dd_p_ok hd)
      clear gl
      refine tv_iconst (pc := 37) C dX7_was_37 ?_
      refine tv_istore_n (pc := 38) [(3, tm_i 0), (2, tm_i 1), (0, .ref (E.2.1 0)), (1, tm_i w)] C dX7_was_38 rfl (by decide) rfl ?_
      refine tv_gets (pc := 39) 0 C (by decide) gs_X7_146 dX7_was_39 ?_
      refine tv_iload_n (pc := 42) 1 C dX7_was_42 rfl rfl ?_
      refine tv_sald (pc := 43) (z := 1) 0 C (by decide) dX7_was_43 (by decide) rfl ?_
      refine tv_istore (pc := 44) [(4, tm_i 1), (3, tm_i 0), (2, tm_i 1), (0, .ref (E.2.1 0)), (1, tm_i w)] C dX7_was_44 (by decide) rfl ?_
      refine tv_sub (lv1 := [(4, tm_i 1), (3, tm_i 0), (2, tm_i 1), (0, .ref (E.2.1 0))]) [0, 1, 2, 3] rfl ?_
      exact l_was1 C d s n1 hd g2 hs hI1.2.1 _ (fun n9 q9 => ⟨_, rfl, by unfold wa_z; rw [if_pos (by omega), if_pos (by omega)], cl_I_tr hI1 (fun a h1 _ => q9 a h1), fun a ha => by rw [q9 a (by omega)]; exact fr1 a ha⟩) 11 1 1 0 (dd_p d 0 1) n2 rfl (by omega) (by omega) (by omega) (by rw [bi_s, if_neg (by simp)]; rfl) (by rw [di_id]; exact hA) (fun a ha => hF3 a (by omega))
  · skip
    refine tv_bipush (pc := 9) C dX7_was_9 (by decide) ?_
    refine tv_iret (pc := 11) C dX7_was_11 ?_
    exact ⟨_, rfl, by unfold wa_z; rw [if_neg (by omega)], hI, fun a _ => rfl⟩
def cr_v (d s : tm_M) (h z v : Nat) : Int := ct_n (fun v => so_b s (di_p d 0 (v : Int)) && decide (sm_z (di_p d 0 (v : Int)) (h + 1) = (z : Int))) v
theorem cr_v_bd (d s : tm_M) (h z v : Nat) : 0 ≤ cr_v d s h z v ∧ cr_v d s h z v ≤ v := ct_bd _ v
theorem l_crowd1 {E : tm_Ev} {X : tm_X} (C : tm_C E X yX7_countCrowd.cls cX7_countCrowd 3 none 5) (d s n3 p : tm_M) (v : Nat) (y : Int) (hp : sm_ok p) (hpe : p = di_p d 0 (v : Int)) (hv : v ≤ 20) (hso : so_b s (di_p d 0 (v : Int)) = true) (hN : ∀ h, h < 40 → n3 51 h = sm_z p (h + 1)) (Q : State → Prop) (hk9 : ∀ κ, (∀ a, a ≠ 73 → κ a = n3 a) → (∀ g z, g < 40 → z < 21 → κ 73 (g * 21 + z) = cr_v d s g z (v + 1)) → tm_V E X Q 3 81 [(1, tm_i y), (0, .ref (E.2.1 0))] [] κ) : ∀ (f h : Nat) (x : Int) (κ : tm_M), x = h → h ≤ 40 → 40 - h < f → (∀ a, a ≠ 73 → κ a = n3 a) → (∀ g z, g < 40 → z < 21 → κ 73 (g * 21 + z) = cr_v d s g z (if g < h then v + 1 else v)) → tm_V E X Q 3 46 [(2, tm_i x), (1, tm_i y), (0, .ref (E.2.1 0))] [] κ := by
  intro f
  induction f with
  | zero => intro h x κ hx hj hf hk hC; omega
  | succ f ih =>
    intro h x κ hx hj hf hk hC
    refine tv_iload_n (pc := 46) 0 C dX7_countCrowd_46 rfl rfl ?_
    refine tv_bipush (pc := 47) C dX7_countCrowd_47 (by decide) ?_
    refine tv_icmp_ge (pc := 49) 81 C dX7_countCrowd_49 (by decide) (by omega) (by omega) (fun h49 => ?_) (fun h49 => ?_)
    · skip
      refine tv_sub (lv1 := [(1, tm_i y), (0, .ref (E.2.1 0))]) [1, 2] rfl ?_
      refine hk9 κ hk (fun g z hg hz => ?_)
      rw [hC g z hg hz, if_pos (by omega)]
    · skip
      have hzb := (sm_bd hp (h + 1) (by omega)).1
      have hcv := hC h (sm_z p (h + 1)).toNat (by omega) (by omega)
      rw [if_neg (by omega)] at hcv
      have hcb := cr_v_bd d s h (sm_z p (h + 1)).toNat v
      refine tv_aload_n (pc := 52) 2 C dX7_countCrowd_52 rfl rfl ?_
      refine tv_getr (pc := 53) (q := 73) C rfl rfl fl_X7_90 dX7_countCrowd_53 ?_
      refine tv_iload_n (pc := 56) 0 C dX7_countCrowd_56 rfl rfl ?_
      refine tv_bipush (pc := 57) C dX7_countCrowd_57 (by decide) ?_
      refine tv_imul (pc := 59) C dX7_countCrowd_59 ?_
      refine tv_aload_n (pc := 60) 2 C dX7_countCrowd_60 rfl rfl ?_
      refine tv_getr (pc := 61) (q := 49) C rfl rfl fl_X7_76 dX7_countCrowd_61 ?_
      refine tv_getr (pc := 64) (q := 51) C rfl rfl fl_X7_173 dX7_countCrowd_64 ?_
      refine tv_iload_n (pc := 67) 0 C dX7_countCrowd_67 rfl rfl ?_
      refine tv_iald (pc := 68) (j := h) (z := sm_z p (h + 1)) C rfl dX7_countCrowd_68 (by omega) (by omega) ((congrFun (hk 51 (by omega)) h).trans (hN h (by omega))) ?_
      refine tv_iadd (pc := 69) C dX7_countCrowd_69 ?_
      refine tv_dup2 (pc := 70) C dX7_countCrowd_70 rfl rfl ?_
      refine tv_iald (pc := 71) (j := (h * 21 + (sm_z p (h + 1)).toNat)) (z := cr_v d s h (sm_z p (h + 1)).toNat v) C rfl dX7_countCrowd_71 (by omega) (by omega) hcv ?_
      refine tv_iconst (pc := 72) C dX7_countCrowd_72 ?_
      refine tv_iadd (pc := 73) C dX7_countCrowd_73 ?_
      refine tv_iast (pc := 74) (j := (h * 21 + (sm_z p (h + 1)).toNat)) C rfl dX7_countCrowd_74 (by omega) (by omega) ?_
      refine tv_iinc (pc := 75) 0 [(2, tm_i (x + 1)), (1, tm_i y), (0, .ref (E.2.1 0))] C dX7_countCrowd_75 rfl (by decide) rfl ?_
      refine tv_goto (pc := 78) 46 C dX7_countCrowd_78 (by decide) ?_
      refine tv_sub (lv1 := [(2, tm_i (x + 1)), (1, tm_i y), (0, .ref (E.2.1 0))]) [0, 1, 2] rfl ?_
      refine ih (h + 1) (x + 1) _ (by omega) (by omega) (by omega) (fun a ha => by rw [tm_uf ha]; exact hk a ha) (fun g z hg hz => ?_)
      by_cases hc : g = h ∧ z = (sm_z p (h + 1)).toNat
      · obtain ⟨rfl, rfl⟩ := hc
        rw [tm_us, if_pos (by omega)]
        unfold cr_v
        rw [ct_s, if_pos]
        rw [hso, Bool.true_and, decide_eq_true_eq, ← hpe]
        omega
      · rw [tm_uj (by omega), hC g z hg hz]
        by_cases h1 : g < h
        · rw [if_pos h1, if_pos (by omega)]
        · rw [if_neg h1]
          by_cases h2 : g = h
          · subst h2
            rw [if_pos (by omega)]
            unfold cr_v
            rw [ct_s, if_neg, Int.add_zero]
            rw [hso, Bool.true_and, decide_eq_true_eq, ← hpe]
            omega
          · rw [if_neg (by omega)]
theorem l_crowd {E : tm_Ev} {X : tm_X} (C : tm_C E X yX7_countCrowd.cls cX7_countCrowd 3 none 5) (d s n1 : tm_M) (hd : dd_ok d) (g2 : cl_s n1 d) (hs : ss_ok s) (hcd : cl_d n1 s) (post : Option Value → tm_M → Prop) (hpost : ∀ ν, (∀ a, ¬ (43 ≤ a ∧ a ≤ 56) → a ≠ 73 → ν a = n1 a) → (∀ g z, g < 40 → z < 21 → ν 73 (g * 21 + z) = cr_v d s g z 21) → post none ν) : ∀ (f v : Nat) (y v0 : Int) (ν : tm_M), y = v → v ≤ 21 → 21 - v < f → sm_ag (sm_p ν 43) (di_p d 0 v0) → (∀ a, ¬ (43 ≤ a ∧ a ≤ 56) → a ≠ 73 → ν a = n1 a) → (∀ g z, g < 40 → z < 21 → ν 73 (g * 21 + z) = cr_v d s g z v) → tm_V E X (tm_Q E X post) 3 21 [(1, tm_i y), (0, .ref (E.2.1 0))] [] ν := by
  intro f
  induction f with
  | zero => intro v y v0 ν hy hj hf hA hF hC; omega
  | succ f ih =>
    intro v y v0 ν hy hj hf hA hF hC
    refine tv_iload_n (pc := 21) 0 C dX7_countCrowd_21 rfl rfl ?_
    refine tv_bipush (pc := 22) C dX7_countCrowd_22 (by decide) ?_
    refine tv_icmp_gt (pc := 24) 87 C dX7_countCrowd_24 (by decide) (by omega) (by omega) (fun h24 => ?_) (fun h24 => ?_)
    · skip
      refine tv_vret (pc := 87) C dX7_countCrowd_87 ?_
      have hin : v = 21 := by omega
      subst hin
      exact hpost ν hF hC
    · skip
      refine tv_aload_n (pc := 27) 1 C dX7_countCrowd_27 rfl rfl ?_
      refine tv_getr (pc := 28) (q := 43) C rfl rfl fl_X7_73 dX7_countCrowd_28 ?_
      refine tv_getr (pc := 31) (q := 44) C rfl rfl fl_X7_236 dX7_countCrowd_31 ?_
      refine tv_iconst (pc := 34) C dX7_countCrowd_34 ?_
      refine tv_iload_n (pc := 35) 0 C dX7_countCrowd_35 rfl rfl ?_
      refine tv_iast (pc := 36) (j := 0) C rfl dX7_countCrowd_36 (by omega) rfl ?_
      refine tv_aload_n (pc := 37) 1 C dX7_countCrowd_37 rfl rfl ?_
      refine tv_callV (pc := 38) [] [] C (c7_comes E _ (tm_up ν 44 0 y) s (di_p d 0 y) hs (di_ok0 hd (by omega)) (cl_d_same hcd (fun a ha => by rw [tm_uf (by omega), hF a (by omega) (by omega)]) (by rw [tm_uf (by omega), hF 0 (by omega) (by omega)])) (ag_di hA y)) cv_X7_247 rfl rfl (by decide) rfl (Nat.le_of_ble_eq_true rfl) rfl dX7_countCrowd_38 (tm_ki ?_)
      rintro zc n3 ⟨rfl, hN, hF2⟩
      refine tv_ifeqB (pc := 41) 81 C dX7_countCrowd_41 (by decide) (fun h41 => ?_) (fun h41 => ?_)
      · skip
        refine tv_iinc (pc := 81) 0 [(1, tm_i (y + 1)), (0, .ref (E.2.1 0))] C dX7_countCrowd_81 rfl (by decide) rfl ?_
        refine tv_goto (pc := 84) 21 C dX7_countCrowd_84 (by decide) ?_
        refine tv_sub (lv1 := [(1, tm_i (y + 1)), (0, .ref (E.2.1 0))]) [0, 1] rfl ?_
        refine ih (v + 1) (y + 1) y n3 (by omega) (by omega) (by omega) ?_ (fun a h1 h2 => by rw [hF2 a (by omega), tm_uf (by omega), hF a h1 h2]) (fun g z hg hz => ?_)
        · rw [sm_p_same (fun a ha => hF2 a (by omega))]
          exact ag_di hA y
        · rw [hF2 73 (by omega), tm_uf (by omega), hC g z hg hz]
          unfold cr_v
          rw [ct_s, if_neg, Int.add_zero]
          rw [Bool.and_eq_true]
          rintro ⟨q, -⟩
          rw [← hy] at q
          exact h41 q
      · skip
        refine tv_iconst (pc := 44) C dX7_countCrowd_44 ?_
        refine tv_istore_n (pc := 45) [(2, tm_i 0), (1, tm_i y), (0, .ref (E.2.1 0))] C dX7_countCrowd_45 rfl (by decide) rfl ?_
        refine tv_sub (lv1 := [(2, tm_i 0), (1, tm_i y), (0, .ref (E.2.1 0))]) [0, 1, 2] rfl ?_
        refine l_crowd1 C d s n3 _ v y (di_ok0 hd (v := y) (by omega)) (by rw [hy]) (by omega) (by rw [← hy]; exact h41) hN.1 _ (fun κ hk hC9 => ?_) 41 0 0 n3 rfl (by omega) (by omega) (fun a _ => rfl) (fun g z hg hz => ?_)
        · skip
          refine tv_iinc (pc := 81) 0 [(1, tm_i (y + 1)), (0, .ref (E.2.1 0))] C dX7_countCrowd_81 rfl (by decide) rfl ?_
          refine tv_goto (pc := 84) 21 C dX7_countCrowd_84 (by decide) ?_
          refine tv_sub (lv1 := [(1, tm_i (y + 1)), (0, .ref (E.2.1 0))]) [0, 1] rfl ?_
          refine ih (v + 1) (y + 1) y κ (by omega) (by omega) (by omega) ?_ (fun a h1 h2 => by rw [hk a h2, hF2 a (by omega), tm_uf (by omega), hF a h1 h2]) hC9
          rw [sm_p_same (fun a ha => (hk a (by omega)).trans (hF2 a (by omega)))]
          exact ag_di hA y
        · rw [if_neg (by omega), hF2 73 (by omega), tm_uf (by omega)]
          exact hC g z hg hz
theorem c7_crowd (E : tm_Ev) (l : Launch) (μ : tm_M) (d s : tm_M) (hd : dd_ok d) (g2 : cl_s μ d) (hs : ss_ok s) (hcd : cl_d μ s) : tm_Met E l yX7_countCrowd cX7_countCrowd 3 none 5 [.ref (E.2.1 0)] μ (tm_pv (fun μ' => (∀ a, ¬ (43 ≤ a ∧ a ≤ 56) → a ≠ 73 → μ' a = μ a) ∧ ∀ g z, g < 40 → z < 21 → μ' 73 (g * 21 + z) = cr_v d s g z 21)) := by
  refine tm_intro [(0, .ref (E.2.1 0))] rfl (by decide +kernel) (Nat.le_of_ble_eq_true rfl) ?_
  intro X hX C
  subst hX
  refine tv_aload_n (pc := 0) 0 C dX7_countCrowd_0 rfl rfl ?_
  refine tv_getr (pc := 1) (q := 73) C rfl rfl fl_X7_90 dX7_countCrowd_1 ?_
  refine tv_iconst (pc := 4) C dX7_countCrowd_4 ?_
  refine tv_callS (pc := 5) [.ref (E.2.1 73), tm_i 0] [] C (cJ_fill E _ μ 73 840 0 rfl) cs_X7_376 (by decide) rfl (Nat.le_of_ble_eq_true rfl) rfl dX7_countCrowd_5 (tm_kv ?_)
  rintro nf hnf
  have hF5 : ∀ a, a ≠ 73 → nf a = μ a := fun a ha => by rw [hnf, tm_fill_f ha]
  have hC5 : ∀ b, b < 840 → nf 73 b = 0 := fun b hb => by rw [hnf, tm_fill_in hb]
  clear hnf
  have hS : cl_s nf d := cl_s_same g2 (fun a ha => hF5 a (by omega))
  refine tv_aload_n (pc := 8) 0 C dX7_countCrowd_8 rfl rfl ?_
  refine tv_getr (pc := 9) (q := 43) C rfl rfl fl_X7_73 dX7_countCrowd_9 ?_
  refine tv_aload_n (pc := 12) 0 C dX7_countCrowd_12 rfl rfl ?_
  refine tv_getr (pc := 13) (q := 29) C rfl rfl fl_X7_62 dX7_countCrowd_13 ?_
  refine tv_callV (pc := 16) [.ref (E.2.1 29)] [] C (c0_like E _ nf) cv_X7_224 rfl rfl (by decide) rfl (Nat.le_of_ble_eq_true rfl) rfl dX7_countCrowd_16 (tm_kv ?_)
  rintro n2 ⟨gl, hF3⟩
  have hA := gl (dd_p d) hS.1 (dd_p_ok hd)
  clear gl
  refine tv_iconst (pc := 19) C dX7_countCrowd_19 ?_
  refine tv_istore_n (pc := 20) [(1, tm_i 0), (0, .ref (E.2.1 0))] C dX7_countCrowd_20 rfl (by decide) rfl ?_
  refine tv_sub (lv1 := [(1, tm_i 0), (0, .ref (E.2.1 0))]) [0, 1] rfl ?_
  refine l_crowd C d s μ hd g2 hs hcd _ (fun ν q1 q2 => ⟨rfl, q1, q2⟩) 22 0 0 (dd_p d 0 0) n2 rfl (by omega) (by omega) (by rw [di_id]; exact hA) (fun a h1 h2 => by rw [hF3 a (by omega), hF5 a h2]) (fun g z hg hz => by rw [hF3 73 (by omega), hC5 _ (by omega)]; rfl)
theorem l_great {E : tm_Ev} {X : tm_X} (C : tm_C E X yX7_greatestCrowd.cls cX7_greatestCrowd 4 (some .int) 1) (μ d s : tm_M) (h : Nat) (t : Int) (ht : t = h) (hh : h < 40) (hC : ∀ z, z < 21 → μ 73 (h * 21 + z) = cr_c d s h z) (post : Option Value → tm_M → Prop) (hpost : post (some (tm_i (cr_g d s h))) μ) : ∀ (f z : Nat) (x y : Int), x = z → z ≤ 21 → 21 - z < f → y = mx_n (cr_c d s h) z → tm_V E X (tm_Q E X post) 4 4 [(3, tm_i x), (2, tm_i y), (0, .ref (E.2.1 0)), (1, tm_i t)] [] μ := by
  intro f
  induction f with
  | zero => intro z x y hx hj hf hy; omega
  | succ f ih =>
    intro z x y hx hj hf hy
    refine tv_iload_n (pc := 4) 0 C dX7_greatestCrowd_4 rfl rfl ?_
    refine tv_bipush (pc := 5) C dX7_greatestCrowd_5 (by decide) ?_
    refine tv_icmp_gt (pc := 7) 32 C dX7_greatestCrowd_7 (by decide) (by omega) (by omega) (fun h7 => ?_) (fun h7 => ?_)
    · skip
      refine tv_iload_n (pc := 32) 1 C dX7_greatestCrowd_32 rfl rfl ?_
      refine tv_iret (pc := 33) C dX7_greatestCrowd_33 ?_
      have hin : z = 21 := by omega
      subst hin
      rw [hy]
      exact hpost
    · skip
      have hcb := ct_bd (fun v => so_b s (di_p d 0 (v : Int)) && decide (sm_z (di_p d 0 (v : Int)) (h + 1) = (z : Int))) 21
      have hcb2 : 0 ≤ cr_c d s h z ∧ cr_c d s h z ≤ 21 := hcb
      have hmb := (mx_ge (f := cr_c d s h) z).1
      have hmc := mx_le (f := cr_c d s h) (c := 21) (by omega) z (fun k hk => (ct_bd _ 21).2)
      refine tv_iload_n (pc := 10) 1 C dX7_greatestCrowd_10 rfl rfl ?_
      refine tv_aload_n (pc := 11) 2 C dX7_greatestCrowd_11 rfl rfl ?_
      refine tv_getr (pc := 12) (q := 73) C rfl rfl fl_X7_90 dX7_greatestCrowd_12 ?_
      refine tv_iload_n (pc := 15) 3 C dX7_greatestCrowd_15 rfl rfl ?_
      refine tv_bipush (pc := 16) C dX7_greatestCrowd_16 (by decide) ?_
      refine tv_imul (pc := 18) C dX7_greatestCrowd_18 ?_
      refine tv_iload_n (pc := 19) 0 C dX7_greatestCrowd_19 rfl rfl ?_
      refine tv_iadd (pc := 20) C dX7_greatestCrowd_20 ?_
      refine tv_iald (pc := 21) (j := (h * 21 + z)) (z := cr_c d s h z) C rfl dX7_greatestCrowd_21 (by omega) (by omega) (hC z (by omega)) ?_
      refine tv_mmax (pc := 22) C mx_X7_382 (by omega) (by omega) dX7_greatestCrowd_22 (Nat.le_of_ble_eq_true rfl) ?_
      refine tv_istore_n (pc := 25) [(2, tm_i (max y (cr_c d s h z))), (3, tm_i x), (0, .ref (E.2.1 0)), (1, tm_i t)] C dX7_greatestCrowd_25 rfl (by decide) rfl ?_
      refine tv_iinc (pc := 26) 1 [(3, tm_i (x + 1)), (2, tm_i (max y (cr_c d s h z))), (0, .ref (E.2.1 0)), (1, tm_i t)] C dX7_greatestCrowd_26 rfl (by decide) rfl ?_
      refine tv_goto (pc := 29) 4 C dX7_greatestCrowd_29 (by decide) ?_
      refine tv_sub (lv1 := [(3, tm_i (x + 1)), (2, tm_i (max y (cr_c d s h z))), (0, .ref (E.2.1 0)), (1, tm_i t)]) [0, 1, 2, 3] rfl ?_
      exact ih (z + 1) (x + 1) _ (by omega) (by omega) (by omega) (by rw [hy]; rfl)
theorem c7_great (E : tm_Ev) (l : Launch) (μ : tm_M) (d s : tm_M) (h : Nat) (t : Int) (ht : t = h) (hh : h < 40) (hC : ∀ z, z < 21 → μ 73 (h * 21 + z) = cr_c d s h z) : tm_Met E l yX7_greatestCrowd cX7_greatestCrowd 4 (some .int) 1 [.ref (E.2.1 0), tm_i t] μ (tm_pi (fun z μ' => z = cr_g d s h ∧ μ' = μ)) := by
  refine tm_intro [(0, .ref (E.2.1 0)), (1, tm_i t)] rfl (by decide +kernel) (Nat.le_of_ble_eq_true rfl) ?_
  intro X hX C
  subst hX
  refine tv_iconst (pc := 0) C dX7_greatestCrowd_0 ?_
  refine tv_istore_n (pc := 1) [(2, tm_i 0), (0, .ref (E.2.1 0)), (1, tm_i t)] C dX7_greatestCrowd_1 rfl (by decide) rfl ?_
  refine tv_iconst (pc := 2) C dX7_greatestCrowd_2 ?_
  refine tv_istore_n (pc := 3) [(3, tm_i 0), (2, tm_i 0), (0, .ref (E.2.1 0)), (1, tm_i t)] C dX7_greatestCrowd_3 rfl (by decide) rfl ?_
  refine tv_sub (lv1 := [(3, tm_i 0), (2, tm_i 0), (0, .ref (E.2.1 0)), (1, tm_i t)]) [0, 1, 2, 3] rfl ?_
  exact l_great C μ d s h t ht hh hC _ ⟨_, rfl, rfl, rfl⟩ 22 0 0 0 rfl (by omega) (by omega) rfl
theorem cr_g_bd (d s : tm_M) (h : Nat) : 0 ≤ cr_g d s h ∧ cr_g d s h ≤ 21 := ⟨(mx_ge 21).1, mx_le (by omega) 21 (fun k hk => (ct_bd _ 21).2)⟩
theorem am_s (g : Nat → Int) (n : Nat) : am_n g (n + 1) = if (am_n g n).1 = -1 ∨ g n < (am_n g n).2 then ((n : Int), g n) else am_n g n := rfl
theorem am_r {g : Nat → Int} {c : Int} (hg : ∀ k, 0 ≤ g k ∧ g k ≤ c) : ∀ n, n < 1000 → (-1 ≤ (am_n g n).1 ∧ (am_n g n).1 < n) ∧ (0 ≤ (am_n g n).2 ∧ (am_n g n).2 ≤ c) ∧ (0 < n → ¬ (am_n g n).1 = -1) := by
  intro n
  induction n with
  | zero => intro _; have := hg 0; exact ⟨⟨Int.le_refl _, by show (-1 : Int) < 0; omega⟩, ⟨Int.le_refl _, by show (0 : Int) ≤ c; omega⟩, fun h => by omega⟩
  | succ n ih =>
    intro hn
    have q := ih (by omega)
    rw [am_s]
    by_cases hc : (am_n g n).1 = -1 ∨ g n < (am_n g n).2
    · rw [if_pos hc]
      exact ⟨⟨by show -1 ≤ (n : Int); omega, by show (n : Int) < ((n + 1 : Nat) : Int); omega⟩, hg n, fun _ => by show ¬ (n : Int) = -1; omega⟩
    · rw [if_neg hc]
      exact ⟨by omega, q.2.1, fun _ => by omega⟩
theorem l_ask {E : tm_Ev} {X : tm_X} (C : tm_C E X yX7_ask.cls cX7_ask 5 (some .int) 6) (ν d s : tm_M) (hC : ∀ g z, g < 40 → z < 21 → ν 73 (g * 21 + z) = cr_v d s g z 21) (post : Option Value → tm_M → Prop) (hpost : post (some (tm_i (as_z d s))) ν) : ∀ (f h : Nat) (x y b : Int), x = h → h ≤ 40 → 1 ≤ h → 40 - h < f → b = (am_n (cr_g d s) h).1 → y = (am_n (cr_g d s) h).2 → tm_V E X (tm_Q E X post) 5 18 [(3, tm_i x), (2, tm_i y), (1, tm_i b), (0, .ref (E.2.1 0))] [] ν := by
  intro f
  induction f with
  | zero => intro h x y b hx hj hl hf hb hy; omega
  | succ f ih =>
    intro h x y b hx hj hl hf hb hy
    refine tv_iload_n (pc := 18) 0 C dX7_ask_18 rfl rfl ?_
    refine tv_bipush (pc := 19) C dX7_ask_19 (by decide) ?_
    refine tv_icmp_ge (pc := 21) 48 C dX7_ask_21 (by decide) (by omega) (by omega) (fun h21 => ?_) (fun h21 => ?_)
    · skip
      refine tv_iload_n (pc := 48) 2 C dX7_ask_48 rfl rfl ?_
      refine tv_iret (pc := 49) C dX7_ask_49 ?_
      have hin : h = 40 := by omega
      subst hin
      rw [hb]
      exact hpost
    · skip
      have har := am_r (fun k => cr_g_bd d s k) h (by omega)
      have hgb := cr_g_bd d s h
      refine tv_aload_n (pc := 24) 3 C dX7_ask_24 rfl rfl ?_
      refine tv_iload_n (pc := 25) 0 C dX7_ask_25 rfl rfl ?_
      refine tv_callV (pc := 26) [tm_i x] [] C (c7_great E _ ν d s h x hx (by omega) (fun z hz => hC h z (by omega) hz)) cv_X7_253 rfl rfl (by decide) rfl (Nat.le_of_ble_eq_true rfl) rfl dX7_ask_26 (tm_kp ?_)
      refine tv_istore (pc := 29) [(4, tm_i (cr_g d s h)), (3, tm_i x), (2, tm_i y), (1, tm_i b), (0, .ref (E.2.1 0))] C dX7_ask_29 (by decide) rfl ?_
      refine tv_iload (pc := 31) 0 C dX7_ask_31 rfl ?_
      refine tv_iload_n (pc := 33) 2 C dX7_ask_33 rfl rfl ?_
      refine tv_icmp_ge (pc := 34) 42 C dX7_ask_34 (by decide) (by omega) (by omega) (fun h34 => ?_) (fun h34 => ?_)
      · skip
        refine tv_iinc (pc := 42) 1 [(3, tm_i (x + 1)), (4, tm_i (cr_g d s h)), (2, tm_i y), (1, tm_i b), (0, .ref (E.2.1 0))] C dX7_ask_42 rfl (by decide) rfl ?_
        refine tv_goto (pc := 45) 18 C dX7_ask_45 (by decide) ?_
        refine tv_sub (lv1 := [(3, tm_i (x + 1)), (2, tm_i y), (1, tm_i b), (0, .ref (E.2.1 0))]) [0, 2, 3, 4] rfl ?_
        refine ih (h + 1) (x + 1) _ _ (by omega) (by omega) (by omega) (by omega) ?_ ?_
        · rw [am_s, if_neg (by omega)]; exact hb
        · rw [am_s, if_neg (by omega)]; exact hy
      · skip
        refine tv_iload_n (pc := 37) 1 C dX7_ask_37 rfl rfl ?_
        refine tv_istore_n (pc := 38) [(1, tm_i x), (4, tm_i (cr_g d s h)), (3, tm_i x), (2, tm_i y), (0, .ref (E.2.1 0))] C dX7_ask_38 rfl (by decide) rfl ?_
        refine tv_iload (pc := 39) 1 C dX7_ask_39 rfl ?_
        refine tv_istore_n (pc := 41) [(2, tm_i (cr_g d s h)), (1, tm_i x), (4, tm_i (cr_g d s h)), (3, tm_i x), (0, .ref (E.2.1 0))] C dX7_ask_41 rfl (by decide) rfl ?_
        refine tv_iinc (pc := 42) 3 [(3, tm_i (x + 1)), (2, tm_i (cr_g d s h)), (1, tm_i x), (4, tm_i (cr_g d s h)), (0, .ref (E.2.1 0))] C dX7_ask_42 rfl (by decide) rfl ?_
        refine tv_goto (pc := 45) 18 C dX7_ask_45 (by decide) ?_
        refine tv_sub (lv1 := [(3, tm_i (x + 1)), (2, tm_i (cr_g d s h)), (1, tm_i x), (0, .ref (E.2.1 0))]) [0, 1, 2, 4] rfl ?_
        refine ih (h + 1) (x + 1) _ _ (by omega) (by omega) (by omega) (by omega) ?_ ?_
        · rw [am_s, if_pos (by omega)]; omega
        · rw [am_s, if_pos (by omega)]
theorem k7_ask (E : tm_Ev) (l : Launch) (μ : tm_M) (d s : tm_M) (hd : dd_ok d) (hs : ss_ok s) (hI : cl_I μ d s) : tm_Met E l yX7_ask cX7_ask 5 (some .int) 6 [.ref (E.2.1 0)] μ (tm_pi (fun z μ' => z = as_z d s ∧ cl_I μ' d s ∧ ∀ a, 74 ≤ a → μ' a = μ a)) := by
  refine tm_intro [(0, .ref (E.2.1 0))] rfl (by decide +kernel) (Nat.le_of_ble_eq_true rfl) ?_
  intro X hX C
  subst hX
  refine tv_aload_n (pc := 0) 0 C dX7_ask_0 rfl rfl ?_
  refine tv_callV (pc := 1) [] [] C (c7_settle E _ μ d hd hI.1 hI.2.2.1 hI.2.2.2.1) cv_X7_125 rfl rfl (by decide) rfl (Nat.le_of_ble_eq_true rfl) rfl dX7_ask_1 (tm_kv ?_)
  rintro n1 ⟨g1, g2, g3, g4, g5⟩
  have hI1 := cl_I_set hI g1 g2 g3 g4 g5
  have fr1 : ∀ a, 74 ≤ a → n1 a = μ a := fun a ha => g4 a (by omega)
  have hn := g2.2.1
  have hor := fun k hk => (g2.2.2.1 k hk)
  refine tv_aload_n (pc := 4) 0 C dX7_ask_4 rfl rfl ?_
  refine tv_callV (pc := 5) [] [] C (c7_crowd E _ n1 d s hd g2 hs hI1.2.1) cv_X7_250 rfl rfl (by decide) rfl (Nat.le_of_ble_eq_true rfl) rfl dX7_ask_5 (tm_kv ?_)
  rintro n2 ⟨hF, hC⟩
  refine tv_iconst (pc := 8) C dX7_ask_8 ?_
  refine tv_istore_n (pc := 9) [(1, tm_i 0), (0, .ref (E.2.1 0))] C dX7_ask_9 rfl (by decide) rfl ?_
  refine tv_aload_n (pc := 10) 1 C dX7_ask_10 rfl rfl ?_
  refine tv_iconst (pc := 11) C dX7_ask_11 ?_
  refine tv_callV (pc := 12) [tm_i 0] [] C (c7_great E _ n2 d s 0 0 rfl (by omega) (fun z hz => hC 0 z (by omega) hz)) cv_X7_253 rfl rfl (by decide) rfl (Nat.le_of_ble_eq_true rfl) rfl dX7_ask_12 (tm_kp ?_)
  refine tv_istore_n (pc := 15) [(2, tm_i (cr_g d s 0)), (1, tm_i 0), (0, .ref (E.2.1 0))] C dX7_ask_15 rfl (by decide) rfl ?_
  refine tv_iconst (pc := 16) C dX7_ask_16 ?_
  refine tv_istore_n (pc := 17) [(3, tm_i 1), (2, tm_i (cr_g d s 0)), (1, tm_i 0), (0, .ref (E.2.1 0))] C dX7_ask_17 rfl (by decide) rfl ?_
  refine tv_sub (lv1 := [(3, tm_i 1), (2, tm_i (cr_g d s 0)), (1, tm_i 0), (0, .ref (E.2.1 0))]) [0, 1, 2, 3] rfl ?_
  exact l_ask C n2 d s hC _ ⟨_, rfl, rfl, cl_I_tr hI1 hF, fun a ha => by rw [hF a (by omega) (by omega)]; exact fr1 a ha⟩ 41 1 1 _ 0 rfl (by omega) (by omega) (by omega) rfl rfl
theorem l_moon {E : tm_Ev} {X : tm_X} (C : tm_C E X yX7_moon.cls cX7_moon 6 (some .int) 5) (d s n1 : tm_M) (hd : dd_ok d) (g2 : cl_s n1 d) (n2 : tm_M) (hF : ∀ a, ¬ (43 ≤ a ∧ a ≤ 56) → n2 a = n1 a) (hA : sm_ag (sm_p n2 43) (dd_p d)) (u n w : Int) (hn : 0 ≤ n ∧ n ≤ 40) (hw : 0 ≤ w ∧ w ≤ 1) (post : Option Value → tm_M → Prop) (hpost : ∀ ν, (∀ a, ¬ (43 ≤ a ∧ a ≤ 56) → ν a = n1 a) → post (some (tm_i (mn_z d u n w))) ν) : ∀ (f h : Nat) (x lt : Int), x = h → h ≤ 40 → 40 - h < f → lt = mo_l u h → tm_V E X (tm_Q E X post) 6 43 [(5, tm_i x), (4, tm_i lt), (0, .ref (E.2.1 0)), (2, tm_i n), (3, tm_i w)] [] (tm_rowf n2 45 h (mo_f u n)) := by
  intro f
  induction f with
  | zero => intro h x lt hx hj hf hl; omega
  | succ f ih =>
    intro h x lt hx hj hf hl
    refine tv_iload (pc := 43) 0 C dX7_moon_43 rfl ?_
    refine tv_bipush (pc := 45) C dX7_moon_45 (by decide) ?_
    refine tv_icmp_ge (pc := 47) 98 C dX7_moon_47 (by decide) (by omega) (by omega) (fun h47 => ?_) (fun h47 => ?_)
    · skip
      have hin : h = 40 := by omega
      subst hin
      have hA3 : sm_ag (sm_p (tm_rowf n2 45 40 (mo_f u n)) 43) (mo_p d u n) := ag_sea hA _
      refine tv_aload_n (pc := 98) 2 C dX7_moon_98 rfl rfl ?_
      refine tv_getr (pc := 99) (q := 49) C rfl rfl fl_X7_76 dX7_moon_99 ?_
      refine tv_aload_n (pc := 102) 2 C dX7_moon_102 rfl rfl ?_
      refine tv_getr (pc := 103) (q := 43) C rfl rfl fl_X7_73 dX7_moon_103 ?_
      refine tv_callV (pc := 106) [.ref (E.2.1 43)] [] C (c5_play_b E _ (tm_rowf n2 45 40 (mo_f u n)) (sm_ag_ok hA3 (mo_ok hd u n))) cv_X7_229 rfl rfl (by decide) rfl (Nat.le_of_ble_eq_true rfl) rfl dX7_moon_106 (tm_kv ?_)
      rintro n3 hr9
      obtain ⟨hN, hF2⟩ := cl_N_of hA3 (mo_ok hd u n) hr9
      clear hr9
      have e3 : ∀ a, ¬ (43 ≤ a ∧ a ≤ 56) → n3 a = n1 a := fun a ha => by rw [hF2 a (by omega), tm_rowf_f (by omega), hF a ha]
      refine tv_iload_n (pc := 109) 4 C dX7_moon_109 rfl rfl ?_
      refine tv_if_ne (pc := 110) 123 C dX7_moon_110 (by decide) (by omega) (fun h110 => ?_) (fun h110 => ?_)
      · skip
        refine tv_aload_n (pc := 123) 2 C dX7_moon_123 rfl rfl ?_
        refine tv_getr (pc := 124) (q := 49) C rfl rfl fl_X7_76 dX7_moon_124 ?_
        refine tv_aload_n (pc := 127) 2 C dX7_moon_127 rfl rfl ?_
        refine tv_getr (pc := 128) (q := 23) C rfl rfl fl_X7_41 dX7_moon_128 ?_
        refine tv_callV (pc := 131) [.ref (E.2.1 23)] [] C (c5_sumPaid_b E _ n3 d (sm_e (mo_p d u n) 40) hd (by rw [e3 23 (by omega)]; exact g2.2.1) (by rw [e3 26 (by omega), e3 27 (by omega)]; exact fun k hk => ⟨(g2.2.2.1 k hk).2.2.1, (g2.2.2.1 k hk).2.2.2⟩) hN.2.2 (sm_e_40 _)) cv_X7_189 rfl rfl (by decide) rfl (Nat.le_of_ble_eq_true rfl) rfl dX7_moon_131 (tm_kp ?_)
        refine tv_iret (pc := 134) C dX7_moon_134 ?_
        have ez : py_s d (sm_e (mo_p d u n) 40) = mn_z d u n w := by unfold mn_z; rw [if_pos (by omega), if_neg (by omega)]
        rw [ez]
        exact hpost n3 e3
      · skip
        refine tv_aload_n (pc := 113) 2 C dX7_moon_113 rfl rfl ?_
        refine tv_getr (pc := 114) (q := 49) C rfl rfl fl_X7_76 dX7_moon_114 ?_
        refine tv_callV (pc := 117) [] [] C (c5_allSacks_t E _ n3 _ hN.2.1) cv_X7_232 rfl rfl (by decide) rfl (Nat.le_of_ble_eq_true rfl) rfl dX7_moon_117 (tm_kp ?_)
        refine tv_goto (pc := 120) 134 C dX7_moon_120 (by decide) ?_
        refine tv_iret (pc := 134) C dX7_moon_134 ?_
        have ez : sm_t (mo_p d u n) 40 = mn_z d u n w := by unfold mn_z; rw [if_pos (by omega), if_pos (by omega)]
        rw [ez]
        exact hpost n3 e3
    · skip
      refine tv_ldcw (pc := 50) (z := 1103515245) C kc_X7_267 dX7_moon_50 (by decide) ?_
      refine tv_iload (pc := 53) 1 C dX7_moon_53 rfl ?_
      refine tv_imul (pc := 55) C dX7_moon_55 ?_
      refine tv_sipush (pc := 56) C dX7_moon_56 (by decide) ?_
      refine tv_iadd (pc := 59) C dX7_moon_59 ?_
      refine tv_istore (pc := 60) [(4, tm_i ((1103515245 * lt) + 12345)), (5, tm_i x), (0, .ref (E.2.1 0)), (2, tm_i n), (3, tm_i w)] C dX7_moon_60 (by decide) rfl ?_
      refine tv_aload_n (pc := 62) 2 C dX7_moon_62 rfl rfl ?_
      refine tv_getr (pc := 63) (q := 43) C rfl rfl fl_X7_73 dX7_moon_63 ?_
      refine tv_getr (pc := 66) (q := 45) C rfl rfl fl_X7_128 dX7_moon_66 ?_
      refine tv_iload (pc := 69) 1 C dX7_moon_69 rfl ?_
      refine tv_iload (pc := 71) 1 C dX7_moon_71 rfl ?_
      refine tv_iload_n (pc := 73) 3 C dX7_moon_73 rfl rfl ?_
      refine tv_icmp_ge (pc := 74) 90 C dX7_moon_74 (by decide) (by omega) (by omega) (fun h74 => ?_) (fun h74 => ?_)
      · skip
        refine tv_iconst (pc := 90) C dX7_moon_90 ?_
        refine tv_iast (pc := 91) (j := h) C rfl dX7_moon_91 (by omega) (by omega) ?_
        refine tv_iinc (pc := 92) 1 [(5, tm_i (x + 1)), (4, tm_i ((1103515245 * lt) + 12345)), (0, .ref (E.2.1 0)), (2, tm_i n), (3, tm_i w)] C dX7_moon_92 rfl (by decide) rfl ?_
        refine tv_goto (pc := 95) 43 C dX7_moon_95 (by decide) ?_
        refine tv_sub (lv1 := [(5, tm_i (x + 1)), (4, tm_i ((1103515245 * lt) + 12345)), (0, .ref (E.2.1 0)), (2, tm_i n), (3, tm_i w)]) [0, 1, 2, 3, 4] rfl ?_
        rw [tm_rowf_s (by unfold mo_f; rw [if_neg (by omega)])]
        exact ih (h + 1) (x + 1) _ (by omega) (by omega) (by omega) (by rw [hl]; rfl)
      · skip
        refine tv_iconst (pc := 77) C dX7_moon_77 ?_
        refine tv_iload (pc := 78) 0 C dX7_moon_78 rfl ?_
        refine tv_bipush (pc := 80) C dX7_moon_80 (by decide) ?_
        refine tv_iushr (pc := 82) (z := mo_s ((1103515245 * lt) + 12345)) C dX7_moon_82 (by unfold mo_s; exact (Int32.ofInt_toInt _).symm) ?_
        refine tv_bipush (pc := 83) C dX7_moon_83 (by decide) ?_
        have hmr := mo_r ((1103515245 * lt) + 12345)
        refine tv_irem (pc := 85) C dX7_moon_85 (by omega) (by omega) ?_
        refine tv_imul (pc := 86) C dX7_moon_86 ?_
        refine tv_goto (pc := 87) 91 C dX7_moon_87 (by decide) ?_
        refine tv_iast (pc := 91) (j := h) C rfl dX7_moon_91 (by omega) (by omega) ?_
        refine tv_iinc (pc := 92) 1 [(5, tm_i (x + 1)), (4, tm_i ((1103515245 * lt) + 12345)), (0, .ref (E.2.1 0)), (2, tm_i n), (3, tm_i w)] C dX7_moon_92 rfl (by decide) rfl ?_
        refine tv_goto (pc := 95) 43 C dX7_moon_95 (by decide) ?_
        refine tv_sub (lv1 := [(5, tm_i (x + 1)), (4, tm_i ((1103515245 * lt) + 12345)), (0, .ref (E.2.1 0)), (2, tm_i n), (3, tm_i w)]) [0, 1, 2, 3, 4] rfl ?_
        rw [tm_rowf_s (by unfold mo_f; rw [if_pos (by omega), hl]; rfl)]
        exact ih (h + 1) (x + 1) _ (by omega) (by omega) (by omega) (by rw [hl]; rfl)
theorem k7_moon (E : tm_Ev) (l : Launch) (μ : tm_M) (d s : tm_M) (hd : dd_ok d) (hI : cl_I μ d s) (u n w : Int) (hn : -2147483648 ≤ n ∧ n ≤ 2147483647) (hw : -2147483648 ≤ w ∧ w ≤ 2147483647) : tm_Met E l yX7_moon cX7_moon 6 (some .int) 5 [.ref (E.2.1 0), tm_i u, tm_i n, tm_i w] μ (tm_pi (fun z μ' => z = mn_z d u n w ∧ cl_I μ' d s ∧ ∀ a, 74 ≤ a → μ' a = μ a)) := by
  refine tm_intro [(0, .ref (E.2.1 0)), (1, tm_i u), (2, tm_i n), (3, tm_i w)] rfl (by decide +kernel) (Nat.le_of_ble_eq_true rfl) ?_
  intro X hX C
  subst hX
  refine tv_iload_n (pc := 0) 2 C dX7_moon_0 rfl rfl ?_
  refine tv_iconst (pc := 1) C dX7_moon_1 ?_
  refine tv_bipush (pc := 2) C dX7_moon_2 (by decide) ?_
  refine tv_callS (pc := 4) [tm_i n, tm_i 0, tm_i 40] [] C (c7_within E _ μ n 0 40 (by omega) (by omega) (by omega)) cs_X7_97 (by decide) rfl (Nat.le_of_ble_eq_true rfl) rfl dX7_moon_4 (tm_kp ?_)
  refine tv_ifeqB (pc := 7) 19 C dX7_moon_7 (by decide) (fun h7 => ?_) (fun h7 => ?_)
  · skip
    refine tv_bipush (pc := 19) C dX7_moon_19 (by decide) ?_
    refine tv_iret (pc := 21) C dX7_moon_21 ?_
    exact ⟨_, rfl, by unfold mn_z; rw [if_neg (by omega)], hI, fun a _ => rfl⟩
  · skip
    refine tv_iload_n (pc := 10) 3 C dX7_moon_10 rfl rfl ?_
    refine tv_iconst (pc := 11) C dX7_moon_11 ?_
    refine tv_iconst (pc := 12) C dX7_moon_12 ?_
    refine tv_callS (pc := 13) [tm_i w, tm_i 0, tm_i 1] [] C (c7_within E _ μ w 0 1 (by omega) (by omega) (by omega)) cs_X7_97 (by decide) rfl (Nat.le_of_ble_eq_true rfl) rfl dX7_moon_13 (tm_kp ?_)
    refine tv_ifneB (pc := 16) 22 C dX7_moon_16 (by decide) (fun h16 => ?_) (fun h16 => ?_)
    · skip
      refine tv_aload_n (pc := 22) 0 C dX7_moon_22 rfl rfl ?_
      refine tv_callV (pc := 23) [] [] C (c7_settle E _ μ d hd hI.1 hI.2.2.1 hI.2.2.2.1) cv_X7_125 rfl rfl (by decide) rfl (Nat.le_of_ble_eq_true rfl) rfl dX7_moon_23 (tm_kv ?_)
      rintro n1 ⟨g1, g2, g3, g4, g5⟩
      have hI1 := cl_I_set hI g1 g2 g3 g4 g5
      have fr1 : ∀ a, 74 ≤ a → n1 a = μ a := fun a ha => g4 a (by omega)
      have hn := g2.2.1
      have hor := fun k hk => (g2.2.2.1 k hk)
      refine tv_aload_n (pc := 26) 0 C dX7_moon_26 rfl rfl ?_
      refine tv_getr (pc := 27) (q := 43) C rfl rfl fl_X7_73 dX7_moon_27 ?_
      refine tv_aload_n (pc := 30) 0 C dX7_moon_30 rfl rfl ?_
      refine tv_getr (pc := 31) (q := 29) C rfl rfl fl_X7_62 dX7_moon_31 ?_
      refine tv_callV (pc := 34) [.ref (E.2.1 29)] [] C (c0_like E _ n1) cv_X7_224 rfl rfl (by decide) rfl (Nat.le_of_ble_eq_true rfl) rfl dX7_moon_34 (tm_kv ?_)
      rintro n2 ⟨gl, hF3⟩
      have hA := gl (dd_p d) g2.1 (dd_p_ok hd)
      clear gl
      refine tv_iload_n (pc := 37) 1 C dX7_moon_37 rfl rfl ?_
      refine tv_istore (pc := 38) [(4, tm_i u), (0, .ref (E.2.1 0)), (1, tm_i u), (2, tm_i n), (3, tm_i w)] C dX7_moon_38 (by decide) rfl ?_
      refine tv_iconst (pc := 40) C dX7_moon_40 ?_
      refine tv_istore (pc := 41) [(5, tm_i 0), (4, tm_i u), (0, .ref (E.2.1 0)), (1, tm_i u), (2, tm_i n), (3, tm_i w)] C dX7_moon_41 (by decide) rfl ?_
      refine tv_sub (lv1 := [(5, tm_i 0), (4, tm_i u), (0, .ref (E.2.1 0)), (2, tm_i n), (3, tm_i w)]) [0, 1, 2, 4, 5] rfl ?_
      refine tv_mem (tm_rowf n2 45 0 (mo_f u n)) (tm_rowf_0 _ _ _).symm ?_
      exact l_moon C d s n1 hd g2 n2 (fun a ha => hF3 a (by omega)) hA u n w (by omega) (by omega) _ (fun n9 q9 => ⟨_, rfl, rfl, cl_I_tr hI1 (fun a h1 _ => q9 a h1), fun a ha => by rw [q9 a (by omega)]; exact fr1 a ha⟩) 41 0 0 u rfl (by omega) (by omega) rfl
    · skip
      refine tv_bipush (pc := 19) C dX7_moon_19 (by decide) ?_
      refine tv_iret (pc := 21) C dX7_moon_21 ?_
      exact ⟨_, rfl, by unfold mn_z; rw [if_neg (by omega)], hI, fun a _ => rfl⟩
