theorem c4_like (E : tm_Ev) (l : Launch) (μ : tm_M) (P P0 : Nat) (hne : P0 ≠ P) (hkP : tm_tm[P]? = some (0, 4, [none, none, none, none])) (hkP0 : tm_tm[P0]? = some (0, 4, [none, none, none, none])) : tm_Met E l yX4_becomeLike cX4_becomeLike 2 none 0 [.ref (E.2.1 P), .ref (E.2.1 P0)] μ (tm_pv (fun μ' => μ' = tm_pd μ P (μ P0 0) (μ P0 1) (μ P0 2) (μ P0 3))) := by
  refine tm_intro [(0, .ref (E.2.1 P)), (1, .ref (E.2.1 P0))] rfl (by decide +kernel) (Nat.le_of_ble_eq_true rfl) ?_
  intro X hX C
  subst hX
  refine tv_aload_n (pc := 0) 0 C dX4_becomeLike_0 rfl rfl ?_
  refine tv_aload_n (pc := 1) 1 C dX4_becomeLike_1 rfl rfl ?_
  refine tv_geti (pc := 2) (z := μ P0 0) C hkP0 rfl fl_X4_9 dX4_becomeLike_2 rfl ?_
  refine tv_puti (pc := 5) C hkP rfl fp_X4_9 dX4_becomeLike_5 ?_
  refine tv_aload_n (pc := 8) 0 C dX4_becomeLike_8 rfl rfl ?_
  refine tv_aload_n (pc := 9) 1 C dX4_becomeLike_9 rfl rfl ?_
  refine tv_geti (pc := 10) (z := μ P0 1) C hkP0 rfl fl_X4_21 dX4_becomeLike_10 ((tm_uk hne).trans (rfl)) ?_
  refine tv_puti (pc := 13) C hkP rfl fp_X4_21 dX4_becomeLike_13 ?_
  refine tv_aload_n (pc := 16) 0 C dX4_becomeLike_16 rfl rfl ?_
  refine tv_aload_n (pc := 17) 1 C dX4_becomeLike_17 rfl rfl ?_
  refine tv_geti (pc := 18) (z := μ P0 2) C hkP0 rfl fl_X4_24 dX4_becomeLike_18 ((tm_uk hne).trans ((tm_uk hne).trans (rfl))) ?_
  refine tv_puti (pc := 21) C hkP rfl fp_X4_24 dX4_becomeLike_21 ?_
  refine tv_aload_n (pc := 24) 0 C dX4_becomeLike_24 rfl rfl ?_
  refine tv_aload_n (pc := 25) 1 C dX4_becomeLike_25 rfl rfl ?_
  refine tv_geti (pc := 26) (z := μ P0 3) C hkP0 rfl fl_X4_27 dX4_becomeLike_26 ((tm_uk hne).trans ((tm_uk hne).trans ((tm_uk hne).trans (rfl)))) ?_
  refine tv_puti (pc := 29) C hkP rfl fp_X4_27 dX4_becomeLike_29 ?_
  refine tv_vret (pc := 32) C dX4_becomeLike_32 ?_
  exact ⟨rfl, rfl⟩
theorem c3_pass (E : tm_Ev) (l : Launch) (μ d : tm_M) (hd : dd_ok d) (P : Nat) (hP : 63 ≤ P ∧ P ≤ 71) (hkP : tm_tm[P]? = some (0, 4, [none, none, none, none])) (hag : sm_ag (sm_p μ 29) (dd_p d)) (S : gd_S) (hS : gd_ok S) (hh : S.1 < 40) (g : Int) (hg : 0 ≤ g ∧ g ≤ 2) (e0 : μ P 0 = (S.1 : Int)) (e1 : μ P 1 = S.2.1) (e2 : μ P 2 = S.2.2.1) (h3 : 0 ≤ μ P 3 ∧ μ P 3 ≤ 100 * (S.1 : Int)) : tm_Met E l yX4_pass cX4_pass 5 (some .boolean) 2 [.ref (E.2.1 P), .ref (E.2.1 29), tm_i g] μ (tm_pi (fun z μ' => z = gd_g (dd_p d) g S ∧ μ' = tm_pd μ P ((S.1 : Int) + 1) (gd_1 (dd_p d) g S).2.1 (gd_1 (dd_p d) g S).2.2.1 (μ P 3 + sp_spl (dd_p d 1 S.1) S.2.1 (dd_p d 0 1) (dd_p d 2 S.1)))) := by
  obtain ⟨b1, b2, b3, b4⟩ := hS
  have hp := dd_p_ok hd
  have f1 : μ 31 S.1 = dd_p d 1 S.1 := (hag.2.1 S.1 hh).1
  have f2 : μ 32 S.1 = dd_p d 2 S.1 := (hag.2.1 S.1 hh).2.1
  have f3 : μ 33 S.1 = dd_p d 3 S.1 := (hag.2.1 S.1 hh).2.2
  have g1 : μ 30 1 = dd_p d 0 1 := hag.1 1 (by omega)
  have g2 : μ 30 2 = dd_p d 0 2 := hag.1 2 (by omega)
  have g3 : μ 30 3 = dd_p d 0 3 := hag.1 3 (by omega)
  have g4 : μ 30 4 = dd_p d 0 4 := hag.1 4 (by omega)
  have k := c4_pass_a E l μ P (Or.inr hP) hkP S.1 g e0 hh (Or.inr hg) (by rw [e1]; exact b2) (by rw [e2]; omega) (by omega) (by rw [f1]; exact hp.2.2.2.2.2.1 S.1 hh) (by rw [g1]; exact hp.2.1) (by rw [g2]; exact hp.2.2.1) (by rw [g3]; exact hp.2.2.2.1) (by rw [g4]; exact hp.2.2.2.2.1) (by rw [f2]; exact hp.2.2.2.2.2.2.1 S.1 hh) (by rw [f3]; exact hp.2.2.2.2.2.2.2.1 S.1 hh)
  rw [e1, e2, f1, f2, f3, g1, g2, g3, g4] at k
  exact k
theorem gd_spl {d : tm_M} (hd : dd_ok d) {S : gd_S} (hS : gd_ok S) (hh : S.1 < 40) : 0 ≤ sp_spl (dd_p d 1 S.1) S.2.1 (dd_p d 0 1) (dd_p d 2 S.1) ∧ sp_spl (dd_p d 1 S.1) S.2.1 (dd_p d 0 1) (dd_p d 2 S.1) ≤ 100 := by
  have hp := dd_p_ok hd
  have a := hp.2.2.2.2.2.1 S.1 hh
  have b := hp.2.2.2.2.2.2.1 S.1 hh
  have c := hp.2.1
  have e := hS.2.1
  unfold sp_spl sp_fill
  omega
theorem l_hope {E : tm_Ev} {X : tm_X} (C : tm_C E X yX3_hope.cls cX3_hope 5 (some .int) 0) (μ d : tm_M) (hd : dd_ok d) (h8 : dd_n d ≤ 8) (a b : Int) (x9 : Nat) (hb : b = ((x9 : Nat) : Int)) (hx9 : x9 < 256) (har : 0 ≤ a ∧ a ≤ 40) (hn : μ 23 4 = (dd_n d : Int)) (ho : ∀ k, k < dd_n d → μ 25 k = dd_p d 7 k ∧ μ 26 k = od_d (d 2) k ∧ μ 27 k = od_p (d 2) k) (post : Option Value → tm_M → Prop) (hpost : post (some (tm_i (hp_n d a x9))) μ) : ∀ (f j : Nat) (x y : Int), x = j → j ≤ dd_n d → dd_n d - j < f → y = su_n (hp_t d a x9) j → tm_V E X (tm_Q E X post) 5 5 [(4, tm_i x), (3, tm_i y), (0, .ref (E.2.1 23)), (1, tm_i a), (2, tm_i b)] [] μ := by
  intro f
  induction f with
  | zero => intro j x y hx hj hf hy; omega
  | succ f ih =>
    intro j x y hx hj hf hy
    refine tv_iload (pc := 5) 0 C dX3_hope_5 rfl ?_
    refine tv_aload_n (pc := 7) 2 C dX3_hope_7 rfl rfl ?_
    refine tv_geti (pc := 8) (z := (dd_n d : Int)) C rfl rfl fl_X3_62 dX3_hope_8 hn ?_
    refine tv_icmp_ge (pc := 11) 60 C dX3_hope_11 (by decide) (by omega) (by omega) (fun h11 => ?_) (fun h11 => ?_)
    · skip
      refine tv_iload_n (pc := 60) 1 C dX3_hope_60 rfl rfl ?_
      refine tv_iret (pc := 61) C dX3_hope_61 ?_
      have hin : j = dd_n d := by omega
      subst hin
      rw [hy]
      exact hpost
    · skip
      have hbo := dd_o (d := d) (o := j) (by omega)
      have hhb := hp_bd hd a x9 (k := j) (by omega)
      refine tv_iload_n (pc := 14) 4 C dX3_hope_14 rfl rfl ?_
      refine tv_iload (pc := 15) 0 C dX3_hope_15 rfl ?_
      refine tv_ishr (pc := 17) (z := (((x9 : Nat) : Int) / 2 ^ j)) C dX3_hope_17 (by rw [hb, hx]; exact tb_shr (by omega) (by omega)) ?_
      refine tv_iconst (pc := 18) C dX3_hope_18 ?_
      refine tv_iand (pc := 19) (z := (((x9 : Nat) : Int) / 2 ^ j % 2)) C dX3_hope_19 (tb_and1 (by have q := Int.ediv_nonneg (a := ((x9 : Nat) : Int)) (b := 2 ^ j) (by omega) (by have := (tb_pow (k := j) (by omega)).2; omega); have q2 := Int.ediv_le_self (a := ((x9 : Nat) : Int)) (2 ^ j) (by omega); omega)) ?_
      refine tv_if_ne (pc := 20) 54 C dX3_hope_20 (by decide) (by omega) (fun h20 => ?_) (fun h20 => ?_)
      · skip
        have hno : ¬ (¬ tb_t ((x9 : Nat) : Int) j = true ∧ a + dd_p d 7 j - 1 ≤ od_d (d 2) j) := by
          rintro ⟨q, -⟩
          refine q ?_
          unfold tb_t
          rw [decide_eq_true_eq]
          omega
        refine tv_iinc (pc := 54) 0 [(4, tm_i (x + 1)), (3, tm_i y), (0, .ref (E.2.1 23)), (1, tm_i a), (2, tm_i b)] C dX3_hope_54 rfl (by decide) rfl ?_
        refine tv_goto (pc := 57) 5 C dX3_hope_57 (by decide) ?_
        refine tv_sub (lv1 := [(4, tm_i (x + 1)), (3, tm_i y), (0, .ref (E.2.1 23)), (1, tm_i a), (2, tm_i b)]) [0, 1, 2, 3, 4] rfl ?_
        refine ih (j + 1) (x + 1) _ (by omega) (by omega) (by omega) ?_
        rw [su_s, hy]
        unfold hp_t
        rw [if_neg hno, Int.add_zero]
      · skip
        have hbt : ¬ tb_t ((x9 : Nat) : Int) j = true := by
          unfold tb_t
          rw [decide_eq_true_eq]
          omega
        refine tv_iload_n (pc := 23) 3 C dX3_hope_23 rfl rfl ?_
        refine tv_aload_n (pc := 24) 2 C dX3_hope_24 rfl rfl ?_
        refine tv_getr (pc := 25) (q := 25) C rfl rfl fl_X3_90 dX3_hope_25 ?_
        refine tv_iload (pc := 28) 0 C dX3_hope_28 rfl ?_
        refine tv_iald (pc := 30) (j := j) (z := dd_p d 7 j) C rfl dX3_hope_30 (by omega) (by omega) ((ho j (by omega)).1) ?_
        refine tv_iadd (pc := 31) C dX3_hope_31 ?_
        refine tv_iconst (pc := 32) C dX3_hope_32 ?_
        refine tv_isub (pc := 33) C dX3_hope_33 ?_
        refine tv_aload_n (pc := 34) 2 C dX3_hope_34 rfl rfl ?_
        refine tv_getr (pc := 35) (q := 26) C rfl rfl fl_X3_93 dX3_hope_35 ?_
        refine tv_iload (pc := 38) 0 C dX3_hope_38 rfl ?_
        refine tv_iald (pc := 40) (j := j) (z := od_d (d 2) j) C rfl dX3_hope_40 (by omega) (by omega) ((ho j (by omega)).2.1) ?_
        refine tv_icmp_gt (pc := 41) 54 C dX3_hope_41 (by decide) (by omega) (by omega) (fun h41 => ?_) (fun h41 => ?_)
        · skip
          have hno : ¬ (¬ tb_t ((x9 : Nat) : Int) j = true ∧ a + dd_p d 7 j - 1 ≤ od_d (d 2) j) := by
            rintro ⟨-, q⟩
            omega
          refine tv_iinc (pc := 54) 0 [(4, tm_i (x + 1)), (3, tm_i y), (0, .ref (E.2.1 23)), (1, tm_i a), (2, tm_i b)] C dX3_hope_54 rfl (by decide) rfl ?_
          refine tv_goto (pc := 57) 5 C dX3_hope_57 (by decide) ?_
          refine tv_sub (lv1 := [(4, tm_i (x + 1)), (3, tm_i y), (0, .ref (E.2.1 23)), (1, tm_i a), (2, tm_i b)]) [0, 1, 2, 3, 4] rfl ?_
          refine ih (j + 1) (x + 1) _ (by omega) (by omega) (by omega) ?_
          rw [su_s, hy]
          unfold hp_t
          rw [if_neg hno, Int.add_zero]
        · skip
          refine tv_iload_n (pc := 44) 1 C dX3_hope_44 rfl rfl ?_
          refine tv_aload_n (pc := 45) 2 C dX3_hope_45 rfl rfl ?_
          refine tv_getr (pc := 46) (q := 27) C rfl rfl fl_X3_81 dX3_hope_46 ?_
          refine tv_iload (pc := 49) 0 C dX3_hope_49 rfl ?_
          refine tv_iald (pc := 51) (j := j) (z := od_p (d 2) j) C rfl dX3_hope_51 (by omega) (by omega) ((ho j (by omega)).2.2) ?_
          refine tv_iadd (pc := 52) C dX3_hope_52 ?_
          refine tv_istore_n (pc := 53) [(3, tm_i (y + (od_p (d 2) j))), (4, tm_i x), (0, .ref (E.2.1 23)), (1, tm_i a), (2, tm_i b)] C dX3_hope_53 rfl (by decide) rfl ?_
          refine tv_iinc (pc := 54) 1 [(4, tm_i (x + 1)), (3, tm_i (y + (od_p (d 2) j))), (0, .ref (E.2.1 23)), (1, tm_i a), (2, tm_i b)] C dX3_hope_54 rfl (by decide) rfl ?_
          refine tv_goto (pc := 57) 5 C dX3_hope_57 (by decide) ?_
          refine tv_sub (lv1 := [(4, tm_i (x + 1)), (3, tm_i (y + (od_p (d 2) j))), (0, .ref (E.2.1 23)), (1, tm_i a), (2, tm_i b)]) [0, 1, 2, 3, 4] rfl ?_
          exact ih (j + 1) (x + 1) _ (by omega) (by omega) (by omega) (by rw [su_s, hy]; unfold hp_t; rw [if_pos ⟨hbt, by omega⟩])
theorem c3_hope (E : tm_Ev) (l : Launch) (μ : tm_M) (d : tm_M) (hd : dd_ok d) (h8 : dd_n d ≤ 8) (a b : Int) (x9 : Nat) (hb : b = ((x9 : Nat) : Int)) (hx9 : x9 < 256) (har : 0 ≤ a ∧ a ≤ 40) (hn : μ 23 4 = (dd_n d : Int)) (ho : ∀ k, k < dd_n d → μ 25 k = dd_p d 7 k ∧ μ 26 k = od_d (d 2) k ∧ μ 27 k = od_p (d 2) k) : tm_Met E l yX3_hope cX3_hope 5 (some .int) 0 [.ref (E.2.1 23), tm_i a, tm_i b] μ (tm_pi (fun z μ' => z = hp_n d a x9 ∧ μ' = μ)) := by
  refine tm_intro [(0, .ref (E.2.1 23)), (1, tm_i a), (2, tm_i b)] rfl (by decide +kernel) (Nat.le_of_ble_eq_true rfl) ?_
  intro X hX C
  subst hX
  refine tv_iconst (pc := 0) C dX3_hope_0 ?_
  refine tv_istore_n (pc := 1) [(3, tm_i 0), (0, .ref (E.2.1 23)), (1, tm_i a), (2, tm_i b)] C dX3_hope_1 rfl (by decide) rfl ?_
  refine tv_iconst (pc := 2) C dX3_hope_2 ?_
  refine tv_istore (pc := 3) [(4, tm_i 0), (3, tm_i 0), (0, .ref (E.2.1 23)), (1, tm_i a), (2, tm_i b)] C dX3_hope_3 (by decide) rfl ?_
  refine tv_sub (lv1 := [(4, tm_i 0), (3, tm_i 0), (0, .ref (E.2.1 23)), (1, tm_i a), (2, tm_i b)]) [0, 1, 2, 3, 4] rfl ?_
  exact l_hope C μ d hd h8 a b x9 hb hx9 har hn ho _ ⟨_, rfl, rfl, rfl⟩ (dd_n d + 1) 0 0 0 rfl (by omega) (by omega) rfl
theorem c3_reached (E : tm_Ev) (l : Launch) (μ : tm_M) (d : tm_M) (P : Nat) (hkP : tm_tm[P]? = some (0, 4, [none, none, none, none])) (k x : Nat) (m b c : Int) (T : Nat × Int × Int) (hb : b = ((x : Nat) : Int)) (hx : x < 256) (hT : gd_T T) (e0 : μ P 0 = (T.1 : Int)) (e1 : μ P 1 = T.2.1) (e2 : μ P 2 = T.2.2) (hc : 0 ≤ c ∧ c ≤ 72) (htb : tb_p d μ k m) : tm_Met E l yX3_reachedBefore cX3_reachedBefore 6 (some .boolean) 0 [.ref (E.2.1 57), .ref (E.2.1 P), tm_i b, tm_i c] μ (tm_pi (fun z μ' => (z = 1 ∧ μ' = μ ∧ μ 61 (cd_n x T % 1021).toNat = cd_n x T ∧ c ≤ μ 62 (cd_n x T % 1021).toNat) ∨ (z = 0 ∧ μ' = tm_up (tm_up μ 61 (cd_n x T % 1021).toNat (cd_n x T)) 62 (cd_n x T % 1021).toNat c))) := by
  refine tm_intro [(0, .ref (E.2.1 57)), (1, .ref (E.2.1 P)), (2, tm_i b), (3, tm_i c)] rfl (by decide +kernel) (Nat.le_of_ble_eq_true rfl) ?_
  intro X hX C
  subst hX
  refine tv_iload_n (pc := 0) 2 C dX3_reachedBefore_0 rfl rfl ?_
  refine tv_bipush (pc := 1) C dX3_reachedBefore_1 (by decide) ?_
  refine tv_imul (pc := 3) C dX3_reachedBefore_3 ?_
  refine tv_aload_n (pc := 4) 1 C dX3_reachedBefore_4 rfl rfl ?_
  refine tv_geti (pc := 5) (z := (T.1 : Int)) C hkP rfl fl_X3_55 dX3_reachedBefore_5 e0 ?_
  refine tv_iadd (pc := 8) C dX3_reachedBefore_8 ?_
  refine tv_bipush (pc := 9) C dX3_reachedBefore_9 (by decide) ?_
  refine tv_imul (pc := 11) C dX3_reachedBefore_11 ?_
  refine tv_aload_n (pc := 12) 1 C dX3_reachedBefore_12 rfl rfl ?_
  refine tv_geti (pc := 13) (z := T.2.1) C hkP rfl fl_X3_84 dX3_reachedBefore_13 e1 ?_
  refine tv_iadd (pc := 16) C dX3_reachedBefore_16 ?_
  refine tv_bipush (pc := 17) C dX3_reachedBefore_17 (by decide) ?_
  refine tv_imul (pc := 19) C dX3_reachedBefore_19 ?_
  refine tv_aload_n (pc := 20) 1 C dX3_reachedBefore_20 rfl rfl ?_
  refine tv_geti (pc := 21) (z := T.2.2) C hkP rfl fl_X3_87 dX3_reachedBefore_21 e2 ?_
  refine tv_iadd (pc := 24) C dX3_reachedBefore_24 ?_
  refine tv_top (cd_n x T) (by rw [hb]; rfl) ?_
  have hcb := cd_bd hx hT
  have h61 := (htb (cd_n x T % 1021).toNat (by omega)).1
  have h62 : μ 61 (cd_n x T % 1021).toNat = cd_n x T → 0 ≤ μ 62 (cd_n x T % 1021).toNat ∧ μ 62 (cd_n x T % 1021).toNat ≤ 72 := by
    intro q
    rcases (htb (cd_n x T % 1021).toNat (by omega)).2 with q2 | ⟨q2, -⟩
    · omega
    · exact q2
  refine tv_istore (pc := 25) [(4, tm_i (cd_n x T)), (0, .ref (E.2.1 57)), (1, .ref (E.2.1 P)), (2, tm_i b), (3, tm_i c)] C dX3_reachedBefore_25 (by decide) rfl ?_
  refine tv_iload (pc := 27) 0 C dX3_reachedBefore_27 rfl ?_
  refine tv_sipush (pc := 29) C dX3_reachedBefore_29 (by decide) ?_
  refine tv_irem (pc := 32) C dX3_reachedBefore_32 (by omega) (by omega) ?_
  refine tv_istore (pc := 33) [(5, tm_i ((cd_n x T) % 1021)), (4, tm_i (cd_n x T)), (0, .ref (E.2.1 57)), (1, .ref (E.2.1 P)), (2, tm_i b), (3, tm_i c)] C dX3_reachedBefore_33 (by decide) rfl ?_
  refine tv_aload_n (pc := 35) 2 C dX3_reachedBefore_35 rfl rfl ?_
  refine tv_getr (pc := 36) (q := 61) C rfl rfl fl_X3_24 dX3_reachedBefore_36 ?_
  refine tv_iload (pc := 39) 0 C dX3_reachedBefore_39 rfl ?_
  refine tv_iald (pc := 41) (j := ((cd_n x T) % 1021).toNat) (z := μ 61 (((cd_n x T) % 1021).toNat)) C rfl dX3_reachedBefore_41 (by omega) rfl rfl ?_
  refine tv_iload (pc := 42) 1 C dX3_reachedBefore_42 rfl ?_
  refine tv_icmp_ne (pc := 44) 60 C dX3_reachedBefore_44 (by decide) (by omega) (by omega) (fun h44 => ?_) (fun h44 => ?_)
  · skip
    refine tv_aload_n (pc := 60) 2 C dX3_reachedBefore_60 rfl rfl ?_
    refine tv_getr (pc := 61) (q := 61) C rfl rfl fl_X3_24 dX3_reachedBefore_61 ?_
    refine tv_iload (pc := 64) 0 C dX3_reachedBefore_64 rfl ?_
    refine tv_iload (pc := 66) 1 C dX3_reachedBefore_66 rfl ?_
    refine tv_iast (pc := 68) (j := ((cd_n x T) % 1021).toNat) C rfl dX3_reachedBefore_68 (by omega) rfl ?_
    refine tv_aload_n (pc := 69) 2 C dX3_reachedBefore_69 rfl rfl ?_
    refine tv_getr (pc := 70) (q := 62) C rfl rfl fl_X3_27 dX3_reachedBefore_70 ?_
    refine tv_iload (pc := 73) 0 C dX3_reachedBefore_73 rfl ?_
    refine tv_iload_n (pc := 75) 5 C dX3_reachedBefore_75 rfl rfl ?_
    refine tv_iast (pc := 76) (j := ((cd_n x T) % 1021).toNat) C rfl dX3_reachedBefore_76 (by omega) rfl ?_
    refine tv_iconst (pc := 77) C dX3_reachedBefore_77 ?_
    refine tv_zret (pc := 78) C dX3_reachedBefore_78 (by omega) ?_
    exact ⟨_, rfl, Or.inr ⟨rfl, rfl⟩⟩
  · skip
    have h62 := h62 h44
    refine tv_aload_n (pc := 47) 2 C dX3_reachedBefore_47 rfl rfl ?_
    refine tv_getr (pc := 48) (q := 62) C rfl rfl fl_X3_27 dX3_reachedBefore_48 ?_
    refine tv_iload (pc := 51) 0 C dX3_reachedBefore_51 rfl ?_
    refine tv_iald (pc := 53) (j := ((cd_n x T) % 1021).toNat) (z := μ 62 (((cd_n x T) % 1021).toNat)) C rfl dX3_reachedBefore_53 (by omega) rfl rfl ?_
    refine tv_iload_n (pc := 54) 5 C dX3_reachedBefore_54 rfl rfl ?_
    refine tv_icmp_lt (pc := 55) 60 C dX3_reachedBefore_55 (by decide) (by omega) (by omega) (fun h55 => ?_) (fun h55 => ?_)
    · skip
      refine tv_aload_n (pc := 60) 2 C dX3_reachedBefore_60 rfl rfl ?_
      refine tv_getr (pc := 61) (q := 61) C rfl rfl fl_X3_24 dX3_reachedBefore_61 ?_
      refine tv_iload (pc := 64) 0 C dX3_reachedBefore_64 rfl ?_
      refine tv_iload (pc := 66) 1 C dX3_reachedBefore_66 rfl ?_
      refine tv_iast (pc := 68) (j := ((cd_n x T) % 1021).toNat) C rfl dX3_reachedBefore_68 (by omega) rfl ?_
      refine tv_aload_n (pc := 69) 2 C dX3_reachedBefore_69 rfl rfl ?_
      refine tv_getr (pc := 70) (q := 62) C rfl rfl fl_X3_27 dX3_reachedBefore_70 ?_
      refine tv_iload (pc := 73) 0 C dX3_reachedBefore_73 rfl ?_
      refine tv_iload_n (pc := 75) 5 C dX3_reachedBefore_75 rfl rfl ?_
      refine tv_iast (pc := 76) (j := ((cd_n x T) % 1021).toNat) C rfl dX3_reachedBefore_76 (by omega) rfl ?_
      refine tv_iconst (pc := 77) C dX3_reachedBefore_77 ?_
      refine tv_zret (pc := 78) C dX3_reachedBefore_78 (by omega) ?_
      exact ⟨_, rfl, Or.inr ⟨rfl, rfl⟩⟩
    · skip
      refine tv_iconst (pc := 58) C dX3_reachedBefore_58 ?_
      refine tv_zret (pc := 59) C dX3_reachedBefore_59 (by omega) ?_
      exact ⟨_, rfl, Or.inl ⟨rfl, rfl, h44, by omega⟩⟩
theorem l_grind {E : tm_Ev} {X : tm_X} (C : tm_C E X yX3_grind.cls cX3_grind 7 (some .boolean) 3) (d n1 : tm_M) (hd : dd_ok d) (P : Nat) (hP : 63 ≤ P ∧ P ≤ 71) (hkP : tm_tm[P]? = some (0, 4, [none, none, none, none])) (j : Nat) (u a : Int) (hu : u = j) (hj : j < dd_n d) (h8 : dd_n d ≤ 8) (hag : sm_ag (sm_p n1 29) (dd_p d)) (h24 : n1 24 j = (dd_p d 6 j)) (h26 : n1 26 j = od_d (d 2) j) (hgr : 0 ≤ (dd_p d 6 j) ∧ (dd_p d 6 j) ≤ 2) (hdue : 0 ≤ od_d (d 2) j ∧ od_d (d 2) j ≤ 39) (R : gd_S) (post : Option Value → tm_M → Prop) (hpost : ∀ (ν : tm_M) (z : Int), ν P 0 = (R.1 : Int) → ν P 1 = R.2.1 → ν P 2 = R.2.2.1 → (0 ≤ ν P 3 ∧ ν P 3 ≤ 100 * (R.1 : Int)) → (∀ a, a ≠ P → ν a = n1 a) → z = (if R.2.2.2 = 0 ∧ (R.1 : Int) - 1 ≤ od_d (d 2) j then 1 else 0) → post (some (tm_i z)) ν) : ∀ (f m : Nat) (S : gd_S) (x y : Int) (ν : tm_M), x = (S.1 : Int) → y = S.2.2.2 → 40 - S.1 < f → 40 - S.1 ≤ m → S.2.2.2 ≤ 9 → gd_n (dd_p d) (dd_p d 6 j) m S = R → gd_ok S → ν P 0 = (S.1 : Int) → ν P 1 = S.2.1 → ν P 2 = S.2.2.1 → (0 ≤ ν P 3 ∧ ν P 3 ≤ 100 * (S.1 : Int)) → (∀ a, a ≠ P → ν a = n1 a) → tm_V E X (tm_Q E X post) 7 39 [(6, tm_i x), (5, tm_i y), (4, .ref (E.2.1 P)), (0, .ref (E.2.1 57)), (1, .ref (E.2.1 29)), (2, tm_i a), (3, tm_i u)] [] ν := by
  intro f
  induction f with
  | zero => intro m S x y ν hx hl hf hm h9 hR hok q0 q1 q2 q3 hF; omega
  | succ f ih =>
    intro m S x y ν hx hl hf hm h9 hR hok q0 q1 q2 q3 hF
    have hv24 : ν 24 j = (dd_p d 6 j) := by rw [hF 24 (by omega)]; exact h24
    have hv26 : ν 26 j = od_d (d 2) j := by rw [hF 26 (by omega)]; exact h26
    have hagv : sm_ag (sm_p ν 29) (dd_p d) := by
      have e : sm_p ν 29 = sm_p n1 29 := by
        funext a b
        unfold sm_p
        rw [hF 30 (by omega), hF 31 (by omega), hF 32 (by omega), hF 33 (by omega), hF 34 (by omega), hF 29 (by omega), hF 24 (by omega), hF 25 (by omega)]
      rw [e]
      exact hag
    have hk1 := hok.1
    have hk4 := hok.2.2.2
    refine tv_iload (pc := 39) 1 C dX3_grind_39 rfl ?_
    refine tv_if_le (pc := 41) 78 C dX3_grind_41 (by decide) (by omega) (fun h41 => ?_) (fun h41 => ?_)
    · skip
      refine tv_iload (pc := 78) 1 C dX3_grind_78 rfl ?_
      refine tv_if_ne (pc := 80) 106 C dX3_grind_80 (by decide) (by omega) (fun h80 => ?_) (fun h80 => ?_)
      · skip
        refine tv_iconst (pc := 106) C dX3_grind_106 ?_
        refine tv_zret (pc := 107) C dX3_grind_107 (by omega) ?_
        have hRS : S = R := by rw [← hR]; exact (gd_stop (by omega)).symm
        subst hRS
        exact hpost ν _ q0 q1 q2 q3 hF (by rw [if_neg (by omega)])
      · skip
        refine tv_aload (pc := 83) 2 C dX3_grind_83 rfl ?_
        refine tv_geti (pc := 85) (z := (S.1 : Int)) C hkP rfl fl_X3_55 dX3_grind_85 q0 ?_
        refine tv_iconst (pc := 88) C dX3_grind_88 ?_
        refine tv_isub (pc := 89) C dX3_grind_89 ?_
        refine tv_aload_n (pc := 90) 4 C dX3_grind_90 rfl rfl ?_
        refine tv_getr (pc := 91) (q := 23) C rfl rfl fl_X3_49 dX3_grind_91 ?_
        refine tv_getr (pc := 94) (q := 26) C rfl rfl fl_X3_93 dX3_grind_94 ?_
        refine tv_iload_n (pc := 97) 6 C dX3_grind_97 rfl rfl ?_
        refine tv_iald (pc := 98) (j := j) (z := od_d (d 2) j) C rfl dX3_grind_98 (by omega) (by omega) hv26 ?_
        refine tv_icmp_gt (pc := 99) 106 C dX3_grind_99 (by decide) (by omega) (by omega) (fun h99 => ?_) (fun h99 => ?_)
        · skip
          refine tv_iconst (pc := 106) C dX3_grind_106 ?_
          refine tv_zret (pc := 107) C dX3_grind_107 (by omega) ?_
          have hRS : S = R := by rw [← hR]; exact (gd_stop (by omega)).symm
          subst hRS
          exact hpost ν _ q0 q1 q2 q3 hF (by rw [if_neg (by omega)])
        · skip
          refine tv_iconst (pc := 102) C dX3_grind_102 ?_
          refine tv_goto (pc := 103) 107 C dX3_grind_103 (by decide) ?_
          refine tv_zret (pc := 107) C dX3_grind_107 (by omega) ?_
          have hRS : S = R := by rw [← hR]; exact (gd_stop (by omega)).symm
          subst hRS
          exact hpost ν _ q0 q1 q2 q3 hF (by rw [if_pos (by omega)])
    · skip
      refine tv_iload (pc := 44) 0 C dX3_grind_44 rfl ?_
      refine tv_bipush (pc := 46) C dX3_grind_46 (by decide) ?_
      refine tv_icmp_ge (pc := 48) 78 C dX3_grind_48 (by decide) (by omega) (by omega) (fun h48 => ?_) (fun h48 => ?_)
      · skip
        refine tv_iload (pc := 78) 1 C dX3_grind_78 rfl ?_
        refine tv_if_ne (pc := 80) 106 C dX3_grind_80 (by decide) (by omega) (fun h80 => ?_) (fun h80 => ?_)
        · skip
          refine tv_iconst (pc := 106) C dX3_grind_106 ?_
          refine tv_zret (pc := 107) C dX3_grind_107 (by omega) ?_
          have hRS : S = R := by rw [← hR]; exact (gd_stop (by omega)).symm
          subst hRS
          exact hpost ν _ q0 q1 q2 q3 hF (by rw [if_neg (by omega)])
        · skip
          refine tv_aload (pc := 83) 2 C dX3_grind_83 rfl ?_
          refine tv_geti (pc := 85) (z := (S.1 : Int)) C hkP rfl fl_X3_55 dX3_grind_85 q0 ?_
          refine tv_iconst (pc := 88) C dX3_grind_88 ?_
          refine tv_isub (pc := 89) C dX3_grind_89 ?_
          refine tv_aload_n (pc := 90) 4 C dX3_grind_90 rfl rfl ?_
          refine tv_getr (pc := 91) (q := 23) C rfl rfl fl_X3_49 dX3_grind_91 ?_
          refine tv_getr (pc := 94) (q := 26) C rfl rfl fl_X3_93 dX3_grind_94 ?_
          refine tv_iload_n (pc := 97) 6 C dX3_grind_97 rfl rfl ?_
          refine tv_iald (pc := 98) (j := j) (z := od_d (d 2) j) C rfl dX3_grind_98 (by omega) (by omega) hv26 ?_
          refine tv_icmp_gt (pc := 99) 106 C dX3_grind_99 (by decide) (by omega) (by omega) (fun h99 => ?_) (fun h99 => ?_)
          · skip
            refine tv_iconst (pc := 106) C dX3_grind_106 ?_
            refine tv_zret (pc := 107) C dX3_grind_107 (by omega) ?_
            have hRS : S = R := by rw [← hR]; exact (gd_stop (by omega)).symm
            subst hRS
            exact hpost ν _ q0 q1 q2 q3 hF (by rw [if_neg (by omega)])
          · skip
            refine tv_iconst (pc := 102) C dX3_grind_102 ?_
            refine tv_goto (pc := 103) 107 C dX3_grind_103 (by decide) ?_
            refine tv_zret (pc := 107) C dX3_grind_107 (by omega) ?_
            have hRS : S = R := by rw [← hR]; exact (gd_stop (by omega)).symm
            subst hRS
            exact hpost ν _ q0 q1 q2 q3 hF (by rw [if_pos (by omega)])
      · skip
        refine tv_aload (pc := 51) 2 C dX3_grind_51 rfl ?_
        refine tv_aload_n (pc := 53) 4 C dX3_grind_53 rfl rfl ?_
        refine tv_aload_n (pc := 54) 4 C dX3_grind_54 rfl rfl ?_
        refine tv_getr (pc := 55) (q := 23) C rfl rfl fl_X3_49 dX3_grind_55 ?_
        refine tv_getr (pc := 58) (q := 24) C rfl rfl fl_X3_100 dX3_grind_58 ?_
        refine tv_iload_n (pc := 61) 6 C dX3_grind_61 rfl rfl ?_
        refine tv_iald (pc := 62) (j := j) (z := (dd_p d 6 j)) C rfl dX3_grind_62 (by omega) (by omega) hv24 ?_
        refine tv_callV (pc := 63) [.ref (E.2.1 29), tm_i (dd_p d 6 j)] [] C (c3_pass E _ ν d hd P hP hkP hagv S hok (by omega) (dd_p d 6 j) hgr q0 q1 q2 q3) cv_X3_103 hkP rfl (by decide) rfl (Nat.le_of_ble_eq_true rfl) rfl dX3_grind_63 (tm_ki ?_)
        rintro zq nq ⟨hzq, hnq⟩
        have h01 := gd_g01 (dd_p d) (dd_p d 6 j) S
        have hsp := gd_spl hd hok (by omega)
        refine tv_if_eq (pc := 66) 72 C dX3_grind_66 (by decide) (by omega) (fun h66 => ?_) (fun h66 => ?_)
        · skip
          refine tv_iinc (pc := 72) 0 [(6, tm_i (x + 1)), (5, tm_i y), (4, .ref (E.2.1 P)), (0, .ref (E.2.1 57)), (1, .ref (E.2.1 29)), (2, tm_i a), (3, tm_i u)] C dX3_grind_72 rfl (by decide) rfl ?_
          refine tv_goto (pc := 75) 39 C dX3_grind_75 (by decide) ?_
          refine tv_sub (lv1 := [(6, tm_i (x + 1)), (5, tm_i y), (4, .ref (E.2.1 P)), (0, .ref (E.2.1 57)), (1, .ref (E.2.1 29)), (2, tm_i a), (3, tm_i u)]) [0, 1, 2, 3, 4, 5, 6] rfl ?_
          obtain ⟨m1, rfl⟩ : ∃ m1, m = m1 + 1 := ⟨m - 1, by omega⟩
          rw [gd_go (by omega)] at hR
          have t1 : (gd_1 (dd_p d) (dd_p d 6 j) S).1 = S.1 + 1 := rfl
          have t4 : (gd_1 (dd_p d) (dd_p d 6 j) S).2.2.2 = S.2.2.2 - gd_g (dd_p d) (dd_p d 6 j) S := rfl
          exact ih m1 (gd_1 (dd_p d) (dd_p d 6 j) S) (x + 1) _ nq (by rw [t1]; omega) (by rw [t4]; omega) (by rw [t1]; omega) (by rw [t1]; omega) (by rw [t4]; omega) hR (gd_1_ok (dd_p_ok hd) hgr hok (by omega)) (by rw [hnq, tm_pd_0, t1]; omega) (by rw [hnq, tm_pd_1]) (by rw [hnq, tm_pd_2]) (by rw [hnq, tm_pd_3, t1]; omega) (fun a ha => by rw [hnq, tm_pd_f ha]; exact hF a ha)
        · skip
          refine tv_iinc (pc := 69) 1 [(5, tm_i (y + (-1))), (6, tm_i x), (4, .ref (E.2.1 P)), (0, .ref (E.2.1 57)), (1, .ref (E.2.1 29)), (2, tm_i a), (3, tm_i u)] C dX3_grind_69 rfl (by decide) rfl ?_
          refine tv_iinc (pc := 72) 1 [(6, tm_i (x + 1)), (5, tm_i (y + (-1))), (4, .ref (E.2.1 P)), (0, .ref (E.2.1 57)), (1, .ref (E.2.1 29)), (2, tm_i a), (3, tm_i u)] C dX3_grind_72 rfl (by decide) rfl ?_
          refine tv_goto (pc := 75) 39 C dX3_grind_75 (by decide) ?_
          refine tv_sub (lv1 := [(6, tm_i (x + 1)), (5, tm_i (y + (-1))), (4, .ref (E.2.1 P)), (0, .ref (E.2.1 57)), (1, .ref (E.2.1 29)), (2, tm_i a), (3, tm_i u)]) [0, 1, 2, 3, 4, 5, 6] rfl ?_
          obtain ⟨m1, rfl⟩ : ∃ m1, m = m1 + 1 := ⟨m - 1, by omega⟩
          rw [gd_go (by omega)] at hR
          have t1 : (gd_1 (dd_p d) (dd_p d 6 j) S).1 = S.1 + 1 := rfl
          have t4 : (gd_1 (dd_p d) (dd_p d 6 j) S).2.2.2 = S.2.2.2 - gd_g (dd_p d) (dd_p d 6 j) S := rfl
          exact ih m1 (gd_1 (dd_p d) (dd_p d 6 j) S) (x + 1) _ nq (by rw [t1]; omega) (by rw [t4]; omega) (by rw [t1]; omega) (by rw [t1]; omega) (by rw [t4]; omega) hR (gd_1_ok (dd_p_ok hd) hgr hok (by omega)) (by rw [hnq, tm_pd_0, t1]; omega) (by rw [hnq, tm_pd_1]) (by rw [hnq, tm_pd_2]) (by rw [hnq, tm_pd_3, t1]; omega) (fun a ha => by rw [hnq, tm_pd_f ha]; exact hF a ha)
theorem c3_grind (E : tm_Ev) (l : Launch) (μ : tm_M) (d : tm_M) (hd : dd_ok d) (hs : cl_s μ d) (k j : Nat) (a u : Int) (ha : a = k) (hk : k < 8) (hu : u = j) (hj : j < dd_n d) (h8 : dd_n d ≤ 8) (T : Nat × Int × Int) (hT : gd_T T) (e0 : μ (63 + k) 0 = (T.1 : Int)) (e1 : μ (63 + k) 1 = T.2.1) (e2 : μ (63 + k) 2 = T.2.2) (e3 : 0 ≤ μ (63 + k) 3 ∧ μ (63 + k) 3 ≤ 100 * (T.1 : Int)) : tm_Met E l yX3_grind cX3_grind 7 (some .boolean) 3 [.ref (E.2.1 57), .ref (E.2.1 29), tm_i a, tm_i u] μ (tm_pi (fun z μ' => z = (if gd_p d T j = true then 1 else 0) ∧ (μ' (63 + (k + 1)) 0 = ((gd_o (dd_p d) T j).1 : Int) ∧ μ' (63 + (k + 1)) 1 = (gd_o (dd_p d) T j).2.1 ∧ μ' (63 + (k + 1)) 2 = (gd_o (dd_p d) T j).2.2.1 ∧ (0 ≤ μ' (63 + (k + 1)) 3 ∧ μ' (63 + (k + 1)) 3 ≤ 100 * ((gd_o (dd_p d) T j).1 : Int))) ∧ ∀ a, a ≠ (63 + (k + 1)) → μ' a = μ a)) := by
  refine tm_intro [(0, .ref (E.2.1 57)), (1, .ref (E.2.1 29)), (2, tm_i a), (3, tm_i u)] rfl (by decide +kernel) (Nat.le_of_ble_eq_true rfl) ?_
  intro X hX C
  subst hX
  have hbo := dd_o (d := d) (o := j) hj
  refine tv_aload_n (pc := 0) 0 C dX3_grind_0 rfl rfl ?_
  refine tv_getr (pc := 1) (q := 58) C rfl rfl fl_X3_11 dX3_grind_1 ?_
  refine tv_iload_n (pc := 4) 2 C dX3_grind_4 rfl rfl ?_
  refine tv_iconst (pc := 5) C dX3_grind_5 ?_
  refine tv_iadd (pc := 6) C dX3_grind_6 ?_
  refine tv_aald (pc := 7) (q := (63 + (k + 1))) (j := (k + 1)) RX4 C rfl rfl dX3_grind_7 (by omega) (by omega) (pd_q _ (by omega)) ?_
  refine tv_astore (pc := 8) [(4, .ref (E.2.1 (63 + (k + 1)))), (0, .ref (E.2.1 57)), (1, .ref (E.2.1 29)), (2, tm_i a), (3, tm_i u)] C dX3_grind_8 (by decide) rfl ?_
  refine tv_aload (pc := 10) 0 C dX3_grind_10 rfl ?_
  refine tv_aload_n (pc := 12) 1 C dX3_grind_12 rfl rfl ?_
  refine tv_getr (pc := 13) (q := 58) C rfl rfl fl_X3_11 dX3_grind_13 ?_
  refine tv_iload_n (pc := 16) 3 C dX3_grind_16 rfl rfl ?_
  refine tv_aald (pc := 17) (q := (63 + k)) (j := k) RX4 C rfl rfl dX3_grind_17 (by omega) (by omega) (pd_q _ (by omega)) ?_
  refine tv_callV (pc := 18) [.ref (E.2.1 (63 + k))] [] C (c4_like E _ μ (63 + (k + 1)) (63 + k) (by omega) (pd_k _ (by omega)) (pd_k _ (by omega))) cv_X3_96 (pd_k _ (by omega)) rfl (by decide) rfl (Nat.le_of_ble_eq_true rfl) rfl dX3_grind_18 (tm_kv ?_)
  rintro n1 hn1
  have hF1 : ∀ a, a ≠ (63 + (k + 1)) → n1 a = μ a := fun a ha => by rw [hn1, tm_pd_f ha]
  have q0 : n1 (63 + (k + 1)) 0 = (T.1 : Int) := by rw [hn1, tm_pd_0]; exact e0
  have q1 : n1 (63 + (k + 1)) 1 = T.2.1 := by rw [hn1, tm_pd_1]; exact e1
  have q2 : n1 (63 + (k + 1)) 2 = T.2.2 := by rw [hn1, tm_pd_2]; exact e2
  have q3 : 0 ≤ n1 (63 + (k + 1)) 3 ∧ n1 (63 + (k + 1)) 3 ≤ 100 * (T.1 : Int) := by rw [hn1, tm_pd_3]; exact e3
  have hs1 : cl_s n1 d := cl_s_same hs (fun a ha => hF1 a (by omega))
  refine tv_aload_n (pc := 21) 2 C dX3_grind_21 rfl rfl ?_
  refine tv_getr (pc := 22) (q := 23) C rfl rfl fl_X3_49 dX3_grind_22 ?_
  refine tv_getr (pc := 25) (q := 25) C rfl rfl fl_X3_90 dX3_grind_25 ?_
  refine tv_iload_n (pc := 28) 4 C dX3_grind_28 rfl rfl ?_
  refine tv_iald (pc := 29) (j := j) (z := dd_p d 7 j) C rfl dX3_grind_29 (by omega) (by omega) ((hs1.2.2.1 j hj).2.1) ?_
  refine tv_istore (pc := 30) [(5, tm_i (dd_p d 7 j)), (4, .ref (E.2.1 (63 + (k + 1)))), (0, .ref (E.2.1 57)), (1, .ref (E.2.1 29)), (2, tm_i a), (3, tm_i u)] C dX3_grind_30 (by decide) rfl ?_
  refine tv_aload (pc := 32) 1 C dX3_grind_32 rfl ?_
  refine tv_geti (pc := 34) (z := (T.1 : Int)) C (pd_k _ (by omega)) rfl fl_X3_55 dX3_grind_34 q0 ?_
  refine tv_istore (pc := 37) [(6, tm_i (T.1 : Int)), (5, tm_i (dd_p d 7 j)), (4, .ref (E.2.1 (63 + (k + 1)))), (0, .ref (E.2.1 57)), (1, .ref (E.2.1 29)), (2, tm_i a), (3, tm_i u)] C dX3_grind_37 (by decide) rfl ?_
  refine tv_sub (lv1 := [(6, tm_i (T.1 : Int)), (5, tm_i (dd_p d 7 j)), (4, .ref (E.2.1 (63 + (k + 1)))), (0, .ref (E.2.1 57)), (1, .ref (E.2.1 29)), (2, tm_i a), (3, tm_i u)]) [0, 1, 2, 3, 4, 5, 6] rfl ?_
  refine l_grind C d n1 hd (63 + (k + 1)) (by omega) (pd_k _ (by omega)) j u a hu hj h8 hs1.1 (hs1.2.2.1 j hj).1 (hs1.2.2.1 j hj).2.2.1 hbo.1 hbo.2.2.1 (gd_o (dd_p d) T j) _ ?_ 41 40 (T.1, T.2.1, T.2.2, dd_p d 7 j) _ _ n1 rfl rfl (by omega) (by omega) hbo.2.1.2 rfl ⟨hT.1, hT.2.1, hT.2.2, by show 0 ≤ dd_p d 7 j; omega⟩ q0 q1 q2 q3 (fun a _ => rfl)
  intro ν z r0 r1 r2 r3 hF hz
  refine ⟨z, rfl, ?_, ⟨r0, r1, r2, r3⟩, fun a ha => by rw [hF a ha]; exact hF1 a ha⟩
  rw [hz]
  unfold gd_p
  by_cases hc : (gd_o (dd_p d) T j).2.2.2 = 0 ∧ ((gd_o (dd_p d) T j).1 : Int) - 1 ≤ od_d (d 2) j
  · rw [if_pos hc, if_pos (decide_eq_true hc)]
  · rw [if_neg hc, if_neg (by rw [decide_eq_true_eq]; exact hc)]
theorem l_extend {E : tm_Ev} {X : tm_X} {f0 : Nat} (C : tm_C E X yX3_extend.cls cX3_extend 8 none (f0 + 5)) (d : tm_M) (hd : dd_ok d) (h8 : dd_n d ≤ 8) (k : Nat) (hk : k < dd_n d) (w : Nat → Int) (m0 : Int) (n1 : tm_M) (a b c : Int) (ha : a = k) (hb : b = ((mk_n w k : Nat) : Int)) (hc : c = pp_n d w k) (hs : cl_s n1 d) (hpf0 : pf_k (dd_n d) k w) (hrow : ∀ i, i < k → n1 59 i = w i) (hpd : n1 (63 + k) 0 = ((st_n d w k).1 : Int) ∧ n1 (63 + k) 1 = (st_n d w k).2.1 ∧ n1 (63 + k) 2 = (st_n d w k).2.2 ∧ (0 ≤ n1 (63 + k) 3 ∧ n1 (63 + k) 3 ≤ 100 * ((st_n d w k).1 : Int))) (htb : tb_p d n1 (k + 1) m0) (hch : ∀ (w1 : Nat → Int) (m1 : Int) (ν : tm_M) (a1 b1 c1 : Int), a1 = ((k + 1 : Nat) : Int) → b1 = ((mk_n w1 (k + 1) : Nat) : Int) → c1 = pp_n d w1 (k + 1) → xp_p d ν (k + 1) w1 m1 → tm_Met E X.2.1 yX3_extend cX3_extend 8 none (f0 + 4) [.ref (E.2.1 57), .ref (E.2.1 29), tm_i a1, tm_i b1, tm_i c1] ν (tm_pv (fun μ' => xq_p d ν μ' (k + 1) w1 m1))) (post : Option Value → tm_M → Prop) (hpost : ∀ (ν : tm_M) (m : Int), ν 57 5 = m → (-1 ≤ m ∧ m ≤ 72) → rs_p d m0 (n1 60) m (ν 60) (ex_k (dd_n d) k w) → td_p d n1 ν m → xf_p n1 ν k → post none ν) : ∀ (f j : Nat) (x m : Int) (ν : tm_M), x = j → j ≤ dd_n d → dd_n d - j < f → ν 57 5 = m → (-1 ≤ m ∧ m ≤ 72) → rs_p d m0 (n1 60) m (ν 60) (fun v => ex_k (dd_n d) k w v ∧ v k < ((j : Nat) : Int)) → td_p d n1 ν m → xf_p n1 ν k → tm_V E X (tm_Q E X post) 8 82 [(6, tm_i x), (5, .ref (E.2.1 23)), (0, .ref (E.2.1 57)), (1, .ref (E.2.1 29)), (2, tm_i a), (3, tm_i b), (4, tm_i c)] [] ν := by
  intro f
  induction f with
  | zero => intro j x m ν hx hj hf hm hmr hrs htd hxf; omega
  | succ f ih =>
    intro j x m ν hx hj hf hm hmr hrs htd hxf
    have hsv : cl_s ν d := cl_s_same hs (fun a ha => hxf.1 a (by omega))
    have hrv : ∀ i, i < k → ν 59 i = w i := fun i hi => by rw [hxf.2.1 i hi]; exact hrow i hi
    have hpv : ν (63 + k) 0 = ((st_n d w k).1 : Int) ∧ ν (63 + k) 1 = (st_n d w k).2.1 ∧ ν (63 + k) 2 = (st_n d w k).2.2 ∧ (0 ≤ ν (63 + k) 3 ∧ ν (63 + k) 3 ≤ 100 * ((st_n d w k).1 : Int)) := by rw [hxf.2.2 (63 + k) (by omega) (by omega)]; exact hpd
    have htv : tb_p d ν (k + 1) m := tb_td htb htd (rs_le hrs)
    have hmk := mk_ok h8 k hpf0
    have hT := st_T hd k hpf0
    have hpb := pp_bd hd hpf0 (by omega)
    refine tv_iload (pc := 82) 0 C dX3_extend_82 rfl ?_
    refine tv_aload (pc := 84) 1 C dX3_extend_84 rfl ?_
    refine tv_geti (pc := 86) (z := (dd_n d : Int)) C rfl rfl fl_X3_62 dX3_extend_86 hsv.2.1 ?_
    refine tv_icmp_ge (pc := 89) 159 C dX3_extend_89 (by decide) (by omega) (by omega) (fun h89 => ?_) (fun h89 => ?_)
    · skip
      refine tv_vret (pc := 159) C dX3_extend_159 ?_
      have hin : j = dd_n d := by omega
      subst hin
      exact hpost ν m hm hmr (rs_end hk hrs) htd hxf
    · skip
      have hbo := dd_o (d := d) (o := j) (by omega)
      refine tv_iload_n (pc := 92) 5 C dX3_extend_92 rfl rfl ?_
      refine tv_iload (pc := 93) 0 C dX3_extend_93 rfl ?_
      refine tv_ishr (pc := 95) (z := (((mk_n w k : Nat) : Int) / 2 ^ j)) C dX3_extend_95 (by rw [hb, hx]; exact tb_shr (by omega) (by omega)) ?_
      refine tv_iconst (pc := 96) C dX3_extend_96 ?_
      refine tv_iand (pc := 97) (z := (((mk_n w k : Nat) : Int) / 2 ^ j % 2)) C dX3_extend_97 (tb_and1 (by have q := Int.ediv_nonneg (a := ((mk_n w k : Nat) : Int)) (b := 2 ^ j) (by omega) (by have := (tb_pow (k := j) (by omega)).2; omega); have q2 := Int.ediv_le_self (a := ((mk_n w k : Nat) : Int)) (2 ^ j) (by omega); omega)) ?_
      refine tv_if_ne (pc := 98) 153 C dX3_extend_98 (by decide) (by omega) (fun h98 => ?_) (fun h98 => ?_)
      · skip
        have hbt : tb_t ((mk_n w k : Nat) : Int) j = true := by
          unfold tb_t
          rw [decide_eq_true_eq]
          omega
        refine tv_iinc (pc := 153) 0 [(6, tm_i (x + 1)), (5, .ref (E.2.1 23)), (0, .ref (E.2.1 57)), (1, .ref (E.2.1 29)), (2, tm_i a), (3, tm_i b), (4, tm_i c)] C dX3_extend_153 rfl (by decide) rfl ?_
        refine tv_goto (pc := 156) 82 C dX3_extend_156 (by decide) ?_
        refine tv_sub (lv1 := [(6, tm_i (x + 1)), (5, .ref (E.2.1 23)), (0, .ref (E.2.1 57)), (1, .ref (E.2.1 29)), (2, tm_i a), (3, tm_i b), (4, tm_i c)]) [0, 1, 2, 3, 4, 5, 6] rfl ?_
        obtain ⟨i, hi, hwi⟩ := (hmk.2.1 j (by omega)).mp hbt
        exact ih (j + 1) (x + 1) m ν (by omega) (by omega) (by omega) hm hmr (rs_skip hk hi hwi hrs) htd hxf
      · skip
        have hbt : ¬ tb_t ((mk_n w k : Nat) : Int) j = true := by
          unfold tb_t
          rw [decide_eq_true_eq]
          omega
        refine tv_aload_n (pc := 101) 2 C dX3_extend_101 rfl rfl ?_
        refine tv_getr (pc := 102) (q := 59) C rfl rfl fl_X3_17 dX3_extend_102 ?_
        refine tv_iload_n (pc := 105) 4 C dX3_extend_105 rfl rfl ?_
        refine tv_iload (pc := 106) 0 C dX3_extend_106 rfl ?_
        refine tv_iast (pc := 108) (j := k) C rfl dX3_extend_108 (by omega) (by omega) ?_
        refine tv_aload_n (pc := 109) 2 C dX3_extend_109 rfl rfl ?_
        refine tv_aload_n (pc := 110) 3 C dX3_extend_110 rfl rfl ?_
        refine tv_iload_n (pc := 111) 4 C dX3_extend_111 rfl rfl ?_
        refine tv_iload (pc := 112) 0 C dX3_extend_112 rfl ?_
        refine tv_callV (pc := 114) [.ref (E.2.1 29), tm_i a, tm_i x] [] C (c3_grind E _ (tm_up ν 59 k x) d hd (cl_s_same hsv (fun a ha => tm_uf (by omega))) k j a x ha (by omega) hx (by omega) h8 (st_n d w k) hT (by rw [tm_uk (by omega)]; exact hpv.1) (by rw [tm_uk (by omega)]; exact hpv.2.1) (by rw [tm_uk (by omega)]; exact hpv.2.2.1) (by rw [tm_uk (by omega)]; exact hpv.2.2.2)) cv_X3_77 rfl rfl (by omega) rfl (Nat.le_of_ble_eq_true rfl) rfl dX3_extend_114 (tm_ki ?_)
        rintro z2 n2 ⟨hz2, hp2, hF2⟩
        have hF3 : ∀ a, a ≠ (63 + (k + 1)) → a ≠ 59 → n2 a = ν a := fun a h1 h2 => by rw [hF2 a h1, tm_uf h2]
        have h592 : ∀ b, n2 59 b = if b = k then x else ν 59 b := fun b => by rw [hF2 59 (by omega), tm_ua]
        have hz01 : z2 = 0 ∨ z2 = 1 := by rw [hz2]; split <;> omega
        refine tv_istore (pc := 117) [(7, tm_i z2), (6, tm_i x), (5, .ref (E.2.1 23)), (0, .ref (E.2.1 57)), (1, .ref (E.2.1 29)), (2, tm_i a), (3, tm_i b), (4, tm_i c)] C dX3_extend_117 (by decide) rfl ?_
        have hno : ∀ i, i < k → ¬ w i = (j : Int) := fun i hi q => hbt ((hmk.2.1 j (by omega)).mpr ⟨i, hi, q⟩)
        have hpf := wu_pf (o := j) hpf0 (by omega) hno
        have hxp : xp_p d n2 (k + 1) (w_up w k j) m := by
          refine ⟨cl_s_same hsv (fun a ha => hF3 a (by omega) (by omega)), by omega, hpf, fun i hi => ?_, by rw [wu_st]; exact hp2, by rw [hF3 57 (by omega) (by omega)]; exact hm, hmr, ?_⟩
          · rw [h592]
            by_cases hik : i = k
            · rw [if_pos hik, hik, wu_k]; exact hx
            · rw [if_neg hik, wu_lo (by omega)]; exact hrv i (by omega)
          · intro e he
            rw [hF3 61 (by omega) (by omega), hF3 62 (by omega) (by omega)]
            exact htv e he
        refine tv_aload_n (pc := 119) 3 C dX3_extend_119 rfl rfl ?_
        refine tv_aload_n (pc := 120) 4 C dX3_extend_120 rfl rfl ?_
        refine tv_iload_n (pc := 121) 5 C dX3_extend_121 rfl rfl ?_
        refine tv_iconst (pc := 122) C dX3_extend_122 ?_
        refine tv_iadd (pc := 123) C dX3_extend_123 ?_
        refine tv_iload_n (pc := 124) 6 C dX3_extend_124 rfl rfl ?_
        refine tv_iconst (pc := 125) C dX3_extend_125 ?_
        refine tv_iload (pc := 126) 1 C dX3_extend_126 rfl ?_
        refine tv_ishl (pc := 128) (z := (2 ^ j)) C dX3_extend_128 (by rw [hx]; exact tb_shl (by omega)) ?_
        refine tv_ior (pc := 129) (z := ((mk_n w k + 2 ^ j : Nat) : Int)) C dX3_extend_129 (by rw [hb]; exact (mk_add (mk_n w k) j hmk.1 (by omega) hbt).2.2) ?_
        refine tv_iload (pc := 130) 7 C dX3_extend_130 rfl ?_
        refine tv_iload (pc := 132) 0 C dX3_extend_132 rfl ?_
        refine tv_if_eq (pc := 134) 148 C dX3_extend_134 (by decide) (by omega) (fun h134 => ?_) (fun h134 => ?_)
        · skip
          refine tv_iconst (pc := 148) C dX3_extend_148 ?_
          refine tv_iadd (pc := 149) C dX3_extend_149 ?_
          refine tv_callS (pc := 150) [.ref (E.2.1 57), .ref (E.2.1 29), tm_i (a + 1), tm_i ((mk_n w k + 2 ^ j : Nat) : Int), tm_i (c + 0)] [] C (hch (w_up w k j) m n2 _ _ _ (by omega) (by rw [wu_mk]) (by rw [wu_pp, hc, if_neg (by intro q; rw [if_pos q] at hz2; omega)]) hxp) cs_X3_45 (by omega) rfl (Nat.le_of_ble_eq_true rfl) rfl dX3_extend_150 (tm_kv ?_)
          rintro n3 ⟨m3, t1, t2, t3, t4, t5⟩
          have hF4 : ∀ a, a < 57 ∨ 71 < a → n3 a = ν a := fun a ha => by rw [t5.1 a ha, hF3 a (by omega) (by omega)]
          refine tv_iinc (pc := 153) 1 [(6, tm_i (x + 1)), (7, tm_i z2), (5, .ref (E.2.1 23)), (0, .ref (E.2.1 57)), (1, .ref (E.2.1 29)), (2, tm_i a), (3, tm_i b), (4, tm_i c)] C dX3_extend_153 rfl (by decide) rfl ?_
          refine tv_goto (pc := 156) 82 C dX3_extend_156 (by decide) ?_
          refine tv_sub (lv1 := [(6, tm_i (x + 1)), (5, .ref (E.2.1 23)), (0, .ref (E.2.1 57)), (1, .ref (E.2.1 29)), (2, tm_i a), (3, tm_i b), (4, tm_i c)]) [0, 2, 3, 4, 5, 6, 7] rfl ?_
          have hsv3 : xf_p ν n3 k := by
            refine ⟨hF4, fun i hi => ?_, fun a h1 h2 => ?_⟩
            · rw [t5.2.1 i (by omega), h592, if_neg (by omega)]
            · rw [t5.2.2 a h1 (by omega), hF3 a (by omega) (by omega)]
          rw [hF3 60 (by omega) (by omega)] at t3
          exact ih (j + 1) (x + 1) m3 n3 (by omega) (by omega) (by omega) t1 t2 (rs_seq hk (fun i hi => wu_lo hi) wu_k hrs t3) (td_tr htd (td_tr (td_same (hF3 61 (by omega) (by omega)) (hF3 62 (by omega) (by omega))) t4 (rs_le t3)) (rs_le t3)) (xf_tr hxf hsv3)
        · skip
          refine tv_aload (pc := 137) 2 C dX3_extend_137 rfl ?_
          refine tv_getr (pc := 139) (q := 27) C rfl rfl fl_X3_81 dX3_extend_139 ?_
          refine tv_iload (pc := 142) 1 C dX3_extend_142 rfl ?_
          refine tv_iald (pc := 144) (j := j) (z := od_p (d 2) j) C rfl dX3_extend_144 (by omega) (by omega) ((congrFun (hF3 27 (by omega) (by omega)) j).trans (hsv.2.2.1 j (by omega)).2.2.2) ?_
          refine tv_goto (pc := 145) 149 C dX3_extend_145 (by decide) ?_
          refine tv_iadd (pc := 149) C dX3_extend_149 ?_
          refine tv_callS (pc := 150) [.ref (E.2.1 57), .ref (E.2.1 29), tm_i (a + 1), tm_i ((mk_n w k + 2 ^ j : Nat) : Int), tm_i (c + (od_p (d 2) j))] [] C (hch (w_up w k j) m n2 _ _ _ (by omega) (by rw [wu_mk]) (by rw [wu_pp, hc, if_pos (by by_cases q : gd_p d (st_n d w k) j = true; exact q; rw [if_neg q] at hz2; omega)]) hxp) cs_X3_45 (by omega) rfl (Nat.le_of_ble_eq_true rfl) rfl dX3_extend_150 (tm_kv ?_)
          rintro n3 ⟨m3, t1, t2, t3, t4, t5⟩
          have hF4 : ∀ a, a < 57 ∨ 71 < a → n3 a = ν a := fun a ha => by rw [t5.1 a ha, hF3 a (by omega) (by omega)]
          refine tv_iinc (pc := 153) 1 [(6, tm_i (x + 1)), (7, tm_i z2), (5, .ref (E.2.1 23)), (0, .ref (E.2.1 57)), (1, .ref (E.2.1 29)), (2, tm_i a), (3, tm_i b), (4, tm_i c)] C dX3_extend_153 rfl (by decide) rfl ?_
          refine tv_goto (pc := 156) 82 C dX3_extend_156 (by decide) ?_
          refine tv_sub (lv1 := [(6, tm_i (x + 1)), (5, .ref (E.2.1 23)), (0, .ref (E.2.1 57)), (1, .ref (E.2.1 29)), (2, tm_i a), (3, tm_i b), (4, tm_i c)]) [0, 2, 3, 4, 5, 6, 7] rfl ?_
          have hsv3 : xf_p ν n3 k := by
            refine ⟨hF4, fun i hi => ?_, fun a h1 h2 => ?_⟩
            · rw [t5.2.1 i (by omega), h592, if_neg (by omega)]
            · rw [t5.2.2 a h1 (by omega), hF3 a (by omega) (by omega)]
          rw [hF3 60 (by omega) (by omega)] at t3
          exact ih (j + 1) (x + 1) m3 n3 (by omega) (by omega) (by omega) t1 t2 (rs_seq hk (fun i hi => wu_lo hi) wu_k hrs t3) (td_tr htd (td_tr (td_same (hF3 61 (by omega) (by omega)) (hF3 62 (by omega) (by omega))) t4 (rs_le t3)) (rs_le t3)) (xf_tr hxf hsv3)
theorem c3_extend (E : tm_Ev) (l : Launch) (d : tm_M) (hd : dd_ok d) (h8 : dd_n d ≤ 8) : ∀ (f0 k : Nat) (w : Nat → Int) (m : Int) (μ : tm_M) (a b c : Int), dd_n d - k < f0 → a = ((k : Nat) : Int) → b = ((mk_n w k : Nat) : Int) → c = pp_n d w k → xp_p d μ k w m → tm_Met E l yX3_extend cX3_extend 8 none (f0 + 4) [.ref (E.2.1 57), .ref (E.2.1 29), tm_i a, tm_i b, tm_i c] μ (tm_pv (fun μ' => xq_p d μ μ' k w m)) := by
  intro f0
  induction f0 with
  | zero => intro k w m μ a b c hf; omega
  | succ f0 ih =>
    intro k w m μ a b c hf ha hb hc hx
    refine tm_intro [(0, .ref (E.2.1 57)), (1, .ref (E.2.1 29)), (2, tm_i a), (3, tm_i b), (4, tm_i c)] rfl (by decide +kernel) (Nat.le_of_ble_eq_true rfl) ?_
    intro X hX C
    have C : tm_C E X yX3_extend.cls cX3_extend 8 none (f0 + 5) := by rw [show f0 + 5 = f0 + 1 + 4 by omega]; exact C
    subst hX
    have hk := hx.2.1
    have hmk := mk_ok h8 k hx.2.2.1
    have hT := st_T hd k hx.2.2.1
    have hT1 := hT.1
    have hpb := pp_bd hd hx.2.2.1 hk
    have hmr := hx.2.2.2.2.2.2.1
    have hhb : 0 ≤ hp_n d ((st_n d w k).1 : Int) (mk_n w k) ∧ hp_n d ((st_n d w k).1 : Int) (mk_n w k) ≤ 72 := hp_bd hd _ _ (Nat.le_refl _)
    refine tv_aload_n (pc := 0) 1 C dX3_extend_0 rfl rfl ?_
    refine tv_getr (pc := 1) (q := 23) C rfl rfl fl_X3_49 dX3_extend_1 ?_
    refine tv_astore (pc := 4) [(5, .ref (E.2.1 23)), (0, .ref (E.2.1 57)), (1, .ref (E.2.1 29)), (2, tm_i a), (3, tm_i b), (4, tm_i c)] C dX3_extend_4 (by decide) rfl ?_
    refine tv_iload (pc := 6) 5 C dX3_extend_6 rfl ?_
    refine tv_aload (pc := 8) 0 C dX3_extend_8 rfl ?_
    refine tv_aload_n (pc := 10) 1 C dX3_extend_10 rfl rfl ?_
    refine tv_getr (pc := 11) (q := 58) C rfl rfl fl_X3_11 dX3_extend_11 ?_
    refine tv_iload_n (pc := 14) 3 C dX3_extend_14 rfl rfl ?_
    refine tv_aald (pc := 15) (q := (63 + k)) (j := k) RX4 C rfl rfl dX3_extend_15 (by omega) (by omega) (pd_q _ (by omega)) ?_
    refine tv_geti (pc := 16) (z := ((st_n d w k).1 : Int)) C (pd_k _ (by omega)) rfl fl_X3_55 dX3_extend_16 hx.2.2.2.2.1.1 ?_
    refine tv_iload_n (pc := 19) 4 C dX3_extend_19 rfl rfl ?_
    refine tv_callS (pc := 20) [.ref (E.2.1 23), tm_i ((st_n d w k).1 : Int), tm_i b] [tm_i c] C (c3_hope E _ μ d hd h8 ((st_n d w k).1 : Int) b (mk_n w k) hb hmk.1 (by omega) hx.1.2.1 (fun o ho => ⟨(hx.1.2.2.1 o ho).2.1, (hx.1.2.2.1 o ho).2.2.1, (hx.1.2.2.1 o ho).2.2.2⟩)) cs_X3_58 (by omega) rfl (Nat.le_of_ble_eq_true rfl) rfl dX3_extend_20 (tm_kp ?_)
    refine tv_iadd (pc := 23) C dX3_extend_23 ?_
    refine tv_aload_n (pc := 24) 1 C dX3_extend_24 rfl rfl ?_
    refine tv_geti (pc := 25) (z := m) C rfl rfl fl_X3_31 dX3_extend_25 hx.2.2.2.2.2.1 ?_
    refine tv_icmp_gt (pc := 28) 32 C dX3_extend_28 (by decide) (by omega) (by omega) (fun h28 => ?_) (fun h28 => ?_)
    · skip
      refine tv_iload_n (pc := 32) 3 C dX3_extend_32 rfl rfl ?_
      refine tv_aload (pc := 33) 0 C dX3_extend_33 rfl ?_
      refine tv_geti (pc := 35) (z := (dd_n d : Int)) C rfl rfl fl_X3_62 dX3_extend_35 hx.1.2.1 ?_
      refine tv_icmp_lt (pc := 38) 62 C dX3_extend_38 (by decide) (by omega) (by omega) (fun h38 => ?_) (fun h38 => ?_)
      · skip
        refine tv_aload_n (pc := 62) 1 C dX3_extend_62 rfl rfl ?_
        refine tv_aload_n (pc := 63) 1 C dX3_extend_63 rfl rfl ?_
        refine tv_getr (pc := 64) (q := 58) C rfl rfl fl_X3_11 dX3_extend_64 ?_
        refine tv_iload_n (pc := 67) 3 C dX3_extend_67 rfl rfl ?_
        refine tv_aald (pc := 68) (q := (63 + k)) (j := k) RX4 C rfl rfl dX3_extend_68 (by omega) (by omega) (pd_q _ (by omega)) ?_
        refine tv_iload_n (pc := 69) 4 C dX3_extend_69 rfl rfl ?_
        refine tv_iload (pc := 70) 5 C dX3_extend_70 rfl ?_
        refine tv_callV (pc := 72) [.ref (E.2.1 (63 + k)), tm_i b, tm_i c] [] C (c3_reached E _ μ d (63 + k) (pd_k _ (by omega)) k (mk_n w k) m b c (st_n d w k) hb hmk.1 hT hx.2.2.2.2.1.1 hx.2.2.2.2.1.2.1 hx.2.2.2.2.1.2.2.1 (by omega) hx.2.2.2.2.2.2.2) cv_X3_73 rfl rfl (by omega) rfl (Nat.le_of_ble_eq_true rfl) rfl dX3_extend_72 (tm_ki ?_)
        rintro zz n1 (⟨hz, hn1, hh1, hh2⟩ | ⟨hz, hn1⟩)
        · skip
          have hn1 := hn1.symm
          subst hn1
          refine tv_if_eq (pc := 75) 79 C dX3_extend_75 (by decide) (by omega) (fun h75 => ?_) (fun h75 => ?_)
          · skip
            exfalso; omega
          · skip
            refine tv_vret (pc := 78) C dX3_extend_78 ?_
            exact ⟨rfl, m, hx.2.2.2.2.2.1, hx.2.2.2.2.2.2.1, rs_none (fun _ _ => rfl) (fun v hv => cp_hit hd hx.2.2.1 hx.2.1 hx.2.2.2.2.2.2.2 (a := (cd_n (mk_n w k) (st_n d w k) % 1021).toNat) (by have := cd_bd hmk.1 hT; omega) hh1 (by rw [← hc]; exact hh2) v hv), td_rf d μ m, xf_rf μ k⟩
        · skip
          skip
          refine tv_if_eq (pc := 75) 79 C dX3_extend_75 (by decide) (by omega) (fun h75 => ?_) (fun h75 => ?_)
          · skip
            refine tv_iconst (pc := 79) C dX3_extend_79 ?_
            refine tv_istore (pc := 80) [(6, tm_i 0), (5, .ref (E.2.1 23)), (0, .ref (E.2.1 57)), (1, .ref (E.2.1 29)), (2, tm_i a), (3, tm_i b), (4, tm_i c)] C dX3_extend_80 (by decide) rfl ?_
            refine tv_sub (lv1 := [(6, tm_i 0), (5, .ref (E.2.1 23)), (0, .ref (E.2.1 57)), (1, .ref (E.2.1 29)), (2, tm_i a), (3, tm_i b), (4, tm_i c)]) [0, 1, 2, 3, 4, 5, 6] rfl ?_
            have f1 : ∀ a, a ≠ 61 → a ≠ 62 → n1 a = μ a := fun a h1 h2 => by rw [hn1, tm_uf h2, tm_uf h1]
            have e61 : ∀ b, n1 61 b = if b = (cd_n (mk_n w k) (st_n d w k) % 1021).toNat then cd_n (mk_n w k) (st_n d w k) else μ 61 b := fun b => by rw [hn1, tm_uk (by decide), tm_ua]
            have e62 : ∀ b, n1 62 b = if b = (cd_n (mk_n w k) (st_n d w k) % 1021).toNat then pp_n d w k else μ 62 b := fun b => by rw [hn1, tm_ua, hc, tm_uf (by decide)]
            have hx1 : xf_p μ n1 k := ⟨fun a ha => f1 a (by omega) (by omega), fun i hi => by rw [f1 59 (by omega) (by omega)], fun a h1 h2 => f1 a (by omega) (by omega)⟩
            refine l_extend C d hd h8 k (by omega) w m n1 a b c ha hb hc (cl_s_same hx.1 (fun a ha => f1 a (by omega) (by omega))) hx.2.2.1 (by rw [f1 59 (by omega) (by omega)]; exact hx.2.2.2.1) (by rw [f1 (63 + k) (by omega) (by omega)]; exact hx.2.2.2.2.1) (tb_own hd hx.2.2.1 hx.2.1 hx.2.2.2.2.2.2.2 e61 e62) (fun w1 m1 ν a1 b1 c1 h1 h2 h3 h4 => ih (k + 1) w1 m1 ν a1 b1 c1 (by omega) h1 h2 h3 h4) _ ?_ (dd_n d + 1) 0 0 m n1 rfl (by omega) (by omega) (by rw [f1 57 (by omega) (by omega)]; exact hx.2.2.2.2.2.1) hx.2.2.2.2.2.2.1 (rs_beg (by omega) (fun i hi => rfl)) (td_rf d n1 m) (xf_rf n1 k)
            intro ν m1 q1 q2 q3 q4 q5
            refine ⟨rfl, m1, q1, q2, ?_, td_node hd hx.2.2.1 hx.2.1 q4 e61 e62 (fun v hv => rs_all q3 v hv), xf_tr hx1 q5⟩
            rw [← f1 60 (by omega) (by omega)]
            exact q3
          · skip
            exfalso; omega
      · skip
        refine tv_aload_n (pc := 41) 1 C dX3_extend_41 rfl rfl ?_
        refine tv_iload (pc := 42) 5 C dX3_extend_42 rfl ?_
        refine tv_puti (pc := 44) C rfl rfl fp_X3_31 dX3_extend_44 ?_
        refine tv_aload_n (pc := 47) 1 C dX3_extend_47 rfl rfl ?_
        refine tv_getr (pc := 48) (q := 59) C rfl rfl fl_X3_17 dX3_extend_48 ?_
        refine tv_iconst (pc := 51) C dX3_extend_51 ?_
        refine tv_aload_n (pc := 52) 1 C dX3_extend_52 rfl rfl ?_
        refine tv_getr (pc := 53) (q := 60) C rfl rfl fl_X3_21 dX3_extend_53 ?_
        refine tv_iconst (pc := 56) C dX3_extend_56 ?_
        refine tv_iload_n (pc := 57) 3 C dX3_extend_57 rfl rfl ?_
        refine tv_acopy (pc := 58) (sp' := 0) (dp' := 0) (n' := k) C ac_X3_67 rfl rfl (by omega) rfl rfl (by omega) (Nat.le_of_ble_eq_true rfl) dX3_extend_58 ?_
        refine tv_vret (pc := 61) C dX3_extend_61 ?_
        have hkn : k = dd_n d := by omega
        have hrw : rw_pm (dd_n d) w := by
          have q := hx.2.2.1
          rw [hkn] at q
          exact q
        have hp0 := hp_0 hd hrw ((st_n d w k).1 : Int)
        rw [← hkn] at hp0
        refine ⟨rfl, c, ?_, by omega, ?_, td_same (by rw [tm_cp_f (by decide), tm_uf (by decide)]) (by rw [tm_cp_f (by decide), tm_uf (by decide)]), ⟨fun a ha => by rw [tm_cp_f (by omega), tm_uf (by omega)], fun i hi => by rw [tm_cp_k (by decide), tm_uk (by decide)], fun a h1 h2 => by rw [tm_cp_f (by omega), tm_uf (by omega)]⟩⟩
        · rw [tm_cp_k (by decide), tm_us]
        · rw [hc, hkn]
          refine rs_leaf hrw (fun i hi => ?_) (by rw [← hkn, ← hc]; omega)
          rw [tm_cp_in hi, tm_uk (by decide)]
          exact hx.2.2.2.1 i (by omega)
    · skip
      refine tv_vret (pc := 31) C dX3_extend_31 ?_
      exact ⟨rfl, m, hx.2.2.2.2.2.1, hx.2.2.2.2.2.2.1, rs_none (fun _ _ => rfl) (fun v hv => ex_hope hd hx.2.1 (by rw [← hc]; omega) hv), td_rf d μ m, xf_rf μ k⟩
theorem c3_look (E : tm_Ev) (l : Launch) (μ : tm_M) (d : tm_M) (hd : dd_ok d) (h8 : dd_n d ≤ 8) (hs : cl_s μ d) : tm_Met E l yX3_look cX3_look 2 none 14 [.ref (E.2.1 57), .ref (E.2.1 29)] μ (tm_pv (fun μ' => rw_b d (μ' 57 5) (μ' 60) ∧ ∀ a, a < 57 ∨ 71 < a → μ' a = μ a)) := by
  refine tm_intro [(0, .ref (E.2.1 57)), (1, .ref (E.2.1 29))] rfl (by decide +kernel) (Nat.le_of_ble_eq_true rfl) ?_
  intro X hX C
  subst hX
  refine tv_aload_n (pc := 0) 0 C dX3_look_0 rfl rfl ?_
  refine tv_iconst (pc := 1) C dX3_look_1 ?_
  refine tv_puti (pc := 2) C rfl rfl fp_X3_31 dX3_look_2 ?_
  refine tv_aload_n (pc := 5) 0 C dX3_look_5 rfl rfl ?_
  refine tv_getr (pc := 6) (q := 61) C rfl rfl fl_X3_24 dX3_look_6 ?_
  refine tv_iconst (pc := 9) C dX3_look_9 ?_
  refine tv_callS (pc := 10) [.ref (E.2.1 61), tm_i (-1)] [] C (cJ_fill E _ (tm_up μ 57 5 (-1)) 61 1021 (-1) rfl) cs_X3_35 (by decide) rfl (Nat.le_of_ble_eq_true rfl) rfl dX3_look_10 (tm_kv ?_)
  rintro n1 hn1
  have hF1 : ∀ a, a ≠ 57 → a ≠ 61 → n1 a = μ a := fun a h1 h2 => by rw [hn1, tm_fill_f h2, tm_uf h1]
  refine tv_aload_n (pc := 13) 0 C dX3_look_13 rfl rfl ?_
  refine tv_getr (pc := 14) (q := 58) C rfl rfl fl_X3_11 dX3_look_14 ?_
  refine tv_iconst (pc := 17) C dX3_look_17 ?_
  refine tv_aald (pc := 18) (q := 63) (j := 0) RX4 C rfl rfl dX3_look_18 (by omega) rfl rfl ?_
  refine tv_aload_n (pc := 19) 1 C dX3_look_19 rfl rfl ?_
  refine tv_callV (pc := 20) [.ref (E.2.1 29)] [] C (c4_begin_a E _ n1 63 (by omega) rfl) cv_X3_41 rfl rfl (by decide) rfl (Nat.le_of_ble_eq_true rfl) rfl dX3_look_20 (tm_kv ?_)
  rintro n2 hn2
  have hF2 : ∀ a, a ≠ 57 → a ≠ 61 → a ≠ 63 → n2 a = μ a := fun a h1 h2 h3 => by rw [hn2, tm_pd_f h3, hF1 a h1 h2]
  have hxp : xp_p d n2 0 (fun _ => 0) (-1) := by
    refine ⟨cl_s_same hs (fun a ha => hF2 a (by omega) (by omega) (by omega)), by omega, ⟨fun j hj => by omega, fun i j hi => by omega⟩, fun i hi => by omega, ⟨by rw [hn2]; exact tm_pd_0, ?_, by rw [hn2]; exact tm_pd_2, ?_⟩, ?_, by omega, fun e he => ?_⟩
    · rw [hn2]
      refine tm_pd_1.trans ?_
      rw [hF1 30 (by omega) (by omega)]
      exact hs.1.1 0 (by omega)
    · rw [hn2, show tm_pd n1 63 0 (n1 30 0) 0 0 (63 + 0) 3 = 0 from tm_pd_3]; exact ⟨Int.le_refl _, by show (0 : Int) ≤ 100 * ((0 : Nat) : Int); omega⟩
    · rw [hn2, tm_pd_f (by decide), hn1, tm_fill_k (by decide), tm_us]
    · have q : n2 61 e = -1 := by rw [hn2, tm_pd_f (by decide), hn1, tm_fill_in he]
      rw [q]
      exact ⟨by omega, Or.inl rfl⟩
  refine tv_aload_n (pc := 23) 0 C dX3_look_23 rfl rfl ?_
  refine tv_aload_n (pc := 24) 1 C dX3_look_24 rfl rfl ?_
  refine tv_iconst (pc := 25) C dX3_look_25 ?_
  refine tv_iconst (pc := 26) C dX3_look_26 ?_
  refine tv_iconst (pc := 27) C dX3_look_27 ?_
  refine tv_callS (pc := 28) [.ref (E.2.1 57), .ref (E.2.1 29), tm_i 0, tm_i 0, tm_i 0] [] C (c3_extend E _ d hd h8 9 0 (fun _ => 0) (-1) n2 0 0 0 (by omega) rfl rfl rfl hxp) cs_X3_45 (by decide) rfl (Nat.le_of_ble_eq_true rfl) rfl dX3_look_28 (tm_kv ?_)
  rintro n3 ⟨m1, q1, q2, q3, q4, q5⟩
  refine tv_vret (pc := 31) C dX3_look_31 ?_
  exact ⟨rfl, by rw [q1]; exact rs_b hd q3, fun a ha => by rw [q5.1 a ha, hF2 a (by omega) (by omega) (by omega)]⟩
