theorem cl_like (μ : tm_M) (z : Int) (hz : z = μ 29 6) : ∀ ν, ν = tm_up (tm_cp (tm_cp (tm_cp (tm_cp (tm_cp μ 30 44 0 0 5) 31 45 0 0 40) 32 46 0 0 40) 33 47 0 0 40) 34 48 0 0 8) 43 6 z → (∀ p, sm_ag (sm_p μ 29) p → sm_ok p → sm_ag (sm_p ν 43) p) ∧ ∀ a, ¬ (43 ≤ a ∧ a ≤ 48) → ν a = μ a := by
  intro ν hν
  have e0 : ∀ j, j < 5 → ν 44 j = μ 30 j := fun j hj => by rw [hν, tm_uk (by decide), tm_cp_k (by decide), tm_cp_k (by decide), tm_cp_k (by decide), tm_cp_k (by decide), tm_cp_in hj]
  have e1 : ∀ j, j < 40 → ν 45 j = μ 31 j := fun j hj => by rw [hν, tm_uk (by decide), tm_cp_k (by decide), tm_cp_k (by decide), tm_cp_k (by decide), tm_cp_in hj, tm_cp_k (by decide)]
  have e2 : ∀ j, j < 40 → ν 46 j = μ 32 j := fun j hj => by rw [hν, tm_uk (by decide), tm_cp_k (by decide), tm_cp_k (by decide), tm_cp_in hj, tm_cp_k (by decide), tm_cp_k (by decide)]
  have e3 : ∀ j, j < 40 → ν 47 j = μ 33 j := fun j hj => by rw [hν, tm_uk (by decide), tm_cp_k (by decide), tm_cp_in hj, tm_cp_k (by decide), tm_cp_k (by decide), tm_cp_k (by decide)]
  have e4 : ∀ j, j < 8 → ν 48 j = μ 34 j := fun j hj => by rw [hν, tm_uk (by decide), tm_cp_in hj, tm_cp_k (by decide), tm_cp_k (by decide), tm_cp_k (by decide), tm_cp_k (by decide)]
  have e5 : ν 43 6 = μ 29 6 := by rw [hν, tm_us, hz]
  have fr : ∀ a, ¬ (43 ≤ a ∧ a ≤ 48) → ν a = μ a := fun a ha => by rw [hν, tm_uf (by omega), tm_cp_f (by omega), tm_cp_f (by omega), tm_cp_f (by omega), tm_cp_f (by omega), tm_cp_f (by omega)]
  refine ⟨fun p hp hok => ?_, fr⟩
  obtain ⟨h0, h1, h5, h4⟩ := hp
  have h9 := hok.2.2.2.2.2.2.2.2.1
  refine ⟨fun j hj => (e0 j hj).trans (h0 j hj), fun h hh => ⟨(e1 h hh).trans (h1 h hh).1, (e2 h hh).trans (h1 h hh).2.1, (e3 h hh).trans (h1 h hh).2.2⟩, e5.trans h5, fun q hq => ?_⟩
  have hq2 : (q : Int) < μ 29 6 := by rw [← e5]; exact hq
  have h5' : μ 29 6 = p 5 0 := h5
  have e4q : sm_p ν 43 4 q = sm_p μ 29 4 q := e4 q (by omega)
  rw [e4q]
  have e6 : sm_p ν 43 6 = sm_p μ 29 6 := by funext b; show ν 24 b = μ 24 b; rw [fr 24 (by omega)]
  have e7 : sm_p ν 43 7 = sm_p μ 29 7 := by funext b; show ν 25 b = μ 25 b; rw [fr 25 (by omega)]
  rw [e6, e7]
  exact h4 q hq2
theorem ag_dial {ν p : tm_M} (h : sm_ag (sm_p ν 43) p) (j : Nat) (v : Int) : sm_ag (sm_p (tm_up ν 44 j v) 43) (tm_up p 0 j v) := by
  have e : sm_p (tm_up ν 44 j v) 43 = tm_up (sm_p ν 43) 0 j v := sm_p_up ν (c := 0) (by omega) j v
  rw [e]; exact sm_ag_up h (by omega) j v
theorem ag_rain {ν p : tm_M} (h : sm_ag (sm_p ν 43) p) (j : Nat) (v : Int) : sm_ag (sm_p (tm_up ν 46 j v) 43) (tm_up p 2 j v) := by
  have e : sm_p (tm_up ν 46 j v) 43 = tm_up (sm_p ν 43) 2 j v := sm_p_up ν (c := 2) (by omega) j v
  rw [e]; exact sm_ag_up h (by omega) j v
theorem ag_dress {ν p : tm_M} (h : sm_ag (sm_p ν 43) p) (j : Nat) (v : Int) : sm_ag (sm_p (tm_up ν 47 j v) 43) (tm_up p 3 j v) := by
  have e : sm_p (tm_up ν 47 j v) 43 = tm_up (sm_p ν 43) 3 j v := sm_p_up ν (c := 3) (by omega) j v
  rw [e]; exact sm_ag_up h (by omega) j v
theorem ag_sea {ν p : tm_M} (h : sm_ag (sm_p ν 43) p) (g : Nat → Int) : sm_ag (sm_p (tm_rowf ν 45 40 g) 43) (tm_rowf p 1 40 g) := by
  have e : sm_p (tm_rowf ν 45 40 g) 43 = tm_rowf (sm_p ν 43) 1 40 g := sm_p_row ν (c := 1) (by omega) g
  rw [e]; exact sm_ag_row h (by omega) g
theorem ag_di {ν d : tm_M} {j : Nat} {v0 : Int} (h : sm_ag (sm_p ν 43) (di_p d j v0)) (v : Int) : sm_ag (sm_p (tm_up ν 44 j v) 43) (di_p d j v) := by
  have q := ag_dial h j v
  unfold di_p at q
  rw [tm_uu] at q
  exact q
theorem di_id (d : tm_M) (j : Nat) : di_p d j (dd_p d 0 j) = dd_p d := tm_id rfl
theorem c0_like (E : tm_Ev) (l : Launch) (μ : tm_M)  : tm_Met E l yX0_becomeLike cX0_becomeLike 2 none 1 [.ref (E.2.1 43), .ref (E.2.1 29)] μ (tm_pv (fun μ' => (∀ p, sm_ag (sm_p μ 29) p → sm_ok p → sm_ag (sm_p μ' 43) p) ∧ ∀ a, ¬ (43 ≤ a ∧ a ≤ 48) → μ' a = μ a)) := by
  refine tm_intro [(0, .ref (E.2.1 43)), (1, .ref (E.2.1 29))] rfl (by decide +kernel) (Nat.le_of_ble_eq_true rfl) ?_
  intro X hX C
  subst hX
  refine tv_aload_n (pc := 0) 1 C dX0_becomeLike_0 rfl rfl ?_
  refine tv_getr (pc := 1) (q := 30) C rfl rfl fl_X0_9 dX0_becomeLike_1 ?_
  refine tv_iconst (pc := 4) C dX0_becomeLike_4 ?_
  refine tv_aload_n (pc := 5) 0 C dX0_becomeLike_5 rfl rfl ?_
  refine tv_getr (pc := 6) (q := 44) C rfl rfl fl_X0_9 dX0_becomeLike_6 ?_
  refine tv_iconst (pc := 9) C dX0_becomeLike_9 ?_
  refine tv_iconst (pc := 10) C dX0_becomeLike_10 ?_
  refine tv_acopy (pc := 11) (sp' := 0) (dp' := 0) (n' := 5) C ac_X0_44 rfl rfl (by omega) rfl rfl rfl (Nat.le_of_ble_eq_true rfl) dX0_becomeLike_11 ?_
  refine tv_aload_n (pc := 14) 1 C dX0_becomeLike_14 rfl rfl ?_
  refine tv_getr (pc := 15) (q := 31) C rfl rfl fl_X0_15 dX0_becomeLike_15 ?_
  refine tv_iconst (pc := 18) C dX0_becomeLike_18 ?_
  refine tv_aload_n (pc := 19) 0 C dX0_becomeLike_19 rfl rfl ?_
  refine tv_getr (pc := 20) (q := 45) C rfl rfl fl_X0_15 dX0_becomeLike_20 ?_
  refine tv_iconst (pc := 23) C dX0_becomeLike_23 ?_
  refine tv_bipush (pc := 24) C dX0_becomeLike_24 (by decide) ?_
  refine tv_acopy (pc := 26) (sp' := 0) (dp' := 0) (n' := 40) C ac_X0_44 rfl rfl (by omega) rfl rfl rfl (Nat.le_of_ble_eq_true rfl) dX0_becomeLike_26 ?_
  refine tv_aload_n (pc := 29) 1 C dX0_becomeLike_29 rfl rfl ?_
  refine tv_getr (pc := 30) (q := 32) C rfl rfl fl_X0_18 dX0_becomeLike_30 ?_
  refine tv_iconst (pc := 33) C dX0_becomeLike_33 ?_
  refine tv_aload_n (pc := 34) 0 C dX0_becomeLike_34 rfl rfl ?_
  refine tv_getr (pc := 35) (q := 46) C rfl rfl fl_X0_18 dX0_becomeLike_35 ?_
  refine tv_iconst (pc := 38) C dX0_becomeLike_38 ?_
  refine tv_bipush (pc := 39) C dX0_becomeLike_39 (by decide) ?_
  refine tv_acopy (pc := 41) (sp' := 0) (dp' := 0) (n' := 40) C ac_X0_44 rfl rfl (by omega) rfl rfl rfl (Nat.le_of_ble_eq_true rfl) dX0_becomeLike_41 ?_
  refine tv_aload_n (pc := 44) 1 C dX0_becomeLike_44 rfl rfl ?_
  refine tv_getr (pc := 45) (q := 33) C rfl rfl fl_X0_21 dX0_becomeLike_45 ?_
  refine tv_iconst (pc := 48) C dX0_becomeLike_48 ?_
  refine tv_aload_n (pc := 49) 0 C dX0_becomeLike_49 rfl rfl ?_
  refine tv_getr (pc := 50) (q := 47) C rfl rfl fl_X0_21 dX0_becomeLike_50 ?_
  refine tv_iconst (pc := 53) C dX0_becomeLike_53 ?_
  refine tv_bipush (pc := 54) C dX0_becomeLike_54 (by decide) ?_
  refine tv_acopy (pc := 56) (sp' := 0) (dp' := 0) (n' := 40) C ac_X0_44 rfl rfl (by omega) rfl rfl rfl (Nat.le_of_ble_eq_true rfl) dX0_becomeLike_56 ?_
  refine tv_aload_n (pc := 59) 1 C dX0_becomeLike_59 rfl rfl ?_
  refine tv_getr (pc := 60) (q := 34) C rfl rfl fl_X0_24 dX0_becomeLike_60 ?_
  refine tv_iconst (pc := 63) C dX0_becomeLike_63 ?_
  refine tv_aload_n (pc := 64) 0 C dX0_becomeLike_64 rfl rfl ?_
  refine tv_getr (pc := 65) (q := 48) C rfl rfl fl_X0_24 dX0_becomeLike_65 ?_
  refine tv_iconst (pc := 68) C dX0_becomeLike_68 ?_
  refine tv_bipush (pc := 69) C dX0_becomeLike_69 (by decide) ?_
  refine tv_acopy (pc := 71) (sp' := 0) (dp' := 0) (n' := 8) C ac_X0_44 rfl rfl (by omega) rfl rfl rfl (Nat.le_of_ble_eq_true rfl) dX0_becomeLike_71 ?_
  refine tv_aload_n (pc := 74) 0 C dX0_becomeLike_74 rfl rfl ?_
  refine tv_aload_n (pc := 75) 1 C dX0_becomeLike_75 rfl rfl ?_
  refine tv_geti (pc := 76) (z := (tm_cp (tm_cp (tm_cp (tm_cp (tm_cp μ 30 44 0 0 5) 31 45 0 0 40) 32 46 0 0 40) 33 47 0 0 40) 34 48 0 0 8) 29 6) C rfl rfl fl_X0_53 dX0_becomeLike_76 rfl ?_
  refine tv_puti (pc := 79) C rfl rfl fp_X0_53 dX0_becomeLike_79 ?_
  refine tv_vret (pc := 82) C dX0_becomeLike_82 ?_
  exact ⟨rfl, cl_like μ _ (by simp [tm_cp]) _ rfl⟩
theorem c5_allSacks_t (E : tm_Ev) (l : Launch) (μ : tm_M) (t : Int) (ht : μ 52 39 = t) : tm_Met E l yX5_allSacks cX5_allSacks 1 (some .int) 0 [.ref (E.2.1 49)] μ (tm_pi (fun z μ' => z = t ∧ μ' = μ)) := by
  refine tm_intro [(0, .ref (E.2.1 49))] rfl (by decide +kernel) (Nat.le_of_ble_eq_true rfl) ?_
  intro X hX C
  subst hX
  refine tv_aload_n (pc := 0) 0 C dX5_allSacks_0 rfl rfl ?_
  refine tv_getr (pc := 1) (q := 52) C rfl rfl fl_X5_22 dX5_allSacks_1 ?_
  refine tv_bipush (pc := 4) C dX5_allSacks_4 (by decide) ?_
  refine tv_iald (pc := 6) (j := 39) (z := t) C rfl dX5_allSacks_6 (by omega) rfl ht ?_
  refine tv_iret (pc := 7) C dX5_allSacks_7 ?_
  exact ⟨_, rfl, rfl, rfl⟩
theorem l_comes {E : tm_Ev} {X : tm_X} (C : tm_C E X yX7_comesOutSo.cls cX7_comesOutSo 2 (some .boolean) 4) (n2 s p : tm_M) (hs : ss_ok s) (hp : sm_ok p) (z10 : n2 10 1 = s 0 0) (hj1 : ∀ j : Nat, (j : Int) < s 0 0 → n2 11 j = s 1 j ∧ n2 13 j = s 2 j) (hN : ∀ h, h < 40 → n2 51 h = sm_z p (h + 1)) (z0 : 0 ≤ s 0 0 ∧ s 0 0 ≤ 8) (post : Option Value → tm_M → Prop) (hyes : so_b s p = true → post (some (tm_i 1)) n2) (hno : ¬ so_b s p = true → post (some (tm_i 0)) n2) : ∀ (f j : Nat) (x : Int), x = j → (j : Int) ≤ s 0 0 → 8 - j < f → (∀ b, b < j → sm_z p ((s 1 b).toNat + 1) = s 2 b) → tm_V E X (tm_Q E X post) 2 13 [(1, tm_i x), (0, .ref (E.2.1 0))] [] n2 := by
  intro f
  induction f with
  | zero => intro j x hx hj hf hall; omega
  | succ f ih =>
    intro j x hx hj hf hall
    refine tv_iload_n (pc := 13) 0 C dX7_comesOutSo_13 rfl rfl ?_
    refine tv_aload_n (pc := 14) 1 C dX7_comesOutSo_14 rfl rfl ?_
    refine tv_getr (pc := 15) (q := 10) C rfl rfl fl_X7_25 dX7_comesOutSo_15 ?_
    refine tv_geti (pc := 18) (z := s 0 0) C rfl rfl fl_X7_105 dX7_comesOutSo_18 z10 ?_
    refine tv_icmp_ge (pc := 21) 61 C dX7_comesOutSo_21 (by decide) (by omega) (by omega) (fun h21 => ?_) (fun h21 => ?_)
    · skip
      refine tv_iconst (pc := 61) C dX7_comesOutSo_61 ?_
      refine tv_zret (pc := 62) C dX7_comesOutSo_62 (by omega) ?_
      refine hyes ?_
      unfold so_b
      rw [decide_eq_true_eq]
      exact fun b hb => hall b (by omega)
    · skip
      have hr := hs.2.2.1 j (by omega)
      have hz := (sm_bd hp ((s 1 j).toNat + 1) (by omega)).1
      refine tv_aload_n (pc := 24) 1 C dX7_comesOutSo_24 rfl rfl ?_
      refine tv_getr (pc := 25) (q := 49) C rfl rfl fl_X7_76 dX7_comesOutSo_25 ?_
      refine tv_getr (pc := 28) (q := 51) C rfl rfl fl_X7_173 dX7_comesOutSo_28 ?_
      refine tv_aload_n (pc := 31) 1 C dX7_comesOutSo_31 rfl rfl ?_
      refine tv_getr (pc := 32) (q := 10) C rfl rfl fl_X7_25 dX7_comesOutSo_32 ?_
      refine tv_getr (pc := 35) (q := 11) C rfl rfl fl_X7_246 dX7_comesOutSo_35 ?_
      refine tv_iload_n (pc := 38) 0 C dX7_comesOutSo_38 rfl rfl ?_
      refine tv_iald (pc := 39) (j := j) (z := s 1 j) C rfl dX7_comesOutSo_39 (by omega) (by omega) ((hj1 j (by omega)).1) ?_
      refine tv_iald (pc := 40) (j := (s 1 j).toNat) (z := sm_z p ((s 1 j).toNat + 1)) C rfl dX7_comesOutSo_40 (by omega) rfl (hN (s 1 j).toNat (by omega)) ?_
      refine tv_aload_n (pc := 41) 1 C dX7_comesOutSo_41 rfl rfl ?_
      refine tv_getr (pc := 42) (q := 12) C rfl rfl fl_X7_28 dX7_comesOutSo_42 ?_
      refine tv_getr (pc := 45) (q := 13) C rfl rfl fl_X7_246 dX7_comesOutSo_45 ?_
      refine tv_iload_n (pc := 48) 0 C dX7_comesOutSo_48 rfl rfl ?_
      refine tv_iald (pc := 49) (j := j) (z := s 2 j) C rfl dX7_comesOutSo_49 (by omega) (by omega) ((hj1 j (by omega)).2) ?_
      refine tv_icmp_eq (pc := 50) 55 C dX7_comesOutSo_50 (by decide) (by omega) (by omega) (fun h50 => ?_) (fun h50 => ?_)
      · skip
        refine tv_iinc (pc := 55) 0 [(1, tm_i (x + 1)), (0, .ref (E.2.1 0))] C dX7_comesOutSo_55 rfl (by decide) rfl ?_
        refine tv_goto (pc := 58) 13 C dX7_comesOutSo_58 (by decide) ?_
        refine tv_sub (lv1 := [(1, tm_i (x + 1)), (0, .ref (E.2.1 0))]) [0, 1] rfl ?_
        refine ih (j + 1) (x + 1) (by omega) (by omega) (by omega) (fun b hb => ?_)
        by_cases hc : b = j
        · subst hc; exact h50
        · exact hall b (by omega)
      · skip
        refine tv_iconst (pc := 53) C dX7_comesOutSo_53 ?_
        refine tv_zret (pc := 54) C dX7_comesOutSo_54 (by omega) ?_
        refine hno (fun q => ?_)
        unfold so_b at q
        rw [decide_eq_true_eq] at q
        exact h50 (q j (by omega))
theorem c7_comes (E : tm_Ev) (l : Launch) (μ : tm_M) (s p : tm_M) (hs : ss_ok s) (hp : sm_ok p) (hcd : cl_d μ s) (hA : sm_ag (sm_p μ 43) p) : tm_Met E l yX7_comesOutSo cX7_comesOutSo 2 (some .boolean) 4 [.ref (E.2.1 0)] μ (tm_pi (fun z μ' => z = (if so_b s p = true then 1 else 0) ∧ cl_N μ' p ∧ ∀ a, a < 49 ∨ 56 < a → μ' a = μ a)) := by
  refine tm_intro [(0, .ref (E.2.1 0))] rfl (by decide +kernel) (Nat.le_of_ble_eq_true rfl) ?_
  intro X hX C
  subst hX
  refine tv_aload_n (pc := 0) 0 C dX7_comesOutSo_0 rfl rfl ?_
  refine tv_getr (pc := 1) (q := 49) C rfl rfl fl_X7_76 dX7_comesOutSo_1 ?_
  refine tv_aload_n (pc := 4) 0 C dX7_comesOutSo_4 rfl rfl ?_
  refine tv_getr (pc := 5) (q := 43) C rfl rfl fl_X7_73 dX7_comesOutSo_5 ?_
  refine tv_callV (pc := 8) [.ref (E.2.1 43)] [] C (c5_play_b E _ μ (sm_ag_ok hA hp)) cv_X7_229 rfl rfl (by decide) rfl (Nat.le_of_ble_eq_true rfl) rfl dX7_comesOutSo_8 (tm_kv ?_)
  rintro n2 hr9
  obtain ⟨hN, hF2⟩ := cl_N_of hA hp hr9
  clear hr9
  refine tv_iconst (pc := 11) C dX7_comesOutSo_11 ?_
  refine tv_istore_n (pc := 12) [(1, tm_i 0), (0, .ref (E.2.1 0))] C dX7_comesOutSo_12 rfl (by decide) rfl ?_
  refine tv_sub (lv1 := [(1, tm_i 0), (0, .ref (E.2.1 0))]) [0, 1] rfl ?_
  refine l_comes C n2 s p hs hp (by rw [hF2 10 (by omega)]; exact hcd.1) (by rw [hF2 11 (by omega), hF2 13 (by omega)]; exact hcd.2.2.1) hN.1 hs.1 _ (fun q => ⟨_, rfl, by rw [if_pos q], hN, hF2⟩) (fun q => ⟨_, rfl, by rw [if_neg q], hN, hF2⟩) 9 0 0 rfl (by have := hs.1; omega) (by omega) (fun b hb => by omega)
theorem l_dress {E : tm_Ev} {X : tm_X} (C : tm_C E X yX7_dress.cls cX7_dress 5 (some .int) 5) (d s n1 : tm_M) (hd : dd_ok d) (g2 : cl_s n1 d) (w : Int) (hw : 0 ≤ w ∧ w ≤ 1) (post : Option Value → tm_M → Prop) (hpost : ∀ ν, (∀ a, ¬ (43 ≤ a ∧ a ≤ 56) → ν a = n1 a) → post (some (tm_i (dr_z d w))) ν) : ∀ (f h : Nat) (x m b : Int) (ν : tm_M), x = h → h ≤ 40 → 40 - h < f → b = (bs_n 0 (fun h => sm_t (dr_p d h) 40) h).1 → m = (bs_n 0 (fun h => sm_t (dr_p d h) 40) h).2 → (∀ a, ¬ (43 ≤ a ∧ a ≤ 56) → ν a = n1 a) → tm_V E X (tm_Q E X post) 5 23 [(4, tm_i x), (3, tm_i m), (2, tm_i b), (0, .ref (E.2.1 0)), (1, tm_i w)] [] ν := by
  intro f
  induction f with
  | zero => intro h x m b ν hx hj hf hb hm hF; omega
  | succ f ih =>
    intro h x m b ν hx hj hf hb hm hF
    refine tv_iload (pc := 23) 0 C dX7_dress_23 rfl ?_
    refine tv_bipush (pc := 25) C dX7_dress_25 (by decide) ?_
    refine tv_icmp_ge (pc := 27) 94 C dX7_dress_27 (by decide) (by omega) (by omega) (fun h27 => ?_) (fun h27 => ?_)
    · skip
      refine tv_iload_n (pc := 94) 4 C dX7_dress_94 rfl rfl ?_
      refine tv_if_ne (pc := 95) 102 C dX7_dress_95 (by decide) (by omega) (fun h95 => ?_) (fun h95 => ?_)
      · skip
        refine tv_iload_n (pc := 102) 1 C dX7_dress_102 rfl rfl ?_
        refine tv_iret (pc := 103) C dX7_dress_103 ?_
        have hin : h = 40 := by omega
        subst hin
        have e0 : bs_n (-1) (fun h => sm_t (dr_p d h) 40) 40 = bs_n 0 (fun h => sm_t (dr_p d h) 40) 40 := bs_0 (sm_bd (dr_ok hd 0) 40 (by omega)).2.2.2.1.1 39
        have ez : m = dr_z d w := by unfold dr_z; rw [if_pos (by omega), if_neg (by omega), e0]; exact hm
        rw [ez]
        exact hpost ν hF
      · skip
        refine tv_iload_n (pc := 98) 2 C dX7_dress_98 rfl rfl ?_
        refine tv_goto (pc := 99) 103 C dX7_dress_99 (by decide) ?_
        refine tv_iret (pc := 103) C dX7_dress_103 ?_
        have hin : h = 40 := by omega
        subst hin
        have e0 : bs_n (-1) (fun h => sm_t (dr_p d h) 40) 40 = bs_n 0 (fun h => sm_t (dr_p d h) 40) 40 := bs_0 (sm_bd (dr_ok hd 0) 40 (by omega)).2.2.2.1.1 39
        have ez : b = dr_z d w := by unfold dr_z; rw [if_pos (by omega), if_pos (by omega), e0]; exact hb
        rw [ez]
        exact hpost ν hF
    · skip
      have hS : cl_s ν d := cl_s_same g2 (fun a ha => hF a (by omega))
      have hmr := (bs_r (b0 := 0) (f := (fun h => sm_t (dr_p d h) 40)) (c := 40) (by omega) h (fun k hk => (sm_bd (dr_ok hd k) 40 (by omega)).2.2.2.1) (by omega))
      refine tv_aload_n (pc := 30) 3 C dX7_dress_30 rfl rfl ?_
      refine tv_getr (pc := 31) (q := 43) C rfl rfl fl_X7_73 dX7_dress_31 ?_
      refine tv_aload_n (pc := 34) 3 C dX7_dress_34 rfl rfl ?_
      refine tv_getr (pc := 35) (q := 29) C rfl rfl fl_X7_62 dX7_dress_35 ?_
      refine tv_callV (pc := 38) [.ref (E.2.1 29)] [] C (c0_like E _ ν) cv_X7_224 rfl rfl (by decide) rfl (Nat.le_of_ble_eq_true rfl) rfl dX7_dress_38 (tm_kv ?_)
      rintro n2 ⟨gl, hF3⟩
      have hA := gl (dd_p d) hS.1 (dd_p_ok hd)
      clear gl
      refine tv_aload_n (pc := 41) 3 C dX7_dress_41 rfl rfl ?_
      refine tv_getr (pc := 42) (q := 43) C rfl rfl fl_X7_73 dX7_dress_42 ?_
      refine tv_getr (pc := 45) (q := 47) C rfl rfl fl_X7_227 dX7_dress_45 ?_
      refine tv_iload (pc := 48) 0 C dX7_dress_48 rfl ?_
      refine tv_dup2 (pc := 50) C dX7_dress_50 rfl rfl ?_
      refine tv_iald (pc := 51) (j := h) (z := dd_p d 3 h) C rfl dX7_dress_51 (by omega) (by omega) ((hA.2.1 h (by omega)).2.2) ?_
      refine tv_iconst (pc := 52) C dX7_dress_52 ?_
      refine tv_iadd (pc := 53) C dX7_dress_53 ?_
      refine tv_iast (pc := 54) (j := h) C rfl dX7_dress_54 (by omega) (by omega) ?_
      have hA3 : sm_ag (sm_p (tm_up n2 47 h (dd_p d 3 h + 1)) 43) (dr_p d h) := ag_dress hA h (dd_p d 3 h + 1)
      have htb := (sm_bd (dr_ok hd h) 40 (by omega)).2.2.2.1
      refine tv_aload_n (pc := 55) 3 C dX7_dress_55 rfl rfl ?_
      refine tv_getr (pc := 56) (q := 49) C rfl rfl fl_X7_76 dX7_dress_56 ?_
      refine tv_aload_n (pc := 59) 3 C dX7_dress_59 rfl rfl ?_
      refine tv_getr (pc := 60) (q := 43) C rfl rfl fl_X7_73 dX7_dress_60 ?_
      refine tv_callV (pc := 63) [.ref (E.2.1 43)] [] C (c5_play_b E _ (tm_up n2 47 h ((dd_p d 3 h) + 1)) (sm_ag_ok hA3 (dr_ok hd h))) cv_X7_229 rfl rfl (by decide) rfl (Nat.le_of_ble_eq_true rfl) rfl dX7_dress_63 (tm_kv ?_)
      rintro n3 hr9
      obtain ⟨hN, hF2⟩ := cl_N_of hA3 (dr_ok hd h) hr9
      clear hr9
      refine tv_aload_n (pc := 66) 3 C dX7_dress_66 rfl rfl ?_
      refine tv_getr (pc := 67) (q := 49) C rfl rfl fl_X7_76 dX7_dress_67 ?_
      refine tv_callV (pc := 70) [] [] C (c5_allSacks_t E _ n3 _ hN.2.1) cv_X7_232 rfl rfl (by decide) rfl (Nat.le_of_ble_eq_true rfl) rfl dX7_dress_70 (tm_kp ?_)
      refine tv_iload_n (pc := 73) 1 C dX7_dress_73 rfl rfl ?_
      refine tv_icmp_le (pc := 74) 88 C dX7_dress_74 (by decide) (by omega) (by omega) (fun h74 => ?_) (fun h74 => ?_)
      · skip
        refine tv_iinc (pc := 88) 0 [(4, tm_i (x + 1)), (3, tm_i m), (2, tm_i b), (0, .ref (E.2.1 0)), (1, tm_i w)] C dX7_dress_88 rfl (by decide) rfl ?_
        refine tv_goto (pc := 91) 23 C dX7_dress_91 (by decide) ?_
        refine tv_sub (lv1 := [(4, tm_i (x + 1)), (3, tm_i m), (2, tm_i b), (0, .ref (E.2.1 0)), (1, tm_i w)]) [0, 1, 2, 3, 4] rfl ?_
        refine ih (h + 1) (x + 1) _ _ n3 (by omega) (by omega) (by omega) ?_ ?_ (fun a ha => by rw [hF2 a (by omega), tm_uf (by omega), hF3 a (by omega), hF a ha])
        · rw [bs_s, if_neg (by omega)]; exact hb
        · rw [bs_s, if_neg (by omega)]; exact hm
      · skip
        refine tv_iload (pc := 77) 0 C dX7_dress_77 rfl ?_
        refine tv_istore_n (pc := 79) [(2, tm_i x), (4, tm_i x), (3, tm_i m), (0, .ref (E.2.1 0)), (1, tm_i w)] C dX7_dress_79 rfl (by decide) rfl ?_
        refine tv_aload_n (pc := 80) 3 C dX7_dress_80 rfl rfl ?_
        refine tv_getr (pc := 81) (q := 49) C rfl rfl fl_X7_76 dX7_dress_81 ?_
        refine tv_callV (pc := 84) [] [] C (c5_allSacks_t E _ n3 _ hN.2.1) cv_X7_232 rfl rfl (by decide) rfl (Nat.le_of_ble_eq_true rfl) rfl dX7_dress_84 (tm_kp ?_)
        refine tv_istore_n (pc := 87) [(3, tm_i (sm_t (dr_p d h) 40)), (2, tm_i x), (4, tm_i x), (0, .ref (E.2.1 0)), (1, tm_i w)] C dX7_dress_87 rfl (by decide) rfl ?_
        refine tv_iinc (pc := 88) 2 [(4, tm_i (x + 1)), (3, tm_i (sm_t (dr_p d h) 40)), (2, tm_i x), (0, .ref (E.2.1 0)), (1, tm_i w)] C dX7_dress_88 rfl (by decide) rfl ?_
        refine tv_goto (pc := 91) 23 C dX7_dress_91 (by decide) ?_
        refine tv_sub (lv1 := [(4, tm_i (x + 1)), (3, tm_i (sm_t (dr_p d h) 40)), (2, tm_i x), (0, .ref (E.2.1 0)), (1, tm_i w)]) [0, 1, 2, 3, 4] rfl ?_
        refine ih (h + 1) (x + 1) _ _ n3 (by omega) (by omega) (by omega) ?_ ?_ (fun a ha => by rw [hF2 a (by omega), tm_uf (by omega), hF3 a (by omega), hF a ha])
        · rw [bs_s, if_pos (by omega)]; omega
        · rw [bs_s, if_pos (by omega)]
theorem k7_dress (E : tm_Ev) (l : Launch) (μ : tm_M) (d s : tm_M) (hd : dd_ok d) (hI : cl_I μ d s) (w : Int) (hw : -2147483648 ≤ w ∧ w ≤ 2147483647) : tm_Met E l yX7_dress cX7_dress 5 (some .int) 5 [.ref (E.2.1 0), tm_i w] μ (tm_pi (fun z μ' => z = dr_z d w ∧ cl_I μ' d s ∧ ∀ a, 74 ≤ a → μ' a = μ a)) := by
  refine tm_intro [(0, .ref (E.2.1 0)), (1, tm_i w)] rfl (by decide +kernel) (Nat.le_of_ble_eq_true rfl) ?_
  intro X hX C
  subst hX
  refine tv_iload_n (pc := 0) 1 C dX7_dress_0 rfl rfl ?_
  refine tv_iconst (pc := 1) C dX7_dress_1 ?_
  refine tv_iconst (pc := 2) C dX7_dress_2 ?_
  refine tv_callS (pc := 3) [tm_i w, tm_i 0, tm_i 1] [] C (c7_within E _ μ w 0 1 (by omega) (by omega) (by omega)) cs_X7_97 (by decide) rfl (Nat.le_of_ble_eq_true rfl) rfl dX7_dress_3 (tm_kp ?_)
  refine tv_ifneB (pc := 6) 12 C dX7_dress_6 (by decide) (fun h6 => ?_) (fun h6 => ?_)
  · skip
    refine tv_aload_n (pc := 12) 0 C dX7_dress_12 rfl rfl ?_
    refine tv_callV (pc := 13) [] [] C (c7_settle E _ μ d hd hI.1 hI.2.2.1 hI.2.2.2.1) cv_X7_125 rfl rfl (by decide) rfl (Nat.le_of_ble_eq_true rfl) rfl dX7_dress_13 (tm_kv ?_)
    rintro n1 ⟨g1, g2, g3, g4, g5⟩
    have hI1 := cl_I_set hI g1 g2 g3 g4 g5
    have fr1 : ∀ a, 74 ≤ a → n1 a = μ a := fun a ha => g4 a (by omega)
    have hn := g2.2.1
    have hor := fun k hk => (g2.2.2.1 k hk)
    refine tv_iconst (pc := 16) C dX7_dress_16 ?_
    refine tv_istore_n (pc := 17) [(2, tm_i 0), (0, .ref (E.2.1 0)), (1, tm_i w)] C dX7_dress_17 rfl (by decide) rfl ?_
    refine tv_iconst (pc := 18) C dX7_dress_18 ?_
    refine tv_istore_n (pc := 19) [(3, tm_i (-1)), (2, tm_i 0), (0, .ref (E.2.1 0)), (1, tm_i w)] C dX7_dress_19 rfl (by decide) rfl ?_
    refine tv_iconst (pc := 20) C dX7_dress_20 ?_
    refine tv_istore (pc := 21) [(4, tm_i 0), (3, tm_i (-1)), (2, tm_i 0), (0, .ref (E.2.1 0)), (1, tm_i w)] C dX7_dress_21 (by decide) rfl ?_
    refine tv_sub (lv1 := [(4, tm_i 0), (3, tm_i (-1)), (2, tm_i 0), (0, .ref (E.2.1 0)), (1, tm_i w)]) [0, 1, 2, 3, 4] rfl ?_
    exact l_dress C d s n1 hd g2 w (by omega) _ (fun n9 q9 => ⟨_, rfl, rfl, cl_I_tr hI1 (fun a h1 _ => q9 a h1), fun a ha => by rw [q9 a (by omega)]; exact fr1 a ha⟩) 41 0 0 (-1) 0 n1 rfl (by omega) (by omega) rfl rfl (fun a _ => rfl)
  · skip
    refine tv_bipush (pc := 9) C dX7_dress_9 (by decide) ?_
    refine tv_iret (pc := 11) C dX7_dress_11 ?_
    exact ⟨_, rfl, by unfold dr_z; rw [if_neg (by omega)], hI, fun a _ => rfl⟩
theorem l_endsAll {E : tm_Ev} {X : tm_X} (C : tm_C E X yX5_endsAll.cls cX5_endsAll 3 (some .boolean) 0) (μ : tm_M) (n : Nat) (e : Nat → Int) (h8 : n ≤ 8) (hn : μ 23 4 = (n : Int)) (he : ∀ k, k < 8 → μ 56 k = e k) (hr : ∀ k, -1 ≤ e k ∧ e k ≤ 39) (post : Option Value → tm_M → Prop) (hyes : (∀ k, k < n → ¬ e k = -1) → post (some (tm_i 1)) μ) (hno : ¬ (∀ k, k < n → ¬ e k = -1) → post (some (tm_i 0)) μ) : ∀ (f k : Nat) (x : Int), x = k → k ≤ n → n - k < f → (∀ b, b < k → ¬ e b = -1) → tm_V E X (tm_Q E X post) 3 2 [(2, tm_i x), (0, .ref (E.2.1 49)), (1, .ref (E.2.1 23))] [] μ := by
  intro f
  induction f with
  | zero => intro k x hx hj hf hall; omega
  | succ f ih =>
    intro k x hx hj hf hall
    refine tv_iload_n (pc := 2) 0 C dX5_endsAll_2 rfl rfl ?_
    refine tv_aload_n (pc := 3) 2 C dX5_endsAll_3 rfl rfl ?_
    refine tv_geti (pc := 4) (z := (n : Int)) C rfl rfl fl_X5_85 dX5_endsAll_4 hn ?_
    refine tv_icmp_ge (pc := 7) 28 C dX5_endsAll_7 (by decide) (by omega) (by omega) (fun h7 => ?_) (fun h7 => ?_)
    · skip
      refine tv_iconst (pc := 28) C dX5_endsAll_28 ?_
      refine tv_zret (pc := 29) C dX5_endsAll_29 (by omega) ?_
      exact hyes (fun b hb => hall b (by omega))
    · skip
      have hrk := hr k
      refine tv_aload_n (pc := 10) 1 C dX5_endsAll_10 rfl rfl ?_
      refine tv_getr (pc := 11) (q := 56) C rfl rfl fl_X5_34 dX5_endsAll_11 ?_
      refine tv_iload_n (pc := 14) 0 C dX5_endsAll_14 rfl rfl ?_
      refine tv_iald (pc := 15) (j := k) (z := e k) C rfl dX5_endsAll_15 (by omega) (by omega) (he k (by omega)) ?_
      refine tv_iconst (pc := 16) C dX5_endsAll_16 ?_
      refine tv_icmp_ne (pc := 17) 22 C dX5_endsAll_17 (by decide) (by omega) (by omega) (fun h17 => ?_) (fun h17 => ?_)
      · skip
        refine tv_iinc (pc := 22) 0 [(2, tm_i (x + 1)), (0, .ref (E.2.1 49)), (1, .ref (E.2.1 23))] C dX5_endsAll_22 rfl (by decide) rfl ?_
        refine tv_goto (pc := 25) 2 C dX5_endsAll_25 (by decide) ?_
        refine tv_sub (lv1 := [(2, tm_i (x + 1)), (0, .ref (E.2.1 49)), (1, .ref (E.2.1 23))]) [0, 1, 2] rfl ?_
        refine ih (k + 1) (x + 1) (by omega) (by omega) (by omega) (fun b hb => ?_)
        by_cases hc : b = k
        · subst hc; exact h17
        · exact hall b (by omega)
      · skip
        refine tv_iconst (pc := 20) C dX5_endsAll_20 ?_
        refine tv_zret (pc := 21) C dX5_endsAll_21 (by omega) ?_
        exact hno (fun q => q k (by omega) h17)
theorem c5_endsAll (E : tm_Ev) (l : Launch) (μ : tm_M) (n : Nat) (e : Nat → Int) (h8 : n ≤ 8) (hn : μ 23 4 = (n : Int)) (he : ∀ k, k < 8 → μ 56 k = e k) (hr : ∀ k, -1 ≤ e k ∧ e k ≤ 39) (B : Bool) (hB : B = true ↔ ∀ k, k < n → ¬ e k = -1) : tm_Met E l yX5_endsAll cX5_endsAll 3 (some .boolean) 0 [.ref (E.2.1 49), .ref (E.2.1 23)] μ (tm_pi (fun z μ' => z = (if B = true then 1 else 0) ∧ μ' = μ)) := by
  refine tm_intro [(0, .ref (E.2.1 49)), (1, .ref (E.2.1 23))] rfl (by decide +kernel) (Nat.le_of_ble_eq_true rfl) ?_
  intro X hX C
  subst hX
  refine tv_iconst (pc := 0) C dX5_endsAll_0 ?_
  refine tv_istore_n (pc := 1) [(2, tm_i 0), (0, .ref (E.2.1 49)), (1, .ref (E.2.1 23))] C dX5_endsAll_1 rfl (by decide) rfl ?_
  refine tv_sub (lv1 := [(2, tm_i 0), (0, .ref (E.2.1 49)), (1, .ref (E.2.1 23))]) [0, 1, 2] rfl ?_
  exact l_endsAll C μ n e h8 hn he hr _ (fun q => ⟨_, rfl, by rw [if_pos (hB.mpr q)], rfl⟩) (fun q => ⟨_, rfl, by rw [if_neg (fun z => q (hB.mp z))], rfl⟩) (n + 1) 0 0 rfl (by omega) (by omega) (fun b hb => by omega)
theorem l_least {E : tm_Ev} {X : tm_X} (C : tm_C E X yX7_least.cls cX7_least 2 (some .int) 5) (d s n1 : tm_M) (hd : dd_ok d) (g2 : cl_s n1 d) (h8 : dd_n d ≤ 8) (post : Option Value → tm_M → Prop) (hpost : ∀ ν, (∀ a, ¬ (43 ≤ a ∧ a ≤ 56) → ν a = n1 a) → post (some (tm_i (le_z d))) ν) : ∀ (f v : Nat) (x v0 : Int) (ν : tm_M), x = v → v ≤ 21 → 21 - v < f → sm_ag (sm_p ν 43) (di_p d 0 v0) → (∀ a, ¬ (43 ≤ a ∧ a ≤ 56) → ν a = n1 a) → le_z d = fi_n (fun v => !(le_g d v)) (21 - v) v → tm_V E X (tm_Q E X post) 2 17 [(1, tm_i x), (0, .ref (E.2.1 0))] [] ν := by
  intro f
  induction f with
  | zero => intro v x v0 ν hx hj hf hA hF hZ; omega
  | succ f ih =>
    intro v x v0 ν hx hj hf hA hF hZ
    refine tv_iload_n (pc := 17) 0 C dX7_least_17 rfl rfl ?_
    refine tv_bipush (pc := 18) C dX7_least_18 (by decide) ?_
    refine tv_icmp_gt (pc := 20) 66 C dX7_least_20 (by decide) (by omega) (by omega) (fun h20 => ?_) (fun h20 => ?_)
    · skip
      refine tv_iconst (pc := 66) C dX7_least_66 ?_
      refine tv_iret (pc := 67) C dX7_least_67 ?_
      have ez : -1 = le_z d := by rw [hZ, fi_e (by omega)]
      rw [ez]
      exact hpost ν hF
    · skip
      refine tv_aload_n (pc := 23) 1 C dX7_least_23 rfl rfl ?_
      refine tv_getr (pc := 24) (q := 43) C rfl rfl fl_X7_73 dX7_least_24 ?_
      refine tv_getr (pc := 27) (q := 44) C rfl rfl fl_X7_236 dX7_least_27 ?_
      refine tv_iconst (pc := 30) C dX7_least_30 ?_
      refine tv_iload_n (pc := 31) 0 C dX7_least_31 rfl rfl ?_
      refine tv_iast (pc := 32) (j := 0) C rfl dX7_least_32 (by omega) rfl ?_
      refine tv_aload_n (pc := 33) 1 C dX7_least_33 rfl rfl ?_
      refine tv_getr (pc := 34) (q := 49) C rfl rfl fl_X7_76 dX7_least_34 ?_
      refine tv_aload_n (pc := 37) 1 C dX7_least_37 rfl rfl ?_
      refine tv_getr (pc := 38) (q := 43) C rfl rfl fl_X7_73 dX7_least_38 ?_
      refine tv_callV (pc := 41) [.ref (E.2.1 43)] [] C (c5_play_b E _ (tm_up ν 44 0 x) (sm_ag_ok (ag_di hA x) (di_ok0 hd (by omega)))) cv_X7_229 rfl rfl (by decide) rfl (Nat.le_of_ble_eq_true rfl) rfl dX7_least_41 (tm_kv ?_)
      rintro n3 hr9
      obtain ⟨hN, hF2⟩ := cl_N_of (ag_di hA x) (di_ok0 hd (by omega)) hr9
      clear hr9
      refine tv_aload_n (pc := 44) 1 C dX7_least_44 rfl rfl ?_
      refine tv_getr (pc := 45) (q := 49) C rfl rfl fl_X7_76 dX7_least_45 ?_
      refine tv_aload_n (pc := 48) 1 C dX7_least_48 rfl rfl ?_
      refine tv_getr (pc := 49) (q := 23) C rfl rfl fl_X7_41 dX7_least_49 ?_
      refine tv_callV (pc := 52) [.ref (E.2.1 23)] [] C (c5_endsAll E _ n3 (dd_n d) _ h8 (by rw [hF2 23 (by omega), tm_uf (by omega), hF 23 (by omega)]; exact g2.2.1) hN.2.2 (sm_e_40 _) (le_g d v) (by have q := le_iff hd (v := v) (by omega); rw [← hx] at q; exact q)) cv_X7_237 rfl rfl (by decide) rfl (Nat.le_of_ble_eq_true rfl) rfl dX7_least_52 (tm_kp ?_)
      refine tv_ifeqB (pc := 55) 60 C dX7_least_55 (by decide) (fun h55 => ?_) (fun h55 => ?_)
      · skip
        refine tv_iinc (pc := 60) 0 [(1, tm_i (x + 1)), (0, .ref (E.2.1 0))] C dX7_least_60 rfl (by decide) rfl ?_
        refine tv_goto (pc := 63) 17 C dX7_least_63 (by decide) ?_
        refine tv_sub (lv1 := [(1, tm_i (x + 1)), (0, .ref (E.2.1 0))]) [0, 1] rfl ?_
        refine ih (v + 1) (x + 1) x n3 (by omega) (by omega) (by omega) ?_ (fun a ha => by rw [hF2 a (by omega), tm_uf (by omega), hF a ha]) (by rw [hZ]; exact fi_y (by omega) (by simp [h55]))
        rw [sm_p_same (fun a ha => hF2 a (by omega))]
        exact ag_di hA x
      · skip
        refine tv_iload_n (pc := 58) 0 C dX7_least_58 rfl rfl ?_
        refine tv_iret (pc := 59) C dX7_least_59 ?_
        have ez : x = le_z d := by rw [hZ, fi_x (by omega) (by simp [h55])]; omega
        rw [ez]
        exact hpost n3 (fun a ha => by rw [hF2 a (by omega), tm_uf (by omega), hF a ha])
theorem k7_least (E : tm_Ev) (l : Launch) (μ : tm_M) (d s : tm_M) (hd : dd_ok d) (hI : cl_I μ d s) : tm_Met E l yX7_least cX7_least 2 (some .int) 5 [.ref (E.2.1 0)] μ (tm_pi (fun z μ' => z = le_z d ∧ cl_I μ' d s ∧ ∀ a, 74 ≤ a → μ' a = μ a)) := by
  refine tm_intro [(0, .ref (E.2.1 0))] rfl (by decide +kernel) (Nat.le_of_ble_eq_true rfl) ?_
  intro X hX C
  subst hX
  have h8 : dd_n d ≤ 8 := sp_no_bd _ (by have q := hd.2.1; omega)
  refine tv_aload_n (pc := 0) 0 C dX7_least_0 rfl rfl ?_
  refine tv_callV (pc := 1) [] [] C (c7_settle E _ μ d hd hI.1 hI.2.2.1 hI.2.2.2.1) cv_X7_125 rfl rfl (by decide) rfl (Nat.le_of_ble_eq_true rfl) rfl dX7_least_1 (tm_kv ?_)
  rintro n1 ⟨g1, g2, g3, g4, g5⟩
  have hI1 := cl_I_set hI g1 g2 g3 g4 g5
  have fr1 : ∀ a, 74 ≤ a → n1 a = μ a := fun a ha => g4 a (by omega)
  have hn := g2.2.1
  have hor := fun k hk => (g2.2.2.1 k hk)
  refine tv_aload_n (pc := 4) 0 C dX7_least_4 rfl rfl ?_
  refine tv_getr (pc := 5) (q := 43) C rfl rfl fl_X7_73 dX7_least_5 ?_
  refine tv_aload_n (pc := 8) 0 C dX7_least_8 rfl rfl ?_
  refine tv_getr (pc := 9) (q := 29) C rfl rfl fl_X7_62 dX7_least_9 ?_
  refine tv_callV (pc := 12) [.ref (E.2.1 29)] [] C (c0_like E _ n1) cv_X7_224 rfl rfl (by decide) rfl (Nat.le_of_ble_eq_true rfl) rfl dX7_least_12 (tm_kv ?_)
  rintro n2 ⟨gl, hF3⟩
  have hA := gl (dd_p d) g2.1 (dd_p_ok hd)
  clear gl
  refine tv_iconst (pc := 15) C dX7_least_15 ?_
  refine tv_istore_n (pc := 16) [(1, tm_i 0), (0, .ref (E.2.1 0))] C dX7_least_16 rfl (by decide) rfl ?_
  refine tv_sub (lv1 := [(1, tm_i 0), (0, .ref (E.2.1 0))]) [0, 1] rfl ?_
  exact l_least C d s n1 hd g2 h8 _ (fun n9 q9 => ⟨_, rfl, rfl, cl_I_tr hI1 (fun a h1 _ => q9 a h1), fun a ha => by rw [q9 a (by omega)]; exact fr1 a ha⟩) 22 0 0 (dd_p d 0 0) n2 rfl (by omega) (by omega) (by rw [di_id]; exact hA) (fun a ha => hF3 a (by omega)) rfl
theorem l_away {E : tm_Ev} {X : tm_X} (C : tm_C E X yX0_sendAway.cls cX0_sendAway 4 none 0) (μ : tm_M) (n k : Nat) (z : Int) (hz : z = k) (hk : k < n) (h8 : n ≤ 8) (hn : μ 43 6 = (n : Int)) (hid : ∀ q, q < n → μ 48 q = (q : Int)) (post : Option Value → tm_M → Prop) (hpost : post none (tm_up (tm_rowf μ 48 (n - 1) (fun q : Nat => if q < k then (q : Int) else (q : Int) + 1)) 43 6 ((n : Int) - 1))) : ∀ (f q c : Nat) (x y : Int), x = q → y = c → q ≤ n → n - q < f → ((q ≤ k ∧ c = q) ∨ (k < q ∧ c + 1 = q)) → tm_V E X (tm_Q E X post) 4 4 [(3, tm_i x), (2, tm_i y), (0, .ref (E.2.1 43)), (1, tm_i z)] [] (tm_rowf μ 48 c (fun q : Nat => if q < k then (q : Int) else (q : Int) + 1)) := by
  intro f
  induction f with
  | zero => intro q c x y hx hy hj hf hc; omega
  | succ f ih =>
    intro q c x y hx hy hj hf hc
    refine tv_iload_n (pc := 4) 0 C dX0_sendAway_4 rfl rfl ?_
    refine tv_aload_n (pc := 5) 2 C dX0_sendAway_5 rfl rfl ?_
    refine tv_geti (pc := 6) (z := (n : Int)) C rfl rfl fl_X0_53 dX0_sendAway_6 ((tm_rowf_k (by omega)).trans hn) ?_
    refine tv_icmp_ge (pc := 9) 43 C dX0_sendAway_9 (by decide) (by omega) (by omega) (fun h9 => ?_) (fun h9 => ?_)
    · skip
      refine tv_aload_n (pc := 43) 2 C dX0_sendAway_43 rfl rfl ?_
      refine tv_iload_n (pc := 44) 1 C dX0_sendAway_44 rfl rfl ?_
      refine tv_puti (pc := 45) C rfl rfl fp_X0_53 dX0_sendAway_45 ?_
      refine tv_vret (pc := 48) C dX0_sendAway_48 ?_
      have hin : c = n - 1 := by omega
      subst hin
      rw [show y = (n : Int) - 1 by omega]
      exact hpost
    · skip
      refine tv_aload_n (pc := 12) 2 C dX0_sendAway_12 rfl rfl ?_
      refine tv_getr (pc := 13) (q := 48) C rfl rfl fl_X0_24 dX0_sendAway_13 ?_
      refine tv_iload_n (pc := 16) 0 C dX0_sendAway_16 rfl rfl ?_
      refine tv_iald (pc := 17) (j := q) (z := (q : Int)) C rfl dX0_sendAway_17 (by omega) (by omega) ((tm_rowf_out (by omega)).trans (hid q (by omega))) ?_
      refine tv_iload_n (pc := 18) 3 C dX0_sendAway_18 rfl rfl ?_
      refine tv_icmp_eq (pc := 19) 37 C dX0_sendAway_19 (by decide) (by omega) (by omega) (fun h19 => ?_) (fun h19 => ?_)
      · skip
        refine tv_iinc (pc := 37) 0 [(3, tm_i (x + 1)), (2, tm_i y), (0, .ref (E.2.1 43)), (1, tm_i z)] C dX0_sendAway_37 rfl (by decide) rfl ?_
        refine tv_goto (pc := 40) 4 C dX0_sendAway_40 (by decide) ?_
        refine tv_sub (lv1 := [(3, tm_i (x + 1)), (2, tm_i y), (0, .ref (E.2.1 43)), (1, tm_i z)]) [0, 1, 2, 3] rfl ?_
        exact ih (q + 1) c (x + 1) y (by omega) (by omega) (by omega) (by omega) (by omega)
      · skip
        refine tv_aload_n (pc := 22) 2 C dX0_sendAway_22 rfl rfl ?_
        refine tv_getr (pc := 23) (q := 48) C rfl rfl fl_X0_24 dX0_sendAway_23 ?_
        refine tv_iload_n (pc := 26) 1 C dX0_sendAway_26 rfl rfl ?_
        refine tv_aload_n (pc := 27) 2 C dX0_sendAway_27 rfl rfl ?_
        refine tv_getr (pc := 28) (q := 48) C rfl rfl fl_X0_24 dX0_sendAway_28 ?_
        refine tv_iload_n (pc := 31) 0 C dX0_sendAway_31 rfl rfl ?_
        refine tv_iald (pc := 32) (j := q) (z := (q : Int)) C rfl dX0_sendAway_32 (by omega) (by omega) ((tm_rowf_out (by omega)).trans (hid q (by omega))) ?_
        refine tv_iast (pc := 33) (j := c) C rfl dX0_sendAway_33 (by omega) (by omega) ?_
        refine tv_iinc (pc := 34) 1 [(2, tm_i (y + 1)), (3, tm_i x), (0, .ref (E.2.1 43)), (1, tm_i z)] C dX0_sendAway_34 rfl (by decide) rfl ?_
        refine tv_iinc (pc := 37) 1 [(3, tm_i (x + 1)), (2, tm_i (y + 1)), (0, .ref (E.2.1 43)), (1, tm_i z)] C dX0_sendAway_37 rfl (by decide) rfl ?_
        refine tv_goto (pc := 40) 4 C dX0_sendAway_40 (by decide) ?_
        refine tv_sub (lv1 := [(3, tm_i (x + 1)), (2, tm_i (y + 1)), (0, .ref (E.2.1 43)), (1, tm_i z)]) [0, 1, 2, 3] rfl ?_
        rw [tm_rowf_s (by show (q : Int) = if c < k then (c : Int) else (c : Int) + 1; split <;> omega)]
        exact ih (q + 1) (c + 1) (x + 1) (y + 1) (by omega) (by omega) (by omega) (by omega) (by omega)
theorem c0_away (E : tm_Ev) (l : Launch) (μ : tm_M) (n k : Nat) (z : Int) (hz : z = k) (hk : k < n) (h8 : n ≤ 8) (hn : μ 43 6 = (n : Int)) (hid : ∀ q, q < n → μ 48 q = (q : Int)) : tm_Met E l yX0_sendAway cX0_sendAway 4 none 0 [.ref (E.2.1 43), tm_i z] μ (tm_pv (fun μ' => μ' = tm_up (tm_rowf μ 48 (n - 1) (fun q : Nat => if q < k then (q : Int) else (q : Int) + 1)) 43 6 ((n : Int) - 1))) := by
  refine tm_intro [(0, .ref (E.2.1 43)), (1, tm_i z)] rfl (by decide +kernel) (Nat.le_of_ble_eq_true rfl) ?_
  intro X hX C
  subst hX
  refine tv_iconst (pc := 0) C dX0_sendAway_0 ?_
  refine tv_istore_n (pc := 1) [(2, tm_i 0), (0, .ref (E.2.1 43)), (1, tm_i z)] C dX0_sendAway_1 rfl (by decide) rfl ?_
  refine tv_iconst (pc := 2) C dX0_sendAway_2 ?_
  refine tv_istore_n (pc := 3) [(3, tm_i 0), (2, tm_i 0), (0, .ref (E.2.1 43)), (1, tm_i z)] C dX0_sendAway_3 rfl (by decide) rfl ?_
  refine tv_sub (lv1 := [(3, tm_i 0), (2, tm_i 0), (0, .ref (E.2.1 43)), (1, tm_i z)]) [0, 1, 2, 3] rfl ?_
  refine tv_mem (tm_rowf μ 48 0 (fun q : Nat => if q < k then (q : Int) else (q : Int) + 1)) (tm_rowf_0 _ _ _).symm ?_
  exact l_away C μ n k z hz hk h8 hn hid _ ⟨rfl, rfl⟩ (n + 1) 0 0 0 0 rfl rfl (by omega) (by omega) (by omega)
theorem ag_out {ν d : tm_M} {k : Nat} (h : sm_ag (sm_p ν 43) (dd_p d)) (hk : k < dd_n d) : sm_ag (sm_p (tm_up (tm_rowf ν 48 (dd_n d - 1) (fun q : Nat => if q < k then (q : Int) else (q : Int) + 1)) 43 6 ((dd_n d : Int) - 1)) 43) (ou_p d k) := by
  obtain ⟨h0, h1, h5, h4⟩ := h
  have e5 : sm_p (tm_up (tm_rowf ν 48 (dd_n d - 1) (fun q : Nat => if q < k then (q : Int) else (q : Int) + 1)) 43 6 ((dd_n d : Int) - 1)) 43 5 0 = (dd_n d : Int) - 1 := tm_us
  refine ⟨h0, h1, e5, fun q hq => ?_⟩
  rw [e5] at hq
  have e4 : sm_p (tm_up (tm_rowf ν 48 (dd_n d - 1) (fun q : Nat => if q < k then (q : Int) else (q : Int) + 1)) 43 6 ((dd_n d : Int) - 1)) 43 4 q = ou_p d k 4 q := (tm_uk (by decide)).trans (tm_rowf_in (by omega))
  rw [e4]
  have e4b : ou_p d k 4 q = ((if q < k then q else q + 1 : Nat) : Int) := by
    show (if q < k then (q : Int) else (q : Int) + 1) = _
    split <;> simp
  refine ⟨rfl, ?_⟩
  rw [e4b, Int.toNat_natCast]
  have hs : sm_p ν 43 5 0 = (dd_n d : Int) := h5
  have q1 := h4 (if q < k then q else q + 1) (by rw [hs]; split <;> omega)
  have q4 : sm_p ν 43 4 (if q < k then q else q + 1) = ((if q < k then q else q + 1 : Nat) : Int) := q1.1
  rw [q4, Int.toNat_natCast] at q1
  exact q1.2
theorem l_send {E : tm_Ev} {X : tm_X} (C : tm_C E X yX7_send.cls cX7_send 6 (some .int) 5) (d s n1 : tm_M) (hd : dd_ok d) (g2 : cl_s n1 d) (h8 : dd_n d ≤ 8) (w : Int) (hw : 0 ≤ w ∧ w ≤ 1) (post : Option Value → tm_M → Prop) (hpost : ∀ ν, (∀ a, ¬ (43 ≤ a ∧ a ≤ 56) → ν a = n1 a) → post (some (tm_i (sd_z d w))) ν) : ∀ (f k : Nat) (x m b : Int) (ν : tm_M), x = k → k ≤ dd_n d → dd_n d - k < f → b = (bs_n (-1) (fun k => py_s d (sm_e (ou_p d k) 40)) k).1 → m = (bs_n (-1) (fun k => py_s d (sm_e (ou_p d k) 40)) k).2 → (∀ a, ¬ (43 ≤ a ∧ a ≤ 56) → ν a = n1 a) → tm_V E X (tm_Q E X post) 6 23 [(4, tm_i x), (3, tm_i m), (2, tm_i b), (0, .ref (E.2.1 0)), (1, tm_i w)] [] ν := by
  intro f
  induction f with
  | zero => intro k x m b ν hx hj hf hb hm hF; omega
  | succ f ih =>
    intro k x m b ν hx hj hf hb hm hF
    have hS : cl_s ν d := cl_s_same g2 (fun a ha => hF a (by omega))
    refine tv_iload (pc := 23) 0 C dX7_send_23 rfl ?_
    refine tv_aload_n (pc := 25) 3 C dX7_send_25 rfl rfl ?_
    refine tv_getr (pc := 26) (q := 23) C rfl rfl fl_X7_41 dX7_send_26 ?_
    refine tv_geti (pc := 29) (z := (dd_n d : Int)) C rfl rfl fl_X7_205 dX7_send_29 hS.2.1 ?_
    refine tv_icmp_ge (pc := 32) 97 C dX7_send_32 (by decide) (by omega) (by omega) (fun h32 => ?_) (fun h32 => ?_)
    · skip
      refine tv_iload_n (pc := 97) 4 C dX7_send_97 rfl rfl ?_
      refine tv_if_ne (pc := 98) 105 C dX7_send_98 (by decide) (by omega) (fun h98 => ?_) (fun h98 => ?_)
      · skip
        refine tv_iload_n (pc := 105) 1 C dX7_send_105 rfl rfl ?_
        refine tv_iret (pc := 106) C dX7_send_106 ?_
        have hin : k = dd_n d := by omega
        subst hin
        have ez : m = sd_z d w := by unfold sd_z; rw [if_pos (by omega), if_neg (by omega)]; exact hm
        rw [ez]
        exact hpost ν hF
      · skip
        refine tv_iload_n (pc := 101) 2 C dX7_send_101 rfl rfl ?_
        refine tv_goto (pc := 102) 106 C dX7_send_102 (by decide) ?_
        refine tv_iret (pc := 106) C dX7_send_106 ?_
        have hin : k = dd_n d := by omega
        subst hin
        have ez : b = sd_z d w := by unfold sd_z; rw [if_pos (by omega), if_pos (by omega)]; exact hb
        rw [ez]
        exact hpost ν hF
    · skip
      have hmr := (bs_r (b0 := -1) (f := (fun k => py_s d (sm_e (ou_p d k) 40))) (c := 72) (by omega) k (fun k hk => py_s_bd hd _) (by omega))
      refine tv_aload_n (pc := 35) 3 C dX7_send_35 rfl rfl ?_
      refine tv_getr (pc := 36) (q := 43) C rfl rfl fl_X7_73 dX7_send_36 ?_
      refine tv_aload_n (pc := 39) 3 C dX7_send_39 rfl rfl ?_
      refine tv_getr (pc := 40) (q := 29) C rfl rfl fl_X7_62 dX7_send_40 ?_
      refine tv_callV (pc := 43) [.ref (E.2.1 29)] [] C (c0_like E _ ν) cv_X7_224 rfl rfl (by decide) rfl (Nat.le_of_ble_eq_true rfl) rfl dX7_send_43 (tm_kv ?_)
      rintro n2 ⟨gl, hF3⟩
      have hA := gl (dd_p d) hS.1 (dd_p_ok hd)
      clear gl
      refine tv_aload_n (pc := 46) 3 C dX7_send_46 rfl rfl ?_
      refine tv_getr (pc := 47) (q := 43) C rfl rfl fl_X7_73 dX7_send_47 ?_
      refine tv_iload (pc := 50) 0 C dX7_send_50 rfl ?_
      refine tv_callV (pc := 52) [tm_i x] [] C (c0_away E _ n2 (dd_n d) k x hx (by omega) h8 hA.2.2.1 (fun q hq => (hA.2.2.2 q (by rw [hA.2.2.1]; show (q : Int) < (dd_n d : Int); omega)).1)) cv_X7_241 rfl rfl (by decide) rfl (Nat.le_of_ble_eq_true rfl) rfl dX7_send_52 (tm_kv ?_)
      rintro na hna
      have hA3 : sm_ag (sm_p na 43) (ou_p d k) := by rw [hna]; exact ag_out hA (by omega)
      have hF4 : ∀ a, ¬ (43 ≤ a ∧ a ≤ 48) → na a = n2 a := fun a ha => by rw [hna, tm_uf (by omega), tm_rowf_f (by omega)]
      clear hna
      refine tv_aload_n (pc := 55) 3 C dX7_send_55 rfl rfl ?_
      refine tv_getr (pc := 56) (q := 49) C rfl rfl fl_X7_76 dX7_send_56 ?_
      refine tv_aload_n (pc := 59) 3 C dX7_send_59 rfl rfl ?_
      refine tv_getr (pc := 60) (q := 43) C rfl rfl fl_X7_73 dX7_send_60 ?_
      refine tv_callV (pc := 63) [.ref (E.2.1 43)] [] C (c5_play_b E _ na (sm_ag_ok hA3 (ou_ok hd (by omega)))) cv_X7_229 rfl rfl (by decide) rfl (Nat.le_of_ble_eq_true rfl) rfl dX7_send_63 (tm_kv ?_)
      rintro n3 hr9
      obtain ⟨hN, hF2⟩ := cl_N_of hA3 (ou_ok hd (by omega)) hr9
      clear hr9
      have e3 : ∀ a, ¬ (43 ≤ a ∧ a ≤ 56) → n3 a = n1 a := fun a ha => by rw [hF2 a (by omega), hF4 a (by omega), hF3 a (by omega), hF a ha]
      have hpb := py_s_bd hd (sm_e (ou_p d k) 40)
      refine tv_aload_n (pc := 66) 3 C dX7_send_66 rfl rfl ?_
      refine tv_getr (pc := 67) (q := 49) C rfl rfl fl_X7_76 dX7_send_67 ?_
      refine tv_aload_n (pc := 70) 3 C dX7_send_70 rfl rfl ?_
      refine tv_getr (pc := 71) (q := 23) C rfl rfl fl_X7_41 dX7_send_71 ?_
      refine tv_callV (pc := 74) [.ref (E.2.1 23)] [] C (c5_sumPaid_b E _ n3 d (sm_e (ou_p d k) 40) hd (by rw [e3 23 (by omega)]; exact g2.2.1) (by rw [e3 26 (by omega), e3 27 (by omega)]; exact fun k hk => ⟨(g2.2.2.1 k hk).2.2.1, (g2.2.2.1 k hk).2.2.2⟩) hN.2.2 (sm_e_40 _)) cv_X7_189 rfl rfl (by decide) rfl (Nat.le_of_ble_eq_true rfl) rfl dX7_send_74 (tm_kp ?_)
      refine tv_istore (pc := 77) [(5, tm_i (py_s d (sm_e (ou_p d k) 40))), (4, tm_i x), (3, tm_i m), (2, tm_i b), (0, .ref (E.2.1 0)), (1, tm_i w)] C dX7_send_77 (by decide) rfl ?_
      refine tv_iload (pc := 79) 0 C dX7_send_79 rfl ?_
      refine tv_iload_n (pc := 81) 2 C dX7_send_81 rfl rfl ?_
      refine tv_icmp_le (pc := 82) 91 C dX7_send_82 (by decide) (by omega) (by omega) (fun h82 => ?_) (fun h82 => ?_)
      · skip
        refine tv_iinc (pc := 91) 1 [(4, tm_i (x + 1)), (5, tm_i (py_s d (sm_e (ou_p d k) 40))), (3, tm_i m), (2, tm_i b), (0, .ref (E.2.1 0)), (1, tm_i w)] C dX7_send_91 rfl (by decide) rfl ?_
        refine tv_goto (pc := 94) 23 C dX7_send_94 (by decide) ?_
        refine tv_sub (lv1 := [(4, tm_i (x + 1)), (3, tm_i m), (2, tm_i b), (0, .ref (E.2.1 0)), (1, tm_i w)]) [0, 2, 3, 4, 5] rfl ?_
        refine ih (k + 1) (x + 1) _ _ n3 (by omega) (by omega) (by omega) ?_ ?_ e3
        · rw [bs_s, if_neg (by omega)]; exact hb
        · rw [bs_s, if_neg (by omega)]; exact hm
      · skip
        refine tv_iload (pc := 85) 1 C dX7_send_85 rfl ?_
        refine tv_istore_n (pc := 87) [(2, tm_i x), (5, tm_i (py_s d (sm_e (ou_p d k) 40))), (4, tm_i x), (3, tm_i m), (0, .ref (E.2.1 0)), (1, tm_i w)] C dX7_send_87 rfl (by decide) rfl ?_
        refine tv_iload (pc := 88) 1 C dX7_send_88 rfl ?_
        refine tv_istore_n (pc := 90) [(3, tm_i (py_s d (sm_e (ou_p d k) 40))), (2, tm_i x), (5, tm_i (py_s d (sm_e (ou_p d k) 40))), (4, tm_i x), (0, .ref (E.2.1 0)), (1, tm_i w)] C dX7_send_90 rfl (by decide) rfl ?_
        refine tv_iinc (pc := 91) 3 [(4, tm_i (x + 1)), (3, tm_i (py_s d (sm_e (ou_p d k) 40))), (2, tm_i x), (5, tm_i (py_s d (sm_e (ou_p d k) 40))), (0, .ref (E.2.1 0)), (1, tm_i w)] C dX7_send_91 rfl (by decide) rfl ?_
        refine tv_goto (pc := 94) 23 C dX7_send_94 (by decide) ?_
        refine tv_sub (lv1 := [(4, tm_i (x + 1)), (3, tm_i (py_s d (sm_e (ou_p d k) 40))), (2, tm_i x), (0, .ref (E.2.1 0)), (1, tm_i w)]) [0, 1, 2, 4, 5] rfl ?_
        refine ih (k + 1) (x + 1) _ _ n3 (by omega) (by omega) (by omega) ?_ ?_ e3
        · rw [bs_s, if_pos (by omega)]; omega
        · rw [bs_s, if_pos (by omega)]
theorem k7_send (E : tm_Ev) (l : Launch) (μ : tm_M) (d s : tm_M) (hd : dd_ok d) (hI : cl_I μ d s) (w : Int) (hw : -2147483648 ≤ w ∧ w ≤ 2147483647) : tm_Met E l yX7_send cX7_send 6 (some .int) 5 [.ref (E.2.1 0), tm_i w] μ (tm_pi (fun z μ' => z = sd_z d w ∧ cl_I μ' d s ∧ ∀ a, 74 ≤ a → μ' a = μ a)) := by
  refine tm_intro [(0, .ref (E.2.1 0)), (1, tm_i w)] rfl (by decide +kernel) (Nat.le_of_ble_eq_true rfl) ?_
  intro X hX C
  subst hX
  have h8 : dd_n d ≤ 8 := sp_no_bd _ (by have q := hd.2.1; omega)
  refine tv_iload_n (pc := 0) 1 C dX7_send_0 rfl rfl ?_
  refine tv_iconst (pc := 1) C dX7_send_1 ?_
  refine tv_iconst (pc := 2) C dX7_send_2 ?_
  refine tv_callS (pc := 3) [tm_i w, tm_i 0, tm_i 1] [] C (c7_within E _ μ w 0 1 (by omega) (by omega) (by omega)) cs_X7_97 (by decide) rfl (Nat.le_of_ble_eq_true rfl) rfl dX7_send_3 (tm_kp ?_)
  refine tv_ifneB (pc := 6) 12 C dX7_send_6 (by decide) (fun h6 => ?_) (fun h6 => ?_)
  · skip
    refine tv_aload_n (pc := 12) 0 C dX7_send_12 rfl rfl ?_
    refine tv_callV (pc := 13) [] [] C (c7_settle E _ μ d hd hI.1 hI.2.2.1 hI.2.2.2.1) cv_X7_125 rfl rfl (by decide) rfl (Nat.le_of_ble_eq_true rfl) rfl dX7_send_13 (tm_kv ?_)
    rintro n1 ⟨g1, g2, g3, g4, g5⟩
    have hI1 := cl_I_set hI g1 g2 g3 g4 g5
    have fr1 : ∀ a, 74 ≤ a → n1 a = μ a := fun a ha => g4 a (by omega)
    have hn := g2.2.1
    have hor := fun k hk => (g2.2.2.1 k hk)
    refine tv_iconst (pc := 16) C dX7_send_16 ?_
    refine tv_istore_n (pc := 17) [(2, tm_i (-1)), (0, .ref (E.2.1 0)), (1, tm_i w)] C dX7_send_17 rfl (by decide) rfl ?_
    refine tv_iconst (pc := 18) C dX7_send_18 ?_
    refine tv_istore_n (pc := 19) [(3, tm_i (-1)), (2, tm_i (-1)), (0, .ref (E.2.1 0)), (1, tm_i w)] C dX7_send_19 rfl (by decide) rfl ?_
    refine tv_iconst (pc := 20) C dX7_send_20 ?_
    refine tv_istore (pc := 21) [(4, tm_i 0), (3, tm_i (-1)), (2, tm_i (-1)), (0, .ref (E.2.1 0)), (1, tm_i w)] C dX7_send_21 (by decide) rfl ?_
    refine tv_sub (lv1 := [(4, tm_i 0), (3, tm_i (-1)), (2, tm_i (-1)), (0, .ref (E.2.1 0)), (1, tm_i w)]) [0, 1, 2, 3, 4] rfl ?_
    exact l_send C d s n1 hd g2 h8 w (by omega) _ (fun n9 q9 => ⟨_, rfl, rfl, cl_I_tr hI1 (fun a h1 _ => q9 a h1), fun a ha => by rw [q9 a (by omega)]; exact fr1 a ha⟩) (dd_n d + 1) 0 0 (-1) (-1) n1 rfl (by omega) (by omega) rfl rfl (fun a _ => rfl)
  · skip
    refine tv_bipush (pc := 9) C dX7_send_9 (by decide) ?_
    refine tv_iret (pc := 11) C dX7_send_11 ?_
    exact ⟨_, rfl, by unfold sd_z; rw [if_neg (by omega)], hI, fun a _ => rfl⟩
