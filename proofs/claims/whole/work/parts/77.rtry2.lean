theorem l_isSeen {E : tm_Ev} {X : tm_X} (C : tm_C E X yX8_isSeen.cls cX8_isSeen 3 (some .boolean) 4) (n3 s p : tm_M) (hs : ss_ok s) (hp : sm_ok p) (z35 : n3 74 35 = s 0 0) (hj1 : ∀ j : Nat, (j : Int) < s 0 0 → n3 94 j = s 1 j ∧ n3 95 j = s 2 j) (hN : ∀ h, h < 40 → n3 87 h = sm_z p (h + 1)) (z0 : 0 ≤ s 0 0 ∧ s 0 0 ≤ 8) (post : Option Value → tm_M → Prop) (hyes : so_b s p = true → post (some (tm_i 1)) n3) (hno : ¬ so_b s p = true → post (some (tm_i 0)) n3) : ∀ (f j : Nat) (x y : Int), x = j → (j : Int) ≤ s 0 0 → 8 - j < f → ((y = 1 ∧ ∀ b, b < j → sm_z p ((s 1 b).toNat + 1) = s 2 b) ∨ (y = 0 ∧ ¬ so_b s p = true)) → tm_V E X (tm_Q E X post) 3 8 [(2, tm_i x), (1, tm_i y), (0, .ref (E.2.1 74))] [] n3 := by
  intro f
  induction f with
  | zero => intro j x y hx hj hf hy; omega
  | succ f ih =>
    intro j x y hx hj hf hy
    refine tv_iload_n (pc := 8) 0 C dX8_isSeen_8 rfl rfl ?_
    refine tv_aload_n (pc := 9) 2 C dX8_isSeen_9 rfl rfl ?_
    refine tv_geti (pc := 10) (z := s 0 0) C rfl rfl fl_X8_265 dX8_isSeen_10 z35 ?_
    refine tv_icmp_ge (pc := 13) 52 C dX8_isSeen_13 (by decide) (by omega) (by omega) (fun h13 => ?_) (fun h13 => ?_)
    · skip
      refine tv_iload_n (pc := 52) 1 C dX8_isSeen_52 rfl rfl ?_
      refine tv_zret (pc := 53) C dX8_isSeen_53 (by omega) ?_
      by_cases hy0 : y = 0
      · rw [hy0]
        refine hno ?_
        rcases hy with ⟨q1, q2⟩ | ⟨q1, q2⟩
        · exfalso; omega
        · exact q2
      · rcases hy with ⟨q1, q2⟩ | ⟨q1, q2⟩
        · rw [q1]
          refine hyes ?_
          unfold so_b
          rw [decide_eq_true_eq]
          exact fun b hb => q2 b (by omega)
        · exfalso; omega
    · skip
      have hr := hs.2.2.1 j (by omega)
      have hz := (sm_bd hp ((s 1 j).toNat + 1) (by omega)).1
      refine tv_iload_n (pc := 16) 1 C dX8_isSeen_16 rfl rfl ?_
      refine tv_if_eq (pc := 17) 52 C dX8_isSeen_17 (by decide) (by omega) (fun h17 => ?_) (fun h17 => ?_)
      · skip
        refine tv_iload_n (pc := 52) 1 C dX8_isSeen_52 rfl rfl ?_
        refine tv_zret (pc := 53) C dX8_isSeen_53 (by omega) ?_
        by_cases hy0 : y = 0
        · rw [hy0]
          refine hno ?_
          rcases hy with ⟨q1, q2⟩ | ⟨q1, q2⟩
          · exfalso; omega
          · exact q2
        · rcases hy with ⟨q1, q2⟩ | ⟨q1, q2⟩
          · rw [q1]
            refine hyes ?_
            unfold so_b
            rw [decide_eq_true_eq]
            exact fun b hb => q2 b (by omega)
          · exfalso; omega
      · skip
        refine tv_aload_n (pc := 20) 2 C dX8_isSeen_20 rfl rfl ?_
        refine tv_getr (pc := 21) (q := 87) C rfl rfl fl_X8_46 dX8_isSeen_21 ?_
        refine tv_aload_n (pc := 24) 2 C dX8_isSeen_24 rfl rfl ?_
        refine tv_getr (pc := 25) (q := 94) C rfl rfl fl_X8_67 dX8_isSeen_25 ?_
        refine tv_iload_n (pc := 28) 0 C dX8_isSeen_28 rfl rfl ?_
        refine tv_iald (pc := 29) (j := j) (z := s 1 j) C rfl dX8_isSeen_29 (by omega) (by omega) ((hj1 j (by omega)).1) ?_
        refine tv_iald (pc := 30) (j := (s 1 j).toNat) (z := sm_z p ((s 1 j).toNat + 1)) C rfl dX8_isSeen_30 (by omega) rfl (hN (s 1 j).toNat (by omega)) ?_
        refine tv_aload_n (pc := 31) 2 C dX8_isSeen_31 rfl rfl ?_
        refine tv_getr (pc := 32) (q := 95) C rfl rfl fl_X8_70 dX8_isSeen_32 ?_
        refine tv_iload_n (pc := 35) 0 C dX8_isSeen_35 rfl rfl ?_
        refine tv_iald (pc := 36) (j := j) (z := s 2 j) C rfl dX8_isSeen_36 (by omega) (by omega) ((hj1 j (by omega)).2) ?_
        refine tv_icmp_ne (pc := 37) 44 C dX8_isSeen_37 (by decide) (by omega) (by omega) (fun h37 => ?_) (fun h37 => ?_)
        · skip
          refine tv_iconst (pc := 44) C dX8_isSeen_44 ?_
          refine tv_istore_n (pc := 45) [(1, tm_i 0), (2, tm_i x), (0, .ref (E.2.1 74))] C dX8_isSeen_45 rfl (by decide) rfl ?_
          refine tv_iinc (pc := 46) 1 [(2, tm_i (x + 1)), (1, tm_i 0), (0, .ref (E.2.1 74))] C dX8_isSeen_46 rfl (by decide) rfl ?_
          refine tv_goto (pc := 49) 8 C dX8_isSeen_49 (by decide) ?_
          refine tv_sub (lv1 := [(2, tm_i (x + 1)), (1, tm_i 0), (0, .ref (E.2.1 74))]) [0, 1, 2] rfl ?_
          refine ih (j + 1) (x + 1) 0 (by omega) (by omega) (by omega) (Or.inr ⟨rfl, fun q => ?_⟩)
          unfold so_b at q
          rw [decide_eq_true_eq] at q
          exact h37 (q j (by omega))
        · skip
          refine tv_iconst (pc := 40) C dX8_isSeen_40 ?_
          refine tv_goto (pc := 41) 45 C dX8_isSeen_41 (by decide) ?_
          refine tv_istore_n (pc := 45) [(1, tm_i 1), (2, tm_i x), (0, .ref (E.2.1 74))] C dX8_isSeen_45 rfl (by decide) rfl ?_
          refine tv_iinc (pc := 46) 1 [(2, tm_i (x + 1)), (1, tm_i 1), (0, .ref (E.2.1 74))] C dX8_isSeen_46 rfl (by decide) rfl ?_
          refine tv_goto (pc := 49) 8 C dX8_isSeen_49 (by decide) ?_
          refine tv_sub (lv1 := [(2, tm_i (x + 1)), (1, tm_i 1), (0, .ref (E.2.1 74))]) [0, 1, 2] rfl ?_
          rcases hy with ⟨q1, q2⟩ | ⟨q1, q2⟩
          · refine ih (j + 1) (x + 1) 1 (by omega) (by omega) (by omega) (Or.inl ⟨rfl, fun b hb => ?_⟩)
            by_cases hc : b = j
            · subst hc; exact h37
            · exact q2 b (by omega)
          · exfalso; omega
theorem c8_seen (E : tm_Ev) (l : Launch) (μ : tm_M) (d s p : tm_M) (hd : dd_ok d) (hs : ss_ok s) (hp : sm_ok p) (hT : rf_T μ d p) (hrd : rf_d μ s) : tm_Met E l yX8_isSeen cX8_isSeen 3 (some .boolean) 4 [.ref (E.2.1 74)] μ (tm_pi (fun z μ' => z = (if so_b s p = true then 1 else 0) ∧ rf_T μ' d p ∧ rf_n μ' p ∧ (∀ a, a ≠ 74 → (a < 87 ∨ 92 < a) → μ' a = μ a) ∧ (∀ b, (b < 21 ∨ 27 < b) → μ' 74 b = μ 74 b))) := by
  refine tm_intro [(0, .ref (E.2.1 74))] rfl (by decide +kernel) (Nat.le_of_ble_eq_true rfl) ?_
  intro X hX C
  subst hX
  refine tv_aload_n (pc := 0) 0 C dX8_isSeen_0 rfl rfl ?_
  refine tv_callV (pc := 1) [] [] C (c8_runs E _ μ (rf_T_ok hT hd hp)) cv_X8_216 rfl rfl (by decide) rfl (Nat.le_of_ble_eq_true rfl) rfl dX8_isSeen_1 (tm_kv ?_)
  rintro n3 hr9
  obtain ⟨hT3, hN, hH, hG⟩ := rf_T_run hT hp hr9
  clear hr9
  refine tv_iconst (pc := 4) C dX8_isSeen_4 ?_
  refine tv_istore_n (pc := 5) [(1, tm_i 1), (0, .ref (E.2.1 74))] C dX8_isSeen_5 rfl (by decide) rfl ?_
  refine tv_iconst (pc := 6) C dX8_isSeen_6 ?_
  refine tv_istore_n (pc := 7) [(2, tm_i 0), (1, tm_i 1), (0, .ref (E.2.1 74))] C dX8_isSeen_7 rfl (by decide) rfl ?_
  refine tv_sub (lv1 := [(2, tm_i 0), (1, tm_i 1), (0, .ref (E.2.1 74))]) [0, 1, 2] rfl ?_
  refine l_isSeen C n3 s p hs hp (by rw [hG 35 (by omega)]; exact hrd.1) (by rw [hH 94 (by omega) (by omega), hH 95 (by omega) (by omega)]; exact hrd.2.1) (fun h hh => (hN.1 h hh).1) hs.1 _ (fun q => ⟨_, rfl, by rw [if_pos q], hT3, hN, hH, hG⟩) (fun q => ⟨_, rfl, by rw [if_neg q], hT3, hN, hH, hG⟩) 9 0 0 1 rfl (by have := hs.1; omega) (by omega) (Or.inl ⟨rfl, fun b hb => by omega⟩)
theorem rf_d_F {μ ν s : tm_M} (h : rf_d μ s) (q : rf_F μ ν) : rf_d ν s := rf_d_same h (fun a ha => q.1 a (by omega)) q.2.1 q.2.2
theorem l_dressOf {E : tm_Ev} {X : tm_X} (C : tm_C E X yX8_dressOf.cls cX8_dressOf 5 (some .int) 7) (μ d s : tm_M) (hd : dd_ok d) (w : Int) (hw : 0 ≤ w ∧ w ≤ 1) (post : Option Value → tm_M → Prop) (hpost : ∀ ν, rf_m ν d → rf_r ν d → rf_F μ ν → post (some (tm_i (dr_z d w))) ν) : ∀ (f h : Nat) (x m b : Int) (ν : tm_M), x = h → h ≤ 40 → 40 - h < f → b = (bs_n (-1) (fun h => sm_t (dr_p d h) 40) h).1 → m = (bs_n (-1) (fun h => sm_t (dr_p d h) 40) h).2 → rf_D ν d → rf_F μ ν → tm_V E X (tm_Q E X post) 5 21 [(4, tm_i x), (3, tm_i m), (2, tm_i b), (0, .ref (E.2.1 74)), (1, tm_i w)] [] ν := by
  intro f
  induction f with
  | zero => intro h x m b ν hx hj hf hb hm hD hF; omega
  | succ f ih =>
    intro h x m b ν hx hj hf hb hm hD hF
    have h12 := hD.1.2.2.2.2.2.1
    have z4 := hd.2.2.2.2.2.1
    refine tv_iload (pc := 21) 0 C dX8_dressOf_21 rfl ?_
    refine tv_bipush (pc := 23) C dX8_dressOf_23 (by decide) ?_
    refine tv_icmp_ge (pc := 25) 81 C dX8_dressOf_25 (by decide) (by omega) (by omega) (fun h25 => ?_) (fun h25 => ?_)
    · skip
      refine tv_iload_n (pc := 81) 4 C dX8_dressOf_81 rfl rfl ?_
      refine tv_if_ne (pc := 82) 89 C dX8_dressOf_82 (by decide) (by omega) (fun h82 => ?_) (fun h82 => ?_)
      · skip
        refine tv_iload_n (pc := 89) 1 C dX8_dressOf_89 rfl rfl ?_
        refine tv_iret (pc := 90) C dX8_dressOf_90 ?_
        have hin : h = 40 := by omega
        subst hin
        have ez : m = dr_z d w := by unfold dr_z; rw [if_pos (by omega), if_neg (by omega)]; exact hm
        rw [ez]
        exact hpost ν hD.1 hD.2.1 hF
      · skip
        refine tv_iload_n (pc := 85) 2 C dX8_dressOf_85 rfl rfl ?_
        refine tv_goto (pc := 86) 90 C dX8_dressOf_86 (by decide) ?_
        refine tv_iret (pc := 90) C dX8_dressOf_90 ?_
        have hin : h = 40 := by omega
        subst hin
        have ez : b = dr_z d w := by unfold dr_z; rw [if_pos (by omega), if_pos (by omega)]; exact hb
        rw [ez]
        exact hpost ν hD.1 hD.2.1 hF
    · skip
      have hmr := (bs_r (b0 := -1) (f := (fun h => sm_t (dr_p d h) 40)) (c := 40) (by omega) h (fun k hk => (sm_bd (dr_ok hd k) 40 (by omega)).2.2.2.1) (by omega))
      have htb := (sm_bd (dr_ok hd h) 40 (by omega)).2.2.2.1
      refine tv_aload_n (pc := 28) 3 C dX8_dressOf_28 rfl rfl ?_
      refine tv_getr (pc := 29) (q := 84) C rfl rfl fl_X8_37 dX8_dressOf_29 ?_
      refine tv_aload_n (pc := 32) 3 C dX8_dressOf_32 rfl rfl ?_
      refine tv_geti (pc := 33) (z := d 3 1) C rfl rfl fl_X8_149 dX8_dressOf_33 h12 ?_
      refine tv_iload (pc := 36) 0 C dX8_dressOf_36 rfl ?_
      refine tv_iast (pc := 38) (j := (d 3 1).toNat) C rfl dX8_dressOf_38 (by omega) rfl ?_
      have hT : rf_T (tm_up ν 84 (d 3 1).toNat x) d (dr_p d h) := by rw [hx]; exact rf_D_T hd hD (by omega)
      refine tv_aload_n (pc := 39) 3 C dX8_dressOf_39 rfl rfl ?_
      refine tv_callV (pc := 40) [] [] C (c8_runs E _ (tm_up ν 84 ((d 3 1).toNat) x) (rf_T_ok hT hd (dr_ok hd h))) cv_X8_216 rfl rfl (by decide) rfl (Nat.le_of_ble_eq_true rfl) rfl dX8_dressOf_40 (tm_kv ?_)
      rintro n3 hr9
      obtain ⟨hT3, hN, hH, hG⟩ := rf_T_run hT (dr_ok hd h) hr9
      clear hr9
      refine tv_aload_n (pc := 43) 3 C dX8_dressOf_43 rfl rfl ?_
      refine tv_geti (pc := 44) (z := sm_t (dr_p d h) 40) C rfl rfl fl_X8_194 dX8_dressOf_44 hN.2.2.1 ?_
      refine tv_iload_n (pc := 47) 1 C dX8_dressOf_47 rfl rfl ?_
      refine tv_icmp_le (pc := 48) 56 C dX8_dressOf_48 (by decide) (by omega) (by omega) (fun h48 => ?_) (fun h48 => ?_)
      · skip
        refine tv_iload_n (pc := 56) 2 C dX8_dressOf_56 rfl rfl ?_
        refine tv_istore_n (pc := 57) [(2, tm_i b), (4, tm_i x), (3, tm_i m), (0, .ref (E.2.1 74)), (1, tm_i w)] C dX8_dressOf_57 rfl (by decide) rfl ?_
        refine tv_aload_n (pc := 58) 3 C dX8_dressOf_58 rfl rfl ?_
        refine tv_geti (pc := 59) (z := sm_t (dr_p d h) 40) C rfl rfl fl_X8_194 dX8_dressOf_59 hN.2.2.1 ?_
        refine tv_iload_n (pc := 62) 2 C dX8_dressOf_62 rfl rfl ?_
        refine tv_icmp_le (pc := 63) 73 C dX8_dressOf_63 (by decide) (by omega) (by omega) (fun h63 => ?_) (fun h63 => ?_)
        · skip
          refine tv_iload_n (pc := 73) 2 C dX8_dressOf_73 rfl rfl ?_
          refine tv_istore_n (pc := 74) [(3, tm_i m), (2, tm_i b), (4, tm_i x), (0, .ref (E.2.1 74)), (1, tm_i w)] C dX8_dressOf_74 rfl (by decide) rfl ?_
          refine tv_iinc (pc := 75) 2 [(4, tm_i (x + 1)), (3, tm_i m), (2, tm_i b), (0, .ref (E.2.1 74)), (1, tm_i w)] C dX8_dressOf_75 rfl (by decide) rfl ?_
          refine tv_goto (pc := 78) 21 C dX8_dressOf_78 (by decide) ?_
          refine tv_sub (lv1 := [(4, tm_i (x + 1)), (3, tm_i m), (2, tm_i b), (0, .ref (E.2.1 74)), (1, tm_i w)]) [0, 1, 2, 3, 4] rfl ?_
          refine ih (h + 1) (x + 1) _ _ n3 (by omega) (by omega) (by omega) ?_ ?_ (rf_D_same (y := (d 3 1).toNat) hD (fun a h1 h2 h3 => by rw [hH a h1 h3, tm_uf h2]) (fun b hb => by rw [hH 84 (by omega) (by omega), tm_uj hb]) rfl (fun b hb => by rw [hG b hb, tm_uk (by decide)]) hd) (rf_F_t hF (fun a ha => by rw [hH a (by omega) (by omega), tm_uf (by omega)]) (by rw [hG 35 (by omega), tm_uk (by decide)]) (by rw [hG 44 (by omega), tm_uk (by decide)]))
          · rw [bs_s, if_neg (by omega)]; exact hb
          · rw [bs_s, if_neg (by omega)]; exact hm
        · skip
          refine tv_aload_n (pc := 66) 3 C dX8_dressOf_66 rfl rfl ?_
          refine tv_geti (pc := 67) (z := sm_t (dr_p d h) 40) C rfl rfl fl_X8_194 dX8_dressOf_67 hN.2.2.1 ?_
          refine tv_goto (pc := 70) 74 C dX8_dressOf_70 (by decide) ?_
          refine tv_istore_n (pc := 74) [(3, tm_i (sm_t (dr_p d h) 40)), (2, tm_i b), (4, tm_i x), (0, .ref (E.2.1 74)), (1, tm_i w)] C dX8_dressOf_74 rfl (by decide) rfl ?_
          refine tv_iinc (pc := 75) 2 [(4, tm_i (x + 1)), (3, tm_i (sm_t (dr_p d h) 40)), (2, tm_i b), (0, .ref (E.2.1 74)), (1, tm_i w)] C dX8_dressOf_75 rfl (by decide) rfl ?_
          refine tv_goto (pc := 78) 21 C dX8_dressOf_78 (by decide) ?_
          refine tv_sub (lv1 := [(4, tm_i (x + 1)), (3, tm_i (sm_t (dr_p d h) 40)), (2, tm_i b), (0, .ref (E.2.1 74)), (1, tm_i w)]) [0, 1, 2, 3, 4] rfl ?_
          exfalso; omega
      · skip
        refine tv_iload (pc := 51) 0 C dX8_dressOf_51 rfl ?_
        refine tv_goto (pc := 53) 57 C dX8_dressOf_53 (by decide) ?_
        refine tv_istore_n (pc := 57) [(2, tm_i x), (4, tm_i x), (3, tm_i m), (0, .ref (E.2.1 74)), (1, tm_i w)] C dX8_dressOf_57 rfl (by decide) rfl ?_
        refine tv_aload_n (pc := 58) 3 C dX8_dressOf_58 rfl rfl ?_
        refine tv_geti (pc := 59) (z := sm_t (dr_p d h) 40) C rfl rfl fl_X8_194 dX8_dressOf_59 hN.2.2.1 ?_
        refine tv_iload_n (pc := 62) 2 C dX8_dressOf_62 rfl rfl ?_
        refine tv_icmp_le (pc := 63) 73 C dX8_dressOf_63 (by decide) (by omega) (by omega) (fun h63 => ?_) (fun h63 => ?_)
        · skip
          refine tv_iload_n (pc := 73) 2 C dX8_dressOf_73 rfl rfl ?_
          refine tv_istore_n (pc := 74) [(3, tm_i m), (2, tm_i x), (4, tm_i x), (0, .ref (E.2.1 74)), (1, tm_i w)] C dX8_dressOf_74 rfl (by decide) rfl ?_
          refine tv_iinc (pc := 75) 2 [(4, tm_i (x + 1)), (3, tm_i m), (2, tm_i x), (0, .ref (E.2.1 74)), (1, tm_i w)] C dX8_dressOf_75 rfl (by decide) rfl ?_
          refine tv_goto (pc := 78) 21 C dX8_dressOf_78 (by decide) ?_
          refine tv_sub (lv1 := [(4, tm_i (x + 1)), (3, tm_i m), (2, tm_i x), (0, .ref (E.2.1 74)), (1, tm_i w)]) [0, 1, 2, 3, 4] rfl ?_
          exfalso; omega
        · skip
          refine tv_aload_n (pc := 66) 3 C dX8_dressOf_66 rfl rfl ?_
          refine tv_geti (pc := 67) (z := sm_t (dr_p d h) 40) C rfl rfl fl_X8_194 dX8_dressOf_67 hN.2.2.1 ?_
          refine tv_goto (pc := 70) 74 C dX8_dressOf_70 (by decide) ?_
          refine tv_istore_n (pc := 74) [(3, tm_i (sm_t (dr_p d h) 40)), (2, tm_i x), (4, tm_i x), (0, .ref (E.2.1 74)), (1, tm_i w)] C dX8_dressOf_74 rfl (by decide) rfl ?_
          refine tv_iinc (pc := 75) 2 [(4, tm_i (x + 1)), (3, tm_i (sm_t (dr_p d h) 40)), (2, tm_i x), (0, .ref (E.2.1 74)), (1, tm_i w)] C dX8_dressOf_75 rfl (by decide) rfl ?_
          refine tv_goto (pc := 78) 21 C dX8_dressOf_78 (by decide) ?_
          refine tv_sub (lv1 := [(4, tm_i (x + 1)), (3, tm_i (sm_t (dr_p d h) 40)), (2, tm_i x), (0, .ref (E.2.1 74)), (1, tm_i w)]) [0, 1, 2, 3, 4] rfl ?_
          refine ih (h + 1) (x + 1) _ _ n3 (by omega) (by omega) (by omega) ?_ ?_ (rf_D_same (y := (d 3 1).toNat) hD (fun a h1 h2 h3 => by rw [hH a h1 h3, tm_uf h2]) (fun b hb => by rw [hH 84 (by omega) (by omega), tm_uj hb]) rfl (fun b hb => by rw [hG b hb, tm_uk (by decide)]) hd) (rf_F_t hF (fun a ha => by rw [hH a (by omega) (by omega), tm_uf (by omega)]) (by rw [hG 35 (by omega), tm_uk (by decide)]) (by rw [hG 44 (by omega), tm_uk (by decide)]))
          · rw [bs_s, if_pos (by omega)]; omega
          · rw [bs_s, if_pos (by omega)]
theorem k8_dressOf (E : tm_Ev) (l : Launch) (μ : tm_M) (d s : tm_M) (hd : dd_ok d) (hI : rf_I μ d s) (w : Int) (hw : 0 ≤ w ∧ w ≤ 1) : tm_Met E l yX8_dressOf cX8_dressOf 5 (some .int) 7 [.ref (E.2.1 74), tm_i w] μ (tm_pi (fun z μ' => z = dr_z d w ∧ rf_I μ' d s ∧ rf_r μ' d ∧ ∀ a, a < 74 → μ' a = μ a)) := by
  refine tm_intro [(0, .ref (E.2.1 74)), (1, tm_i w)] rfl (by decide +kernel) (Nat.le_of_ble_eq_true rfl) ?_
  intro X hX C
  subst hX
  refine tv_aload_n (pc := 0) 0 C dX8_dressOf_0 rfl rfl ?_
  refine tv_callV (pc := 1) [] [] C (c8_asTold E _ μ d hd hI.1) cv_X8_213 rfl rfl (by decide) rfl (Nat.le_of_ble_eq_true rfl) rfl dX8_dressOf_1 (tm_kv ?_)
  rintro n1 ⟨g1, g2, g3, g4⟩
  have hF0 := rf_F_g g4
  have hT0 := rf_T_t hd g1 g2 g3
  have h12 := g1.2.2.2.2.2.1
  have hn := g2.2.1
  refine tv_iconst (pc := 4) C dX8_dressOf_4 ?_
  refine tv_istore_n (pc := 5) [(2, tm_i (-1)), (0, .ref (E.2.1 74)), (1, tm_i w)] C dX8_dressOf_5 rfl (by decide) rfl ?_
  refine tv_iconst (pc := 6) C dX8_dressOf_6 ?_
  refine tv_istore_n (pc := 7) [(3, tm_i (-1)), (2, tm_i (-1)), (0, .ref (E.2.1 74)), (1, tm_i w)] C dX8_dressOf_7 rfl (by decide) rfl ?_
  refine tv_aload_n (pc := 8) 2 C dX8_dressOf_8 rfl rfl ?_
  refine tv_aload_n (pc := 9) 2 C dX8_dressOf_9 rfl rfl ?_
  refine tv_geti (pc := 10) (z := d 3 1) C rfl rfl fl_X8_149 dX8_dressOf_10 h12 ?_
  refine tv_iconst (pc := 13) C dX8_dressOf_13 ?_
  refine tv_iadd (pc := 14) C dX8_dressOf_14 ?_
  refine tv_puti (pc := 15) C rfl rfl fp_X8_164 dX8_dressOf_15 ?_
  refine tv_iconst (pc := 18) C dX8_dressOf_18 ?_
  refine tv_istore (pc := 19) [(4, tm_i 0), (3, tm_i (-1)), (2, tm_i (-1)), (0, .ref (E.2.1 74)), (1, tm_i w)] C dX8_dressOf_19 (by decide) rfl ?_
  refine tv_sub (lv1 := [(4, tm_i 0), (3, tm_i (-1)), (2, tm_i (-1)), (0, .ref (E.2.1 74)), (1, tm_i w)]) [0, 1, 2, 3, 4] rfl ?_
  exact l_dressOf C μ d s hd w hw _ (fun n9 q1 q2 q3 => ⟨_, rfl, rfl, rf_I_F hI q1 q3, q2, fun a ha => q3.1 a (Or.inl ha)⟩) 41 0 0 (-1) (-1) _ rfl (by omega) (by omega) rfl rfl (rf_D_t g1 g2 g3) (rf_F_t hF0 (fun a ha => tm_uf (by omega)) (tm_uj (by decide)) (tm_uj (by decide)))
theorem k8_dress (E : tm_Ev) (l : Launch) (μ : tm_M) (d s : tm_M) (hd : dd_ok d) (hI : rf_I μ d s) (w : Int) (hw : -2147483648 ≤ w ∧ w ≤ 2147483647) : tm_Met E l yX8_dress cX8_dress 2 (some .int) 8 [.ref (E.2.1 74), tm_i w] μ (tm_pi (fun z μ' => z = dr_z d w ∧ rf_I μ' d s ∧ ∀ a, a < 74 → μ' a = μ a)) := by
  refine tm_intro [(0, .ref (E.2.1 74)), (1, tm_i w)] rfl (by decide +kernel) (Nat.le_of_ble_eq_true rfl) ?_
  intro X hX C
  subst hX
  refine tv_iload_n (pc := 0) 1 C dX8_dress_0 rfl rfl ?_
  refine tv_iconst (pc := 1) C dX8_dress_1 ?_
  refine tv_iconst (pc := 2) C dX8_dress_2 ?_
  refine tv_callS (pc := 3) [tm_i w, tm_i 0, tm_i 1] [] C (c8_in E _ μ w 0 1 (by omega) (by omega) (by omega)) cs_X8_94 (by decide) rfl (Nat.le_of_ble_eq_true rfl) rfl dX8_dress_3 (tm_kp ?_)
  refine tv_ifeqB (pc := 6) 17 C dX8_dress_6 (by decide) (fun h6 => ?_) (fun h6 => ?_)
  · skip
    refine tv_bipush (pc := 17) C dX8_dress_17 (by decide) ?_
    refine tv_iret (pc := 19) C dX8_dress_19 ?_
    exact ⟨_, rfl, by unfold dr_z; rw [if_neg (by omega)], hI, fun a _ => rfl⟩
  · skip
    refine tv_aload_n (pc := 9) 0 C dX8_dress_9 rfl rfl ?_
    refine tv_iload_n (pc := 10) 1 C dX8_dress_10 rfl rfl ?_
    refine tv_callV (pc := 11) [tm_i w] [] C (k8_dressOf E _ μ d s hd hI w (by omega)) cv_X8_256 rfl rfl (by decide) rfl (Nat.le_of_ble_eq_true rfl) rfl dX8_dress_11 (tm_ki ?_)
    rintro zz n1 ⟨hz, hI1, g2, fr1⟩
    refine tv_goto (pc := 14) 19 C dX8_dress_14 (by decide) ?_
    refine tv_iret (pc := 19) C dX8_dress_19 ?_
    exact ⟨_, rfl, hz, hI1, fr1⟩
theorem l_leastNow {E : tm_Ev} {X : tm_X} (C : tm_C E X yX8_leastNow.cls cX8_leastNow 3 (some .int) 7) (μ d s : tm_M) (hd : dd_ok d) (h8 : dd_n d ≤ 8) (post : Option Value → tm_M → Prop) (hpost : ∀ ν, rf_m ν d → rf_r ν d → rf_F μ ν → post (some (tm_i (le_z d))) ν) : ∀ (f v : Nat) (x y v0 : Int) (ν : tm_M), x = v → v ≤ 21 → 21 - v < f → ((y = -1 ∧ le_z d = fi_n (fun v => !(le_g d v)) (21 - v) v) ∨ (y = le_z d ∧ ¬ y = -1)) → rf_T ν d (di_p d 0 v0) → rf_F μ ν → tm_V E X (tm_Q E X post) 3 8 [(2, tm_i x), (1, tm_i y), (0, .ref (E.2.1 74))] [] ν := by
  intro f
  induction f with
  | zero => intro v x y v0 ν hx hj hf hy hT hF; omega
  | succ f ih =>
    intro v x y v0 ν hx hj hf hy hT hF
    have hyr : -1 ≤ y ∧ y ≤ 21 := by
      rcases hy with ⟨q1, q2⟩ | ⟨q1, q2⟩
      · omega
      · rcases fi_bd (ok := fun v => !(le_g d v)) 21 0 with q | q
        · unfold le_z at q1; omega
        · unfold le_z at q1; omega
    refine tv_iload_n (pc := 8) 0 C dX8_leastNow_8 rfl rfl ?_
    refine tv_bipush (pc := 9) C dX8_leastNow_9 (by decide) ?_
    refine tv_icmp_ge (pc := 11) 51 C dX8_leastNow_11 (by decide) (by omega) (by omega) (fun h11 => ?_) (fun h11 => ?_)
    · skip
      refine tv_iload_n (pc := 51) 1 C dX8_leastNow_51 rfl rfl ?_
      refine tv_iret (pc := 52) C dX8_leastNow_52 ?_
      have ez : y = le_z d := by
        rcases hy with ⟨q1, q2⟩ | ⟨q1, q2⟩
        · rw [q1, q2, fi_e (by omega)]
        · exact q1
      rw [ez]
      exact hpost ν hT.1 hT.2.1 hF
    · skip
      refine tv_iload_n (pc := 14) 1 C dX8_leastNow_14 rfl rfl ?_
      refine tv_iconst (pc := 15) C dX8_leastNow_15 ?_
      refine tv_icmp_ne (pc := 16) 51 C dX8_leastNow_16 (by decide) (by omega) (by omega) (fun h16 => ?_) (fun h16 => ?_)
      · skip
        refine tv_iload_n (pc := 51) 1 C dX8_leastNow_51 rfl rfl ?_
        refine tv_iret (pc := 52) C dX8_leastNow_52 ?_
        have ez : y = le_z d := by
          rcases hy with ⟨q1, q2⟩ | ⟨q1, q2⟩
          · rw [q1, q2, fi_e (by omega)]
          · exact q1
        rw [ez]
        exact hpost ν hT.1 hT.2.1 hF
      · skip
        have hle : le_z d = fi_n (fun v => !(le_g d v)) (21 - v) v := by
          rcases hy with ⟨q1, q2⟩ | ⟨q1, q2⟩
          · exact q2
          · exfalso; omega
        have hqb := (sm_bd (di_ok0 hd (v := x) (by omega)) 40 (by omega)).2.2.2.2.2.1
        have hqc : di_p d 0 x 5 0 = (dd_n d : Int) := rfl
        refine tv_aload_n (pc := 19) 2 C dX8_leastNow_19 rfl rfl ?_
        refine tv_iload_n (pc := 20) 0 C dX8_leastNow_20 rfl rfl ?_
        refine tv_puti (pc := 21) C rfl rfl fp_X8_170 dX8_leastNow_21 ?_
        refine tv_aload_n (pc := 24) 2 C dX8_leastNow_24 rfl rfl ?_
        refine tv_callV (pc := 25) [] [] C (c8_runs E _ (tm_up ν 74 19 x) (rf_T_ok (rf_T_19 hT x) hd (di_ok0 hd (by omega)))) cv_X8_216 rfl rfl (by decide) rfl (Nat.le_of_ble_eq_true rfl) rfl dX8_leastNow_25 (tm_kv ?_)
        rintro n3 hr9
        obtain ⟨hT3, hN, hH, hG⟩ := rf_T_run (rf_T_19 hT x) (di_ok0 hd (by omega)) hr9
        clear hr9
        refine tv_aload_n (pc := 28) 2 C dX8_leastNow_28 rfl rfl ?_
        refine tv_geti (pc := 29) (z := (sm_q (di_p d 0 x) 40 : Int)) C rfl rfl fl_X8_185 dX8_leastNow_29 hN.2.2.2.2.2 ?_
        refine tv_aload_n (pc := 32) 2 C dX8_leastNow_32 rfl rfl ?_
        refine tv_geti (pc := 33) (z := (dd_n d : Int)) C rfl rfl fl_X8_167 dX8_leastNow_33 hT3.2.2.1.2.2.1 ?_
        refine tv_icmp_ne (pc := 36) 43 C dX8_leastNow_36 (by decide) (by omega) (by omega) (fun h36 => ?_) (fun h36 => ?_)
        · skip
          refine tv_iconst (pc := 43) C dX8_leastNow_43 ?_
          refine tv_istore_n (pc := 44) [(1, tm_i (-1)), (2, tm_i x), (0, .ref (E.2.1 74))] C dX8_leastNow_44 rfl (by decide) rfl ?_
          refine tv_iinc (pc := 45) 1 [(2, tm_i (x + 1)), (1, tm_i (-1)), (0, .ref (E.2.1 74))] C dX8_leastNow_45 rfl (by decide) rfl ?_
          refine tv_goto (pc := 48) 8 C dX8_leastNow_48 (by decide) ?_
          refine tv_sub (lv1 := [(2, tm_i (x + 1)), (1, tm_i (-1)), (0, .ref (E.2.1 74))]) [0, 1, 2] rfl ?_
          refine ih (v + 1) (x + 1) (-1) x n3 (by omega) (by omega) (by omega) (Or.inl ⟨rfl, ?_⟩) hT3 (rf_F_t hF (fun a ha => by rw [hH a (by omega) (by omega), tm_uf (by omega)]) (by rw [hG 35 (by omega), tm_uj (by decide)]) (by rw [hG 44 (by omega), tm_uj (by decide)]))
          rw [hle]
          exact fi_y (by omega) (by unfold le_g; rw [← hx]; simp; omega)
        · skip
          refine tv_iload_n (pc := 39) 0 C dX8_leastNow_39 rfl rfl ?_
          refine tv_goto (pc := 40) 44 C dX8_leastNow_40 (by decide) ?_
          refine tv_istore_n (pc := 44) [(1, tm_i x), (2, tm_i x), (0, .ref (E.2.1 74))] C dX8_leastNow_44 rfl (by decide) rfl ?_
          refine tv_iinc (pc := 45) 1 [(2, tm_i (x + 1)), (1, tm_i x), (0, .ref (E.2.1 74))] C dX8_leastNow_45 rfl (by decide) rfl ?_
          refine tv_goto (pc := 48) 8 C dX8_leastNow_48 (by decide) ?_
          refine tv_sub (lv1 := [(2, tm_i (x + 1)), (1, tm_i x), (0, .ref (E.2.1 74))]) [0, 1, 2] rfl ?_
          refine ih (v + 1) (x + 1) x x n3 (by omega) (by omega) (by omega) (Or.inr ⟨?_, by omega⟩) hT3 (rf_F_t hF (fun a ha => by rw [hH a (by omega) (by omega), tm_uf (by omega)]) (by rw [hG 35 (by omega), tm_uj (by decide)]) (by rw [hG 44 (by omega), tm_uj (by decide)]))
          rw [hle, fi_x (by omega) (by unfold le_g; rw [← hx]; simp; omega)]; omega
theorem k8_leastNow (E : tm_Ev) (l : Launch) (μ : tm_M) (d s : tm_M) (hd : dd_ok d) (hI : rf_I μ d s) : tm_Met E l yX8_leastNow cX8_leastNow 3 (some .int) 7 [.ref (E.2.1 74)] μ (tm_pi (fun z μ' => z = le_z d ∧ rf_I μ' d s ∧ rf_r μ' d ∧ ∀ a, a < 74 → μ' a = μ a)) := by
  refine tm_intro [(0, .ref (E.2.1 74))] rfl (by decide +kernel) (Nat.le_of_ble_eq_true rfl) ?_
  intro X hX C
  subst hX
  have h8 : dd_n d ≤ 8 := sp_no_bd _ (by have q := hd.2.1; omega)
  refine tv_aload_n (pc := 0) 0 C dX8_leastNow_0 rfl rfl ?_
  refine tv_callV (pc := 1) [] [] C (c8_asTold E _ μ d hd hI.1) cv_X8_213 rfl rfl (by decide) rfl (Nat.le_of_ble_eq_true rfl) rfl dX8_leastNow_1 (tm_kv ?_)
  rintro n1 ⟨g1, g2, g3, g4⟩
  have hF0 := rf_F_g g4
  have hT0 := rf_T_t hd g1 g2 g3
  have h12 := g1.2.2.2.2.2.1
  have hn := g2.2.1
  refine tv_iconst (pc := 4) C dX8_leastNow_4 ?_
  refine tv_istore_n (pc := 5) [(1, tm_i (-1)), (0, .ref (E.2.1 74))] C dX8_leastNow_5 rfl (by decide) rfl ?_
  refine tv_iconst (pc := 6) C dX8_leastNow_6 ?_
  refine tv_istore_n (pc := 7) [(2, tm_i 0), (1, tm_i (-1)), (0, .ref (E.2.1 74))] C dX8_leastNow_7 rfl (by decide) rfl ?_
  refine tv_sub (lv1 := [(2, tm_i 0), (1, tm_i (-1)), (0, .ref (E.2.1 74))]) [0, 1, 2] rfl ?_
  exact l_leastNow C μ d s hd h8 _ (fun n9 q1 q2 q3 => ⟨_, rfl, rfl, rf_I_F hI q1 q3, q2, fun a ha => q3.1 a (Or.inl ha)⟩) 22 0 0 (-1) (dd_p d 0 0) n1 rfl (by omega) (by omega) (Or.inl ⟨rfl, rfl⟩) (by rw [di_id]; exact hT0) hF0
theorem k8_least (E : tm_Ev) (l : Launch) (μ : tm_M) (d s : tm_M) (hd : dd_ok d) (hI : rf_I μ d s) : tm_Met E l yX8_least cX8_least 1 (some .int) 8 [.ref (E.2.1 74)] μ (tm_pi (fun z μ' => z = le_z d ∧ rf_I μ' d s ∧ ∀ a, a < 74 → μ' a = μ a)) := by
  refine tm_intro [(0, .ref (E.2.1 74))] rfl (by decide +kernel) (Nat.le_of_ble_eq_true rfl) ?_
  intro X hX C
  subst hX
  refine tv_aload_n (pc := 0) 0 C dX8_least_0 rfl rfl ?_
  refine tv_callV (pc := 1) [] [] C (k8_leastNow E _ μ d s hd hI ) cv_X8_259 rfl rfl (by decide) rfl (Nat.le_of_ble_eq_true rfl) rfl dX8_least_1 (tm_ki ?_)
  rintro zz n1 ⟨hz, hI1, g2, fr1⟩
  refine tv_iret (pc := 4) C dX8_least_4 ?_
  exact ⟨_, rfl, hz, hI1, fr1⟩
theorem l_sendOf1 {E : tm_Ev} {X : tm_X} (C : tm_C E X yX8_sendOf.cls cX8_sendOf 6 (some .int) 7) (ν d : tm_M) (k : Nat) (x m b w : Int) (hx : x = k) (hk : k < dd_n d) (h8 : dd_n d ≤ 8) (h17 : ν 74 17 = (dd_n d : Int) - 1) (Q : State → Prop) (hk9 : tm_V E X Q 6 71 [(4, tm_i x), (3, tm_i m), (2, tm_i b), (0, .ref (E.2.1 74)), (1, tm_i w)] [] (tm_rowf ν 86 (dd_n d - 1) (fun q : Nat => if q < k then (q : Int) else (q : Int) + 1))) : ∀ (f q : Nat) (z : Int), z = q → q ≤ dd_n d - 1 → dd_n d - 1 - q < f → tm_V E X Q 6 33 [(5, tm_i z), (4, tm_i x), (3, tm_i m), (2, tm_i b), (0, .ref (E.2.1 74)), (1, tm_i w)] [] (tm_rowf ν 86 q (fun q : Nat => if q < k then (q : Int) else (q : Int) + 1)) := by
  intro f
  induction f with
  | zero => intro q z hz hj hf; omega
  | succ f ih =>
    intro q z hz hj hf
    refine tv_iload (pc := 33) 0 C dX8_sendOf_33 rfl ?_
    refine tv_aload_n (pc := 35) 4 C dX8_sendOf_35 rfl rfl ?_
    refine tv_geti (pc := 36) (z := (dd_n d : Int) - 1) C rfl rfl fl_X8_167 dX8_sendOf_36 ((tm_rowf_k (by omega)).trans h17) ?_
    refine tv_icmp_ge (pc := 39) 71 C dX8_sendOf_39 (by decide) (by omega) (by omega) (fun h39 => ?_) (fun h39 => ?_)
    · skip
      refine tv_sub (lv1 := [(4, tm_i x), (3, tm_i m), (2, tm_i b), (0, .ref (E.2.1 74)), (1, tm_i w)]) [1, 2, 3, 4, 5] rfl ?_
      have hin : q = dd_n d - 1 := by omega
      subst hin
      exact hk9
    · skip
      refine tv_aload_n (pc := 42) 4 C dX8_sendOf_42 rfl rfl ?_
      refine tv_getr (pc := 43) (q := 86) C rfl rfl fl_X8_43 dX8_sendOf_43 ?_
      refine tv_iload (pc := 46) 0 C dX8_sendOf_46 rfl ?_
      refine tv_iload (pc := 48) 0 C dX8_sendOf_48 rfl ?_
      refine tv_iload (pc := 50) 1 C dX8_sendOf_50 rfl ?_
      refine tv_icmp_ge (pc := 52) 60 C dX8_sendOf_52 (by decide) (by omega) (by omega) (fun h52 => ?_) (fun h52 => ?_)
      · skip
        refine tv_iload (pc := 60) 0 C dX8_sendOf_60 rfl ?_
        refine tv_iconst (pc := 62) C dX8_sendOf_62 ?_
        refine tv_iadd (pc := 63) C dX8_sendOf_63 ?_
        refine tv_iast (pc := 64) (j := q) C rfl dX8_sendOf_64 (by omega) (by omega) ?_
        refine tv_iinc (pc := 65) 0 [(5, tm_i (z + 1)), (4, tm_i x), (3, tm_i m), (2, tm_i b), (0, .ref (E.2.1 74)), (1, tm_i w)] C dX8_sendOf_65 rfl (by decide) rfl ?_
        refine tv_goto (pc := 68) 33 C dX8_sendOf_68 (by decide) ?_
        refine tv_sub (lv1 := [(5, tm_i (z + 1)), (4, tm_i x), (3, tm_i m), (2, tm_i b), (0, .ref (E.2.1 74)), (1, tm_i w)]) [0, 1, 2, 3, 4, 5] rfl ?_
        rw [tm_rowf_s (by show _ = if q < k then (q : Int) else (q : Int) + 1; rw [if_neg (by omega)]; omega)]
        exact ih (q + 1) (z + 1) (by omega) (by omega) (by omega)
      · skip
        refine tv_iload (pc := 55) 0 C dX8_sendOf_55 rfl ?_
        refine tv_goto (pc := 57) 64 C dX8_sendOf_57 (by decide) ?_
        refine tv_iast (pc := 64) (j := q) C rfl dX8_sendOf_64 (by omega) (by omega) ?_
        refine tv_iinc (pc := 65) 0 [(5, tm_i (z + 1)), (4, tm_i x), (3, tm_i m), (2, tm_i b), (0, .ref (E.2.1 74)), (1, tm_i w)] C dX8_sendOf_65 rfl (by decide) rfl ?_
        refine tv_goto (pc := 68) 33 C dX8_sendOf_68 (by decide) ?_
        refine tv_sub (lv1 := [(5, tm_i (z + 1)), (4, tm_i x), (3, tm_i m), (2, tm_i b), (0, .ref (E.2.1 74)), (1, tm_i w)]) [0, 1, 2, 3, 4, 5] rfl ?_
        rw [tm_rowf_s (by show _ = if q < k then (q : Int) else (q : Int) + 1; rw [if_pos (by omega)]; omega)]
        exact ih (q + 1) (z + 1) (by omega) (by omega) (by omega)
theorem l_sendOf {E : tm_Ev} {X : tm_X} (C : tm_C E X yX8_sendOf.cls cX8_sendOf 6 (some .int) 7) (μ d s : tm_M) (hd : dd_ok d) (h8 : dd_n d ≤ 8) (w : Int) (hw : 0 ≤ w ∧ w ≤ 1) (post : Option Value → tm_M → Prop) (hpost : ∀ ν, rf_m ν d → rf_r ν d → rf_F μ ν → post (some (tm_i (sd_z d w))) ν) : ∀ (f k : Nat) (x m b : Int) (ν : tm_M), x = k → k ≤ dd_n d → dd_n d - k < f → b = (bs_n (-1) (fun k => py_s d (sm_e (ou_p d k) 40)) k).1 → m = (bs_n (-1) (fun k => py_s d (sm_e (ou_p d k) 40)) k).2 → rf_S ν d → rf_F μ ν → tm_V E X (tm_Q E X post) 6 21 [(4, tm_i x), (3, tm_i m), (2, tm_i b), (0, .ref (E.2.1 74)), (1, tm_i w)] [] ν := by
  intro f
  induction f with
  | zero => intro k x m b ν hx hj hf hb hm hS hF; omega
  | succ f ih =>
    intro k x m b ν hx hj hf hb hm hS hF
    refine tv_iload (pc := 21) 0 C dX8_sendOf_21 rfl ?_
    refine tv_aload_n (pc := 23) 3 C dX8_sendOf_23 rfl rfl ?_
    refine tv_geti (pc := 24) (z := (dd_n d : Int)) C rfl rfl fl_X8_114 dX8_sendOf_24 hS.2.1.2.1 ?_
    refine tv_icmp_ge (pc := 27) 113 C dX8_sendOf_27 (by decide) (by omega) (by omega) (fun h27 => ?_) (fun h27 => ?_)
    · skip
      refine tv_iload_n (pc := 113) 4 C dX8_sendOf_113 rfl rfl ?_
      refine tv_if_ne (pc := 114) 121 C dX8_sendOf_114 (by decide) (by omega) (fun h114 => ?_) (fun h114 => ?_)
      · skip
        refine tv_iload_n (pc := 121) 1 C dX8_sendOf_121 rfl rfl ?_
        refine tv_iret (pc := 122) C dX8_sendOf_122 ?_
        have hin : k = dd_n d := by omega
        subst hin
        have ez : m = sd_z d w := by unfold sd_z; rw [if_pos (by omega), if_neg (by omega)]; exact hm
        rw [ez]
        exact hpost ν hS.1 hS.2.1 hF
      · skip
        refine tv_iload_n (pc := 117) 2 C dX8_sendOf_117 rfl rfl ?_
        refine tv_goto (pc := 118) 122 C dX8_sendOf_118 (by decide) ?_
        refine tv_iret (pc := 122) C dX8_sendOf_122 ?_
        have hin : k = dd_n d := by omega
        subst hin
        have ez : b = sd_z d w := by unfold sd_z; rw [if_pos (by omega), if_pos (by omega)]; exact hb
        rw [ez]
        exact hpost ν hS.1 hS.2.1 hF
    · skip
      refine tv_iconst (pc := 30) C dX8_sendOf_30 ?_
      refine tv_istore (pc := 31) [(5, tm_i 0), (4, tm_i x), (3, tm_i m), (2, tm_i b), (0, .ref (E.2.1 74)), (1, tm_i w)] C dX8_sendOf_31 (by decide) rfl ?_
      refine tv_sub (lv1 := [(5, tm_i 0), (4, tm_i x), (3, tm_i m), (2, tm_i b), (0, .ref (E.2.1 74)), (1, tm_i w)]) [0, 1, 2, 3, 4, 5] rfl ?_
      have hkn : k < dd_n d := by omega
      have hmr := (bs_r (b0 := -1) (f := (fun k => py_s d (sm_e (ou_p d k) 40))) (c := 72) (by omega) k (fun k hk => py_s_bd hd _) (by omega))
      have hpb := py_s_bd hd (sm_e (ou_p d k) 40)
      refine tv_mem (tm_rowf ν 86 0 (fun q : Nat => if q < k then (q : Int) else (q : Int) + 1)) (tm_rowf_0 _ _ _).symm ?_
      refine l_sendOf1 C ν d k x m b w hx hkn h8 hS.2.2.2.2.1 _ ?_ (dd_n d) 0 0 rfl (by omega) (by omega)
      refine tv_aload_n (pc := 71) 3 C dX8_sendOf_71 rfl rfl ?_
      refine tv_callV (pc := 72) [] [] C (c8_runs E _ (tm_rowf ν 86 (dd_n d - 1) (fun q : Nat => if q < k then (q : Int) else (q : Int) + 1)) (rf_T_ok (rf_S_out hd hS hkn) hd (ou_ok hd hkn))) cv_X8_216 rfl rfl (by decide) rfl (Nat.le_of_ble_eq_true rfl) rfl dX8_sendOf_72 (tm_kv ?_)
      rintro n3 hr9
      obtain ⟨hT3, hN, hH, hG⟩ := rf_T_run (rf_S_out hd hS hkn) (ou_ok hd hkn) hr9
      clear hr9
      refine tv_aload_n (pc := 75) 3 C dX8_sendOf_75 rfl rfl ?_
      refine tv_callV (pc := 76) [] [] C (c8_paidNow E _ n3 d (sm_e (ou_p d k) 40) hd hT3.2.1.2.1 (fun k hk => ⟨(hT3.2.1.2.2.2 k hk).2.2.1, (hT3.2.1.2.2.2 k hk).2.2.2⟩) hN.2.1 (sm_e_40 _)) cv_X8_231 rfl rfl (by decide) rfl (Nat.le_of_ble_eq_true rfl) rfl dX8_sendOf_76 (tm_kp ?_)
      refine tv_istore (pc := 79) [(5, tm_i (py_s d (sm_e (ou_p d k) 40))), (4, tm_i x), (3, tm_i m), (2, tm_i b), (0, .ref (E.2.1 74)), (1, tm_i w)] C dX8_sendOf_79 (by decide) rfl ?_
      refine tv_iload (pc := 81) 0 C dX8_sendOf_81 rfl ?_
      refine tv_iload_n (pc := 83) 2 C dX8_sendOf_83 rfl rfl ?_
      refine tv_icmp_le (pc := 84) 92 C dX8_sendOf_84 (by decide) (by omega) (by omega) (fun h84 => ?_) (fun h84 => ?_)
      · skip
        refine tv_iload_n (pc := 92) 3 C dX8_sendOf_92 rfl rfl ?_
        refine tv_istore_n (pc := 93) [(2, tm_i b), (5, tm_i (py_s d (sm_e (ou_p d k) 40))), (4, tm_i x), (3, tm_i m), (0, .ref (E.2.1 74)), (1, tm_i w)] C dX8_sendOf_93 rfl (by decide) rfl ?_
        refine tv_iload (pc := 94) 1 C dX8_sendOf_94 rfl ?_
        refine tv_iload_n (pc := 96) 3 C dX8_sendOf_96 rfl rfl ?_
        refine tv_icmp_le (pc := 97) 105 C dX8_sendOf_97 (by decide) (by omega) (by omega) (fun h97 => ?_) (fun h97 => ?_)
        · skip
          refine tv_iload_n (pc := 105) 3 C dX8_sendOf_105 rfl rfl ?_
          refine tv_istore_n (pc := 106) [(3, tm_i m), (2, tm_i b), (5, tm_i (py_s d (sm_e (ou_p d k) 40))), (4, tm_i x), (0, .ref (E.2.1 74)), (1, tm_i w)] C dX8_sendOf_106 rfl (by decide) rfl ?_
          refine tv_iinc (pc := 107) 3 [(4, tm_i (x + 1)), (3, tm_i m), (2, tm_i b), (5, tm_i (py_s d (sm_e (ou_p d k) 40))), (0, .ref (E.2.1 74)), (1, tm_i w)] C dX8_sendOf_107 rfl (by decide) rfl ?_
          refine tv_goto (pc := 110) 21 C dX8_sendOf_110 (by decide) ?_
          refine tv_sub (lv1 := [(4, tm_i (x + 1)), (3, tm_i m), (2, tm_i b), (0, .ref (E.2.1 74)), (1, tm_i w)]) [0, 1, 2, 4, 5] rfl ?_
          refine ih (k + 1) (x + 1) _ _ n3 (by omega) (by omega) (by omega) ?_ ?_ (rf_S_same hS (fun a h1 h2 h3 => by rw [hH a h1 h3, tm_rowf_f h2]) (fun b hb => by rw [hG b hb, tm_rowf_k (by decide)])) (rf_F_t hF (fun a ha => by rw [hH a (by omega) (by omega), tm_rowf_f (by omega)]) (by rw [hG 35 (by omega), tm_rowf_k (by decide)]) (by rw [hG 44 (by omega), tm_rowf_k (by decide)]))
          · rw [bs_s, if_neg (by omega)]; exact hb
          · rw [bs_s, if_neg (by omega)]; exact hm
        · skip
          refine tv_iload (pc := 100) 1 C dX8_sendOf_100 rfl ?_
          refine tv_goto (pc := 102) 106 C dX8_sendOf_102 (by decide) ?_
          refine tv_istore_n (pc := 106) [(3, tm_i (py_s d (sm_e (ou_p d k) 40))), (2, tm_i b), (5, tm_i (py_s d (sm_e (ou_p d k) 40))), (4, tm_i x), (0, .ref (E.2.1 74)), (1, tm_i w)] C dX8_sendOf_106 rfl (by decide) rfl ?_
          refine tv_iinc (pc := 107) 3 [(4, tm_i (x + 1)), (3, tm_i (py_s d (sm_e (ou_p d k) 40))), (2, tm_i b), (5, tm_i (py_s d (sm_e (ou_p d k) 40))), (0, .ref (E.2.1 74)), (1, tm_i w)] C dX8_sendOf_107 rfl (by decide) rfl ?_
          refine tv_goto (pc := 110) 21 C dX8_sendOf_110 (by decide) ?_
          refine tv_sub (lv1 := [(4, tm_i (x + 1)), (3, tm_i (py_s d (sm_e (ou_p d k) 40))), (2, tm_i b), (0, .ref (E.2.1 74)), (1, tm_i w)]) [0, 1, 2, 4, 5] rfl ?_
          exfalso; omega
      · skip
        refine tv_iload (pc := 87) 1 C dX8_sendOf_87 rfl ?_
        refine tv_goto (pc := 89) 93 C dX8_sendOf_89 (by decide) ?_
        refine tv_istore_n (pc := 93) [(2, tm_i x), (5, tm_i (py_s d (sm_e (ou_p d k) 40))), (4, tm_i x), (3, tm_i m), (0, .ref (E.2.1 74)), (1, tm_i w)] C dX8_sendOf_93 rfl (by decide) rfl ?_
        refine tv_iload (pc := 94) 1 C dX8_sendOf_94 rfl ?_
        refine tv_iload_n (pc := 96) 3 C dX8_sendOf_96 rfl rfl ?_
        refine tv_icmp_le (pc := 97) 105 C dX8_sendOf_97 (by decide) (by omega) (by omega) (fun h97 => ?_) (fun h97 => ?_)
        · skip
          refine tv_iload_n (pc := 105) 3 C dX8_sendOf_105 rfl rfl ?_
          refine tv_istore_n (pc := 106) [(3, tm_i m), (2, tm_i x), (5, tm_i (py_s d (sm_e (ou_p d k) 40))), (4, tm_i x), (0, .ref (E.2.1 74)), (1, tm_i w)] C dX8_sendOf_106 rfl (by decide) rfl ?_
          refine tv_iinc (pc := 107) 3 [(4, tm_i (x + 1)), (3, tm_i m), (2, tm_i x), (5, tm_i (py_s d (sm_e (ou_p d k) 40))), (0, .ref (E.2.1 74)), (1, tm_i w)] C dX8_sendOf_107 rfl (by decide) rfl ?_
          refine tv_goto (pc := 110) 21 C dX8_sendOf_110 (by decide) ?_
          refine tv_sub (lv1 := [(4, tm_i (x + 1)), (3, tm_i m), (2, tm_i x), (0, .ref (E.2.1 74)), (1, tm_i w)]) [0, 1, 2, 4, 5] rfl ?_
          exfalso; omega
        · skip
          refine tv_iload (pc := 100) 1 C dX8_sendOf_100 rfl ?_
          refine tv_goto (pc := 102) 106 C dX8_sendOf_102 (by decide) ?_
          refine tv_istore_n (pc := 106) [(3, tm_i (py_s d (sm_e (ou_p d k) 40))), (2, tm_i x), (5, tm_i (py_s d (sm_e (ou_p d k) 40))), (4, tm_i x), (0, .ref (E.2.1 74)), (1, tm_i w)] C dX8_sendOf_106 rfl (by decide) rfl ?_
          refine tv_iinc (pc := 107) 3 [(4, tm_i (x + 1)), (3, tm_i (py_s d (sm_e (ou_p d k) 40))), (2, tm_i x), (5, tm_i (py_s d (sm_e (ou_p d k) 40))), (0, .ref (E.2.1 74)), (1, tm_i w)] C dX8_sendOf_107 rfl (by decide) rfl ?_
          refine tv_goto (pc := 110) 21 C dX8_sendOf_110 (by decide) ?_
          refine tv_sub (lv1 := [(4, tm_i (x + 1)), (3, tm_i (py_s d (sm_e (ou_p d k) 40))), (2, tm_i x), (0, .ref (E.2.1 74)), (1, tm_i w)]) [0, 1, 2, 4, 5] rfl ?_
          refine ih (k + 1) (x + 1) _ _ n3 (by omega) (by omega) (by omega) ?_ ?_ (rf_S_same hS (fun a h1 h2 h3 => by rw [hH a h1 h3, tm_rowf_f h2]) (fun b hb => by rw [hG b hb, tm_rowf_k (by decide)])) (rf_F_t hF (fun a ha => by rw [hH a (by omega) (by omega), tm_rowf_f (by omega)]) (by rw [hG 35 (by omega), tm_rowf_k (by decide)]) (by rw [hG 44 (by omega), tm_rowf_k (by decide)]))
          · rw [bs_s, if_pos (by omega)]; omega
          · rw [bs_s, if_pos (by omega)]
theorem k8_sendOf (E : tm_Ev) (l : Launch) (μ : tm_M) (d s : tm_M) (hd : dd_ok d) (hI : rf_I μ d s) (w : Int) (hw : 0 ≤ w ∧ w ≤ 1) : tm_Met E l yX8_sendOf cX8_sendOf 6 (some .int) 7 [.ref (E.2.1 74), tm_i w] μ (tm_pi (fun z μ' => z = sd_z d w ∧ rf_I μ' d s ∧ rf_r μ' d ∧ ∀ a, a < 74 → μ' a = μ a)) := by
  refine tm_intro [(0, .ref (E.2.1 74)), (1, tm_i w)] rfl (by decide +kernel) (Nat.le_of_ble_eq_true rfl) ?_
  intro X hX C
  subst hX
  have h8 : dd_n d ≤ 8 := sp_no_bd _ (by have q := hd.2.1; omega)
  refine tv_aload_n (pc := 0) 0 C dX8_sendOf_0 rfl rfl ?_
  refine tv_callV (pc := 1) [] [] C (c8_asTold E _ μ d hd hI.1) cv_X8_213 rfl rfl (by decide) rfl (Nat.le_of_ble_eq_true rfl) rfl dX8_sendOf_1 (tm_kv ?_)
  rintro n1 ⟨g1, g2, g3, g4⟩
  have hF0 := rf_F_g g4
  have hT0 := rf_T_t hd g1 g2 g3
  have h12 := g1.2.2.2.2.2.1
  have hn := g2.2.1
  refine tv_iconst (pc := 4) C dX8_sendOf_4 ?_
  refine tv_istore_n (pc := 5) [(2, tm_i (-1)), (0, .ref (E.2.1 74)), (1, tm_i w)] C dX8_sendOf_5 rfl (by decide) rfl ?_
  refine tv_iconst (pc := 6) C dX8_sendOf_6 ?_
  refine tv_istore_n (pc := 7) [(3, tm_i (-1)), (2, tm_i (-1)), (0, .ref (E.2.1 74)), (1, tm_i w)] C dX8_sendOf_7 rfl (by decide) rfl ?_
  refine tv_aload_n (pc := 8) 2 C dX8_sendOf_8 rfl rfl ?_
  refine tv_aload_n (pc := 9) 2 C dX8_sendOf_9 rfl rfl ?_
  refine tv_geti (pc := 10) (z := (dd_n d : Int)) C rfl rfl fl_X8_114 dX8_sendOf_10 hn ?_
  refine tv_iconst (pc := 13) C dX8_sendOf_13 ?_
  refine tv_isub (pc := 14) C dX8_sendOf_14 ?_
  refine tv_puti (pc := 15) C rfl rfl fp_X8_167 dX8_sendOf_15 ?_
  refine tv_iconst (pc := 18) C dX8_sendOf_18 ?_
  refine tv_istore (pc := 19) [(4, tm_i 0), (3, tm_i (-1)), (2, tm_i (-1)), (0, .ref (E.2.1 74)), (1, tm_i w)] C dX8_sendOf_19 (by decide) rfl ?_
  refine tv_sub (lv1 := [(4, tm_i 0), (3, tm_i (-1)), (2, tm_i (-1)), (0, .ref (E.2.1 74)), (1, tm_i w)]) [0, 1, 2, 3, 4] rfl ?_
  exact l_sendOf C μ d s hd h8 w hw _ (fun n9 q1 q2 q3 => ⟨_, rfl, rfl, rf_I_F hI q1 q3, q2, fun a ha => q3.1 a (Or.inl ha)⟩) (dd_n d + 1) 0 0 (-1) (-1) _ rfl (by omega) (by omega) rfl rfl (rf_S_t g1 g2 g3) (rf_F_t hF0 (fun a ha => tm_uf (by omega)) (tm_uj (by decide)) (tm_uj (by decide)))
theorem k8_send (E : tm_Ev) (l : Launch) (μ : tm_M) (d s : tm_M) (hd : dd_ok d) (hI : rf_I μ d s) (w : Int) (hw : -2147483648 ≤ w ∧ w ≤ 2147483647) : tm_Met E l yX8_send cX8_send 2 (some .int) 8 [.ref (E.2.1 74), tm_i w] μ (tm_pi (fun z μ' => z = sd_z d w ∧ rf_I μ' d s ∧ ∀ a, a < 74 → μ' a = μ a)) := by
  refine tm_intro [(0, .ref (E.2.1 74)), (1, tm_i w)] rfl (by decide +kernel) (Nat.le_of_ble_eq_true rfl) ?_
  intro X hX C
  subst hX
  refine tv_iload_n (pc := 0) 1 C dX8_send_0 rfl rfl ?_
  refine tv_iconst (pc := 1) C dX8_send_1 ?_
  refine tv_iconst (pc := 2) C dX8_send_2 ?_
  refine tv_callS (pc := 3) [tm_i w, tm_i 0, tm_i 1] [] C (c8_in E _ μ w 0 1 (by omega) (by omega) (by omega)) cs_X8_94 (by decide) rfl (Nat.le_of_ble_eq_true rfl) rfl dX8_send_3 (tm_kp ?_)
  refine tv_ifeqB (pc := 6) 17 C dX8_send_6 (by decide) (fun h6 => ?_) (fun h6 => ?_)
  · skip
    refine tv_bipush (pc := 17) C dX8_send_17 (by decide) ?_
    refine tv_iret (pc := 19) C dX8_send_19 ?_
    exact ⟨_, rfl, by unfold sd_z; rw [if_neg (by omega)], hI, fun a _ => rfl⟩
  · skip
    refine tv_aload_n (pc := 9) 0 C dX8_send_9 rfl rfl ?_
    refine tv_iload_n (pc := 10) 1 C dX8_send_10 rfl rfl ?_
    refine tv_callV (pc := 11) [tm_i w] [] C (k8_sendOf E _ μ d s hd hI w (by omega)) cv_X8_262 rfl rfl (by decide) rfl (Nat.le_of_ble_eq_true rfl) rfl dX8_send_11 (tm_ki ?_)
    rintro zz n1 ⟨hz, hI1, g2, fr1⟩
    refine tv_goto (pc := 14) 19 C dX8_send_14 (by decide) ?_
    refine tv_iret (pc := 19) C dX8_send_19 ?_
    exact ⟨_, rfl, hz, hI1, fr1⟩
theorem l_neverNow {E : tm_Ev} {X : tm_X} (C : tm_C E X yX8_neverNow.cls cX8_neverNow 3 (some .int) 7) (μ d s : tm_M) (hd : dd_ok d) (hs : ss_ok s) (hrd : rf_d μ s) (post : Option Value → tm_M → Prop) (hpost : ∀ ν, rf_m ν d → rf_r ν d → rf_F μ ν → post (some (tm_i (nv_z d s))) ν) : ∀ (f k : Nat) (x y : Int) (p0 ν : tm_M), x = k → (k : Int) ≤ d 3 0 → 6 - k < f → y = bi_n (fun k => so_b s (nv_p d k)) k → rf_T ν d p0 → (∀ a, a ≠ 2 → p0 a = dd_p d a) → rf_F μ ν → tm_V E X (tm_Q E X post) 3 8 [(2, tm_i x), (1, tm_i y), (0, .ref (E.2.1 74))] [] ν := by
  intro f
  induction f with
  | zero => intro k x y p0 ν hx hj hf hy hT hp0 hF; omega
  | succ f ih =>
    intro k x y p0 ν hx hj hf hy hT hp0 hF
    have h10 := hT.1.2.2.2.2.1
    have z3 := hd.2.2.2.2.1
    refine tv_iload_n (pc := 8) 0 C dX8_neverNow_8 rfl rfl ?_
    refine tv_aload_n (pc := 9) 2 C dX8_neverNow_9 rfl rfl ?_
    refine tv_geti (pc := 10) (z := d 3 0) C rfl rfl fl_X8_146 dX8_neverNow_10 h10 ?_
    refine tv_icmp_ge (pc := 13) 46 C dX8_neverNow_13 (by decide) (by omega) (by omega) (fun h13 => ?_) (fun h13 => ?_)
    · skip
      refine tv_iload_n (pc := 46) 1 C dX8_neverNow_46 rfl rfl ?_
      refine tv_iret (pc := 47) C dX8_neverNow_47 ?_
      have hin : k = (d 3 0).toNat := by omega
      subst hin
      rw [hy]
      exact hpost ν hT.1 hT.2.1 hF
    · skip
      have hpw : (1 : Int) ≤ 2 ^ k ∧ (2 : Int) ^ k ≤ 1000 := by
        have h : ∀ k : Fin 6, (1 : Int) ≤ 2 ^ (k : Nat) ∧ (2 : Int) ^ (k : Nat) ≤ 1000 := by decide +kernel
        exact h ⟨k, by omega⟩
      have hT2 : rf_T (tm_up ν 74 15 (2 ^ k)) d (nv_p d k) := rf_T_ag (rf_T_15 hd hT hp0 (by omega)) (rn_nv hd (by omega))
      refine tv_aload_n (pc := 16) 2 C dX8_neverNow_16 rfl rfl ?_
      refine tv_iconst (pc := 17) C dX8_neverNow_17 ?_
      refine tv_iload_n (pc := 18) 0 C dX8_neverNow_18 rfl rfl ?_
      refine tv_ishl (pc := 19) (z := (2 ^ k)) C dX8_neverNow_19 (by rw [hx]; exact tb_shl (by omega)) ?_
      refine tv_puti (pc := 20) C rfl rfl fp_X8_161 dX8_neverNow_20 ?_
      refine tv_iload_n (pc := 23) 1 C dX8_neverNow_23 rfl rfl ?_
      refine tv_aload_n (pc := 24) 2 C dX8_neverNow_24 rfl rfl ?_
      refine tv_callV (pc := 25) [] [tm_i y] C (c8_seen E _ (tm_up ν 74 15 (2 ^ k)) d s (nv_p d k) hd hs (nv_ok hd (by omega)) hT2 (rf_d_F hrd (rf_F_t hF (fun a ha => tm_uf (by omega)) (tm_uj (by decide)) (tm_uj (by decide))))) cv_X8_268 rfl rfl (by decide) rfl (Nat.le_of_ble_eq_true rfl) rfl dX8_neverNow_25 (tm_ki ?_)
      rintro zc n3 ⟨rfl, hT3, hN, hH, hG⟩
      have hF3 : rf_F μ n3 := rf_F_t hF (fun a ha => by rw [hH a (by omega) (by omega), tm_uf (by omega)]) (by rw [hG 35 (by omega), tm_uj (by decide)]) (by rw [hG 44 (by omega), tm_uj (by decide)])
      refine tv_ifeqB (pc := 28) 37 C dX8_neverNow_28 (by decide) (fun h28 => ?_) (fun h28 => ?_)
      · skip
        refine tv_iconst (pc := 37) C dX8_neverNow_37 ?_
        refine tv_ior (pc := 38) (z := (y + 0)) C dX8_neverNow_38 (by rw [Int.add_zero]; exact tb_or0 (by have q := bi_r (fun k => so_b s (nv_p d k)) (n := k) (by omega); omega)) ?_
        refine tv_istore_n (pc := 39) [(1, tm_i (y + 0)), (2, tm_i x), (0, .ref (E.2.1 74))] C dX8_neverNow_39 rfl (by decide) rfl ?_
        refine tv_iinc (pc := 40) 1 [(2, tm_i (x + 1)), (1, tm_i (y + 0)), (0, .ref (E.2.1 74))] C dX8_neverNow_40 rfl (by decide) rfl ?_
        refine tv_goto (pc := 43) 8 C dX8_neverNow_43 (by decide) ?_
        refine tv_sub (lv1 := [(2, tm_i (x + 1)), (1, tm_i (y + 0)), (0, .ref (E.2.1 74))]) [0, 1, 2] rfl ?_
        exact ih (k + 1) (x + 1) _ (nv_p d k) n3 (by omega) (by omega) (by omega) (by rw [bi_s, if_neg h28]; omega) hT3 (fun a ha => nv_o d k a ha) hF3
      · skip
        refine tv_iconst (pc := 31) C dX8_neverNow_31 ?_
        refine tv_iload_n (pc := 32) 0 C dX8_neverNow_32 rfl rfl ?_
        refine tv_ishl (pc := 33) (z := (2 ^ k)) C dX8_neverNow_33 (by rw [hx]; exact tb_shl (by omega)) ?_
        refine tv_goto (pc := 34) 38 C dX8_neverNow_34 (by decide) ?_
        refine tv_ior (pc := 38) (z := (y + 2 ^ k)) C dX8_neverNow_38 (by rw [hy]; exact tb_or (by omega) (bi_bd _ k)) ?_
        refine tv_istore_n (pc := 39) [(1, tm_i (y + 2 ^ k)), (2, tm_i x), (0, .ref (E.2.1 74))] C dX8_neverNow_39 rfl (by decide) rfl ?_
        refine tv_iinc (pc := 40) 1 [(2, tm_i (x + 1)), (1, tm_i (y + 2 ^ k)), (0, .ref (E.2.1 74))] C dX8_neverNow_40 rfl (by decide) rfl ?_
        refine tv_goto (pc := 43) 8 C dX8_neverNow_43 (by decide) ?_
        refine tv_sub (lv1 := [(2, tm_i (x + 1)), (1, tm_i (y + 2 ^ k)), (0, .ref (E.2.1 74))]) [0, 1, 2] rfl ?_
        exact ih (k + 1) (x + 1) _ (nv_p d k) n3 (by omega) (by omega) (by omega) (by rw [bi_s, if_pos h28]; omega) hT3 (fun a ha => nv_o d k a ha) hF3
theorem k8_neverNow (E : tm_Ev) (l : Launch) (μ : tm_M) (d s : tm_M) (hd : dd_ok d) (hs : ss_ok s) (hI : rf_I μ d s) : tm_Met E l yX8_neverNow cX8_neverNow 3 (some .int) 7 [.ref (E.2.1 74)] μ (tm_pi (fun z μ' => z = nv_z d s ∧ rf_I μ' d s ∧ rf_r μ' d ∧ ∀ a, a < 74 → μ' a = μ a)) := by
  refine tm_intro [(0, .ref (E.2.1 74))] rfl (by decide +kernel) (Nat.le_of_ble_eq_true rfl) ?_
  intro X hX C
  subst hX
  refine tv_aload_n (pc := 0) 0 C dX8_neverNow_0 rfl rfl ?_
  refine tv_callV (pc := 1) [] [] C (c8_asTold E _ μ d hd hI.1) cv_X8_213 rfl rfl (by decide) rfl (Nat.le_of_ble_eq_true rfl) rfl dX8_neverNow_1 (tm_kv ?_)
  rintro n1 ⟨g1, g2, g3, g4⟩
  have hF0 := rf_F_g g4
  have hT0 := rf_T_t hd g1 g2 g3
  have h12 := g1.2.2.2.2.2.1
  have hn := g2.2.1
  refine tv_iconst (pc := 4) C dX8_neverNow_4 ?_
  refine tv_istore_n (pc := 5) [(1, tm_i 0), (0, .ref (E.2.1 74))] C dX8_neverNow_5 rfl (by decide) rfl ?_
  refine tv_iconst (pc := 6) C dX8_neverNow_6 ?_
  refine tv_istore_n (pc := 7) [(2, tm_i 0), (1, tm_i 0), (0, .ref (E.2.1 74))] C dX8_neverNow_7 rfl (by decide) rfl ?_
  refine tv_sub (lv1 := [(2, tm_i 0), (1, tm_i 0), (0, .ref (E.2.1 74))]) [0, 1, 2] rfl ?_
  exact l_neverNow C μ d s hd hs hI.2 _ (fun n9 q1 q2 q3 => ⟨_, rfl, rfl, rf_I_F hI q1 q3, q2, fun a ha => q3.1 a (Or.inl ha)⟩) 7 0 0 0 (dd_p d) n1 rfl (by have := hd.2.2.2.2.1; omega) (by omega) rfl hT0 (fun a _ => rfl) hF0
theorem k8_never (E : tm_Ev) (l : Launch) (μ : tm_M) (d s : tm_M) (hd : dd_ok d) (hs : ss_ok s) (hI : rf_I μ d s) : tm_Met E l yX8_never cX8_never 1 (some .int) 8 [.ref (E.2.1 74)] μ (tm_pi (fun z μ' => z = nv_z d s ∧ rf_I μ' d s ∧ ∀ a, a < 74 → μ' a = μ a)) := by
  refine tm_intro [(0, .ref (E.2.1 74))] rfl (by decide +kernel) (Nat.le_of_ble_eq_true rfl) ?_
  intro X hX C
  subst hX
  refine tv_aload_n (pc := 0) 0 C dX8_never_0 rfl rfl ?_
  refine tv_callV (pc := 1) [] [] C (k8_neverNow E _ μ d s hd hs hI) cv_X8_271 rfl rfl (by decide) rfl (Nat.le_of_ble_eq_true rfl) rfl dX8_never_1 (tm_ki ?_)
  rintro zz n1 ⟨hz, hI1, g2, fr1⟩
  refine tv_iret (pc := 4) C dX8_never_4 ?_
  exact ⟨_, rfl, hz, hI1, fr1⟩
theorem l_flowsBy {E : tm_Ev} {X : tm_X} (C : tm_C E X yX8_flowsBy.cls cX8_flowsBy 3 (some .int) 7) (μ d s : tm_M) (hd : dd_ok d) (hs : ss_ok s) (hrd : rf_d μ s) (post : Option Value → tm_M → Prop) (hpost : ∀ ν, rf_m ν d → rf_r ν d → rf_F μ ν → post (some (tm_i (fl_z d s))) ν) : ∀ (f v : Nat) (x y v0 : Int) (ν : tm_M), x = v → v ≤ 10 → 1 ≤ v → 10 - v < f → y = bi_n (fun v => decide (1 ≤ v) && so_b s (di_p d 1 (v : Int))) v → rf_T ν d (di_p d 1 v0) → rf_F μ ν → tm_V E X (tm_Q E X post) 3 8 [(2, tm_i x), (1, tm_i y), (0, .ref (E.2.1 74))] [] ν := by
  intro f
  induction f with
  | zero => intro v x y v0 ν hx hj hl hf hy hT hF; omega
  | succ f ih =>
    intro v x y v0 ν hx hj hl hf hy hT hF
    refine tv_iload_n (pc := 8) 0 C dX8_flowsBy_8 rfl rfl ?_
    refine tv_bipush (pc := 9) C dX8_flowsBy_9 (by decide) ?_
    refine tv_icmp_ge (pc := 11) 42 C dX8_flowsBy_11 (by decide) (by omega) (by omega) (fun h11 => ?_) (fun h11 => ?_)
    · skip
      refine tv_iload_n (pc := 42) 1 C dX8_flowsBy_42 rfl rfl ?_
      refine tv_iret (pc := 43) C dX8_flowsBy_43 ?_
      have hin : v = 10 := by omega
      subst hin
      rw [hy]
      exact hpost ν hT.1 hT.2.1 hF
    · skip
      refine tv_aload_n (pc := 14) 2 C dX8_flowsBy_14 rfl rfl ?_
      refine tv_iload_n (pc := 15) 0 C dX8_flowsBy_15 rfl rfl ?_
      refine tv_puti (pc := 16) C rfl rfl fp_X8_173 dX8_flowsBy_16 ?_
      refine tv_iload_n (pc := 19) 1 C dX8_flowsBy_19 rfl rfl ?_
      refine tv_aload_n (pc := 20) 2 C dX8_flowsBy_20 rfl rfl ?_
      refine tv_callV (pc := 21) [] [tm_i y] C (c8_seen E _ (tm_up ν 74 20 x) d s (di_p d 1 x) hd hs (di_ok1 hd (by omega)) (rf_T_20 hT x) (rf_d_F hrd (rf_F_t hF (fun a ha => tm_uf (by omega)) (tm_uj (by decide)) (tm_uj (by decide))))) cv_X8_268 rfl rfl (by decide) rfl (Nat.le_of_ble_eq_true rfl) rfl dX8_flowsBy_21 (tm_ki ?_)
      rintro zc n3 ⟨rfl, hT3, hN, hH, hG⟩
      have hF3 : rf_F μ n3 := rf_F_t hF (fun a ha => by rw [hH a (by omega) (by omega), tm_uf (by omega)]) (by rw [hG 35 (by omega), tm_uj (by decide)]) (by rw [hG 44 (by omega), tm_uj (by decide)])
      refine tv_ifeqB (pc := 24) 33 C dX8_flowsBy_24 (by decide) (fun h24 => ?_) (fun h24 => ?_)
      · skip
        refine tv_iconst (pc := 33) C dX8_flowsBy_33 ?_
        refine tv_ior (pc := 34) (z := (y + 0)) C dX8_flowsBy_34 (by rw [Int.add_zero]; exact tb_or0 (by have q := bi_r (fun v => decide (1 ≤ v) && so_b s (di_p d 1 (v : Int))) (n := v) (by omega); omega)) ?_
        refine tv_istore_n (pc := 35) [(1, tm_i (y + 0)), (2, tm_i x), (0, .ref (E.2.1 74))] C dX8_flowsBy_35 rfl (by decide) rfl ?_
        refine tv_iinc (pc := 36) 1 [(2, tm_i (x + 1)), (1, tm_i (y + 0)), (0, .ref (E.2.1 74))] C dX8_flowsBy_36 rfl (by decide) rfl ?_
        refine tv_goto (pc := 39) 8 C dX8_flowsBy_39 (by decide) ?_
        refine tv_sub (lv1 := [(2, tm_i (x + 1)), (1, tm_i (y + 0)), (0, .ref (E.2.1 74))]) [0, 1, 2] rfl ?_
        exact ih (v + 1) (x + 1) _ x n3 (by omega) (by omega) (by omega) (by omega) (by rw [bi_s, if_neg (by simp only [Bool.and_eq_true, decide_eq_true_eq]; rintro ⟨-, q⟩; rw [← hx] at q; exact h24 q)]; omega) hT3 hF3
      · skip
        refine tv_iconst (pc := 27) C dX8_flowsBy_27 ?_
        refine tv_iload_n (pc := 28) 0 C dX8_flowsBy_28 rfl rfl ?_
        refine tv_ishl (pc := 29) (z := (2 ^ v)) C dX8_flowsBy_29 (by rw [hx]; exact tb_shl (by omega)) ?_
        refine tv_goto (pc := 30) 34 C dX8_flowsBy_30 (by decide) ?_
        refine tv_ior (pc := 34) (z := (y + 2 ^ v)) C dX8_flowsBy_34 (by rw [hy]; exact tb_or (by omega) (bi_bd _ v)) ?_
        refine tv_istore_n (pc := 35) [(1, tm_i (y + 2 ^ v)), (2, tm_i x), (0, .ref (E.2.1 74))] C dX8_flowsBy_35 rfl (by decide) rfl ?_
        refine tv_iinc (pc := 36) 1 [(2, tm_i (x + 1)), (1, tm_i (y + 2 ^ v)), (0, .ref (E.2.1 74))] C dX8_flowsBy_36 rfl (by decide) rfl ?_
        refine tv_goto (pc := 39) 8 C dX8_flowsBy_39 (by decide) ?_
        refine tv_sub (lv1 := [(2, tm_i (x + 1)), (1, tm_i (y + 2 ^ v)), (0, .ref (E.2.1 74))]) [0, 1, 2] rfl ?_
        exact ih (v + 1) (x + 1) _ x n3 (by omega) (by omega) (by omega) (by omega) (by rw [bi_s, if_pos (by simp only [Bool.and_eq_true, decide_eq_true_eq]; exact ⟨by omega, by rw [← hx]; exact h24⟩)]; omega) hT3 hF3
theorem k8_flowsBy (E : tm_Ev) (l : Launch) (μ : tm_M) (d s : tm_M) (hd : dd_ok d) (hs : ss_ok s) (hI : rf_I μ d s) : tm_Met E l yX8_flowsBy cX8_flowsBy 3 (some .int) 7 [.ref (E.2.1 74)] μ (tm_pi (fun z μ' => z = fl_z d s ∧ rf_I μ' d s ∧ rf_r μ' d ∧ ∀ a, a < 74 → μ' a = μ a)) := by
  refine tm_intro [(0, .ref (E.2.1 74))] rfl (by decide +kernel) (Nat.le_of_ble_eq_true rfl) ?_
  intro X hX C
  subst hX
  refine tv_aload_n (pc := 0) 0 C dX8_flowsBy_0 rfl rfl ?_
  refine tv_callV (pc := 1) [] [] C (c8_asTold E _ μ d hd hI.1) cv_X8_213 rfl rfl (by decide) rfl (Nat.le_of_ble_eq_true rfl) rfl dX8_flowsBy_1 (tm_kv ?_)
  rintro n1 ⟨g1, g2, g3, g4⟩
  have hF0 := rf_F_g g4
  have hT0 := rf_T_t hd g1 g2 g3
  have h12 := g1.2.2.2.2.2.1
  have hn := g2.2.1
  refine tv_iconst (pc := 4) C dX8_flowsBy_4 ?_
  refine tv_istore_n (pc := 5) [(1, tm_i 0), (0, .ref (E.2.1 74))] C dX8_flowsBy_5 rfl (by decide) rfl ?_
  refine tv_iconst (pc := 6) C dX8_flowsBy_6 ?_
  refine tv_istore_n (pc := 7) [(2, tm_i 1), (1, tm_i 0), (0, .ref (E.2.1 74))] C dX8_flowsBy_7 rfl (by decide) rfl ?_
  refine tv_sub (lv1 := [(2, tm_i 1), (1, tm_i 0), (0, .ref (E.2.1 74))]) [0, 1, 2] rfl ?_
  exact l_flowsBy C μ d s hd hs hI.2 _ (fun n9 q1 q2 q3 => ⟨_, rfl, rfl, rf_I_F hI q1 q3, q2, fun a ha => q3.1 a (Or.inl ha)⟩) 11 1 1 0 (dd_p d 0 1) n1 rfl (by omega) (by omega) (by omega) (by rw [bi_s, if_neg (by simp)]; rfl) (by rw [di_id]; exact hT0) hF0
def pb_o (ν d : tm_M) (n : Nat) : Prop := ∀ v h, v < n → h < 40 → ν 96 (40 * v + h) = sm_z (di_p d 0 (v : Int)) (h + 1)
theorem l_startsBy1 {E : tm_Ev} {X : tm_X} (C : tm_C E X yX8_startsBy.cls cX8_startsBy 4 (some .int) 7) (n3 : tm_M) (v : Nat) (x y : Int) (hx : x = v) (hv : v ≤ 20) (Q : State → Prop) (hk9 : tm_V E X Q 4 67 [(2, tm_i x), (1, tm_i y), (0, .ref (E.2.1 74))] [] (tm_rowo n3 96 (40 * v) 40 (n3 87))) : ∀ (f h : Nat) (z : Int), z = h → h ≤ 40 → 40 - h < f → tm_V E X Q 4 38 [(3, tm_i z), (2, tm_i x), (1, tm_i y), (0, .ref (E.2.1 74))] [] (tm_rowo n3 96 (40 * v) h (n3 87)) := by
  intro f
  induction f with
  | zero => intro h z hz hj hf; omega
  | succ f ih =>
    intro h z hz hj hf
    refine tv_iload_n (pc := 38) 0 C dX8_startsBy_38 rfl rfl ?_
    refine tv_bipush (pc := 39) C dX8_startsBy_39 (by decide) ?_
    refine tv_icmp_ge (pc := 41) 67 C dX8_startsBy_41 (by decide) (by omega) (by omega) (fun h41 => ?_) (fun h41 => ?_)
    · skip
      refine tv_sub (lv1 := [(2, tm_i x), (1, tm_i y), (0, .ref (E.2.1 74))]) [1, 2, 3] rfl ?_
      have hin : h = 40 := by omega
      subst hin
      exact hk9
    · skip
      refine tv_aload_n (pc := 44) 3 C dX8_startsBy_44 rfl rfl ?_
      refine tv_getr (pc := 45) (q := 96) C rfl rfl fl_X8_73 dX8_startsBy_45 ?_
      refine tv_bipush (pc := 48) C dX8_startsBy_48 (by decide) ?_
      refine tv_iload_n (pc := 50) 1 C dX8_startsBy_50 rfl rfl ?_
      refine tv_imul (pc := 51) C dX8_startsBy_51 ?_
      refine tv_iload_n (pc := 52) 0 C dX8_startsBy_52 rfl rfl ?_
      refine tv_iadd (pc := 53) C dX8_startsBy_53 ?_
      refine tv_aload_n (pc := 54) 3 C dX8_startsBy_54 rfl rfl ?_
      refine tv_getr (pc := 55) (q := 87) C rfl rfl fl_X8_46 dX8_startsBy_55 ?_
      refine tv_iload_n (pc := 58) 0 C dX8_startsBy_58 rfl rfl ?_
      refine tv_iald (pc := 59) (j := h) (z := n3 87 h) C rfl dX8_startsBy_59 (by omega) (by omega) (tm_rowo_k (by omega)) ?_
      refine tv_iast (pc := 60) (j := (40 * v + h)) C rfl dX8_startsBy_60 (by omega) (by omega) ?_
      refine tv_iinc (pc := 61) 0 [(3, tm_i (z + 1)), (2, tm_i x), (1, tm_i y), (0, .ref (E.2.1 74))] C dX8_startsBy_61 rfl (by decide) rfl ?_
      refine tv_goto (pc := 64) 38 C dX8_startsBy_64 (by decide) ?_
      refine tv_sub (lv1 := [(3, tm_i (z + 1)), (2, tm_i x), (1, tm_i y), (0, .ref (E.2.1 74))]) [0, 1, 2, 3] rfl ?_
      rw [tm_rowo_s rfl]
      exact ih (h + 1) (z + 1) (by omega) (by omega) (by omega)
theorem l_startsBy {E : tm_Ev} {X : tm_X} (C : tm_C E X yX8_startsBy.cls cX8_startsBy 4 (some .int) 7) (μ d s : tm_M) (hd : dd_ok d) (hs : ss_ok s) (hrd : rf_d μ s) (post : Option Value → tm_M → Prop) (hpost : ∀ ν, rf_m ν d → rf_r ν d → rf_F μ ν → pb_o ν d 21 → post (some (tm_i (sb_z d s))) ν) : ∀ (f v : Nat) (x y v0 : Int) (ν : tm_M), x = v → v ≤ 21 → 21 - v < f → y = bi_n (fun v => so_b s (di_p d 0 (v : Int))) v → rf_T ν d (di_p d 0 v0) → rf_F μ ν → pb_o ν d v → tm_V E X (tm_Q E X post) 4 8 [(2, tm_i x), (1, tm_i y), (0, .ref (E.2.1 74))] [] ν := by
  intro f
  induction f with
  | zero => intro v x y v0 ν hx hj hf hy hT hF hB; omega
  | succ f ih =>
    intro v x y v0 ν hx hj hf hy hT hF hB
    refine tv_iload_n (pc := 8) 0 C dX8_startsBy_8 rfl rfl ?_
    refine tv_bipush (pc := 9) C dX8_startsBy_9 (by decide) ?_
    refine tv_icmp_ge (pc := 11) 73 C dX8_startsBy_11 (by decide) (by omega) (by omega) (fun h11 => ?_) (fun h11 => ?_)
    · skip
      refine tv_iload_n (pc := 73) 1 C dX8_startsBy_73 rfl rfl ?_
      refine tv_iret (pc := 74) C dX8_startsBy_74 ?_
      have hin : v = 21 := by omega
      subst hin
      rw [hy]
      exact hpost ν hT.1 hT.2.1 hF hB
    · skip
      refine tv_aload_n (pc := 14) 2 C dX8_startsBy_14 rfl rfl ?_
      refine tv_iload_n (pc := 15) 0 C dX8_startsBy_15 rfl rfl ?_
      refine tv_puti (pc := 16) C rfl rfl fp_X8_170 dX8_startsBy_16 ?_
      refine tv_iload_n (pc := 19) 1 C dX8_startsBy_19 rfl rfl ?_
      refine tv_aload_n (pc := 20) 2 C dX8_startsBy_20 rfl rfl ?_
      refine tv_callV (pc := 21) [] [tm_i y] C (c8_seen E _ (tm_up ν 74 19 x) d s (di_p d 0 x) hd hs (di_ok0 hd (by omega)) (rf_T_19 hT x) (rf_d_F hrd (rf_F_t hF (fun a ha => tm_uf (by omega)) (tm_uj (by decide)) (tm_uj (by decide))))) cv_X8_268 rfl rfl (by decide) rfl (Nat.le_of_ble_eq_true rfl) rfl dX8_startsBy_21 (tm_ki ?_)
      rintro zc n3 ⟨rfl, hT3, hN, hH, hG⟩
      have hF3 : rf_F μ n3 := rf_F_t hF (fun a ha => by rw [hH a (by omega) (by omega), tm_uf (by omega)]) (by rw [hG 35 (by omega), tm_uj (by decide)]) (by rw [hG 44 (by omega), tm_uj (by decide)])
      refine tv_ifeqB (pc := 24) 33 C dX8_startsBy_24 (by decide) (fun h24 => ?_) (fun h24 => ?_)
      · skip
        refine tv_iconst (pc := 33) C dX8_startsBy_33 ?_
        refine tv_ior (pc := 34) (z := (y + 0)) C dX8_startsBy_34 (by rw [Int.add_zero]; exact tb_or0 (by have q := bi_r (fun v => so_b s (di_p d 0 (v : Int))) (n := v) (by omega); omega)) ?_
        refine tv_istore_n (pc := 35) [(1, tm_i (y + 0)), (2, tm_i x), (0, .ref (E.2.1 74))] C dX8_startsBy_35 rfl (by decide) rfl ?_
        refine tv_iconst (pc := 36) C dX8_startsBy_36 ?_
        refine tv_istore_n (pc := 37) [(3, tm_i 0), (1, tm_i (y + 0)), (2, tm_i x), (0, .ref (E.2.1 74))] C dX8_startsBy_37 rfl (by decide) rfl ?_
        refine tv_sub (lv1 := [(3, tm_i 0), (2, tm_i x), (1, tm_i (y + 0)), (0, .ref (E.2.1 74))]) [0, 2, 1, 3] rfl ?_
        refine tv_mem (tm_rowo n3 96 (40 * v) 0 (n3 87)) (tm_rowo_0 _ _ _ _).symm ?_
        refine l_startsBy1 C n3 v x _ hx (by omega) _ ?_ 41 0 0 rfl (by omega) (by omega)
        refine tv_iinc (pc := 67) 0 [(2, tm_i (x + 1)), (1, tm_i (y + 0)), (0, .ref (E.2.1 74))] C dX8_startsBy_67 rfl (by decide) rfl ?_
        refine tv_goto (pc := 70) 8 C dX8_startsBy_70 (by decide) ?_
        refine tv_sub (lv1 := [(2, tm_i (x + 1)), (1, tm_i (y + 0)), (0, .ref (E.2.1 74))]) [0, 1, 2] rfl ?_
        refine ih (v + 1) (x + 1) _ x _ (by omega) (by omega) (by omega) (by rw [bi_s, if_neg (by rw [← hx]; exact h24)]; omega) (rf_T_mk hT3 (by rw [rm_p_same (fun a ha => tm_rowo_f (by omega)) (fun b hb => tm_rowo_k (by decide))]; exact hT3.2.2.1) (fun a ha => tm_rowo_f (by omega)) (fun b hb => tm_rowo_k (by decide)) (by rw [tm_rowo_k (by decide)]; exact hT3.2.2.2.1)) (rf_F_t hF3 (fun a ha => tm_rowo_f (by omega)) (tm_rowo_k (by decide)) (tm_rowo_k (by decide))) (fun u h hu hh => ?_)
        by_cases hc : u = v
        · subst hc; rw [tm_rowo_in hh, (hN.1 h hh).1, hx]
        · rw [tm_rowo_out (by omega), hH 96 (by omega) (by omega), tm_uf (by omega)]; exact hB u h (by omega) hh
      · skip
        refine tv_iconst (pc := 27) C dX8_startsBy_27 ?_
        refine tv_iload_n (pc := 28) 0 C dX8_startsBy_28 rfl rfl ?_
        refine tv_ishl (pc := 29) (z := (2 ^ v)) C dX8_startsBy_29 (by rw [hx]; exact tb_shl (by omega)) ?_
        refine tv_goto (pc := 30) 34 C dX8_startsBy_30 (by decide) ?_
        refine tv_ior (pc := 34) (z := (y + 2 ^ v)) C dX8_startsBy_34 (by rw [hy]; exact tb_or (by omega) (bi_bd _ v)) ?_
        refine tv_istore_n (pc := 35) [(1, tm_i (y + 2 ^ v)), (2, tm_i x), (0, .ref (E.2.1 74))] C dX8_startsBy_35 rfl (by decide) rfl ?_
        refine tv_iconst (pc := 36) C dX8_startsBy_36 ?_
        refine tv_istore_n (pc := 37) [(3, tm_i 0), (1, tm_i (y + 2 ^ v)), (2, tm_i x), (0, .ref (E.2.1 74))] C dX8_startsBy_37 rfl (by decide) rfl ?_
        refine tv_sub (lv1 := [(3, tm_i 0), (2, tm_i x), (1, tm_i (y + 2 ^ v)), (0, .ref (E.2.1 74))]) [0, 2, 1, 3] rfl ?_
        refine tv_mem (tm_rowo n3 96 (40 * v) 0 (n3 87)) (tm_rowo_0 _ _ _ _).symm ?_
        refine l_startsBy1 C n3 v x _ hx (by omega) _ ?_ 41 0 0 rfl (by omega) (by omega)
        refine tv_iinc (pc := 67) 0 [(2, tm_i (x + 1)), (1, tm_i (y + 2 ^ v)), (0, .ref (E.2.1 74))] C dX8_startsBy_67 rfl (by decide) rfl ?_
        refine tv_goto (pc := 70) 8 C dX8_startsBy_70 (by decide) ?_
        refine tv_sub (lv1 := [(2, tm_i (x + 1)), (1, tm_i (y + 2 ^ v)), (0, .ref (E.2.1 74))]) [0, 1, 2] rfl ?_
        refine ih (v + 1) (x + 1) _ x _ (by omega) (by omega) (by omega) (by rw [bi_s, if_pos (by rw [← hx]; exact h24)]; omega) (rf_T_mk hT3 (by rw [rm_p_same (fun a ha => tm_rowo_f (by omega)) (fun b hb => tm_rowo_k (by decide))]; exact hT3.2.2.1) (fun a ha => tm_rowo_f (by omega)) (fun b hb => tm_rowo_k (by decide)) (by rw [tm_rowo_k (by decide)]; exact hT3.2.2.2.1)) (rf_F_t hF3 (fun a ha => tm_rowo_f (by omega)) (tm_rowo_k (by decide)) (tm_rowo_k (by decide))) (fun u h hu hh => ?_)
        by_cases hc : u = v
        · subst hc; rw [tm_rowo_in hh, (hN.1 h hh).1, hx]
        · rw [tm_rowo_out (by omega), hH 96 (by omega) (by omega), tm_uf (by omega)]; exact hB u h (by omega) hh
theorem k8_startsBy (E : tm_Ev) (l : Launch) (μ : tm_M) (d s : tm_M) (hd : dd_ok d) (hs : ss_ok s) (hI : rf_I μ d s) : tm_Met E l yX8_startsBy cX8_startsBy 4 (some .int) 7 [.ref (E.2.1 74)] μ (tm_pi (fun z μ' => z = sb_z d s ∧ (rf_I μ' d s ∧ pb_o μ' d 21) ∧ rf_r μ' d ∧ ∀ a, a < 74 → μ' a = μ a)) := by
  refine tm_intro [(0, .ref (E.2.1 74))] rfl (by decide +kernel) (Nat.le_of_ble_eq_true rfl) ?_
  intro X hX C
  subst hX
  refine tv_aload_n (pc := 0) 0 C dX8_startsBy_0 rfl rfl ?_
  refine tv_callV (pc := 1) [] [] C (c8_asTold E _ μ d hd hI.1) cv_X8_213 rfl rfl (by decide) rfl (Nat.le_of_ble_eq_true rfl) rfl dX8_startsBy_1 (tm_kv ?_)
  rintro n1 ⟨g1, g2, g3, g4⟩
  have hF0 := rf_F_g g4
  have hT0 := rf_T_t hd g1 g2 g3
  have h12 := g1.2.2.2.2.2.1
  have hn := g2.2.1
  refine tv_iconst (pc := 4) C dX8_startsBy_4 ?_
  refine tv_istore_n (pc := 5) [(1, tm_i 0), (0, .ref (E.2.1 74))] C dX8_startsBy_5 rfl (by decide) rfl ?_
  refine tv_iconst (pc := 6) C dX8_startsBy_6 ?_
  refine tv_istore_n (pc := 7) [(2, tm_i 0), (1, tm_i 0), (0, .ref (E.2.1 74))] C dX8_startsBy_7 rfl (by decide) rfl ?_
  refine tv_sub (lv1 := [(2, tm_i 0), (1, tm_i 0), (0, .ref (E.2.1 74))]) [0, 1, 2] rfl ?_
  exact l_startsBy C μ d s hd hs hI.2 _ (fun n9 q1 q2 q3 q4 => ⟨_, rfl, rfl, ⟨rf_I_F hI q1 q3, q4⟩, q2, fun a ha => q3.1 a (Or.inl ha)⟩) 22 0 0 0 (dd_p d 0 0) n1 rfl (by omega) (by omega) rfl (by rw [di_id]; exact hT0) hF0 (fun u h hu hh => by omega)
theorem k8_was (E : tm_Ev) (l : Launch) (μ : tm_M) (d s : tm_M) (hd : dd_ok d) (hs : ss_ok s) (hI : rf_I μ d s) (w : Int) (hw : -2147483648 ≤ w ∧ w ≤ 2147483647) : tm_Met E l yX8_was cX8_was 2 (some .int) 8 [.ref (E.2.1 74), tm_i w] μ (tm_pi (fun z μ' => z = wa_z d s w ∧ rf_I μ' d s ∧ ∀ a, a < 74 → μ' a = μ a)) := by
  refine tm_intro [(0, .ref (E.2.1 74)), (1, tm_i w)] rfl (by decide +kernel) (Nat.le_of_ble_eq_true rfl) ?_
  intro X hX C
  subst hX
  refine tv_iload_n (pc := 0) 1 C dX8_was_0 rfl rfl ?_
  refine tv_iconst (pc := 1) C dX8_was_1 ?_
  refine tv_iconst (pc := 2) C dX8_was_2 ?_
  refine tv_callS (pc := 3) [tm_i w, tm_i 0, tm_i 1] [] C (c8_in E _ μ w 0 1 (by omega) (by omega) (by omega)) cs_X8_94 (by decide) rfl (Nat.le_of_ble_eq_true rfl) rfl dX8_was_3 (tm_kp ?_)
  refine tv_ifeqB (pc := 6) 27 C dX8_was_6 (by decide) (fun h6 => ?_) (fun h6 => ?_)
  · skip
    refine tv_bipush (pc := 27) C dX8_was_27 (by decide) ?_
    refine tv_iret (pc := 29) C dX8_was_29 ?_
    exact ⟨_, rfl, by unfold wa_z; rw [if_neg (by omega)], hI, fun a _ => rfl⟩
  · skip
    refine tv_iload_n (pc := 9) 1 C dX8_was_9 rfl rfl ?_
    refine tv_if_ne (pc := 10) 20 C dX8_was_10 (by decide) (by omega) (fun h10 => ?_) (fun h10 => ?_)
    · skip
      refine tv_aload_n (pc := 20) 0 C dX8_was_20 rfl rfl ?_
      refine tv_callV (pc := 21) [] [] C (k8_startsBy E _ μ d s hd hs hI) cv_X8_277 rfl rfl (by decide) rfl (Nat.le_of_ble_eq_true rfl) rfl dX8_was_21 (tm_ki ?_)
      rintro zz nS ⟨hz, hI1, g2, fr1⟩
      refine tv_goto (pc := 24) 29 C dX8_was_24 (by decide) ?_
      refine tv_iret (pc := 29) C dX8_was_29 ?_
      exact ⟨_, rfl, by unfold wa_z; rw [if_pos (by omega), if_neg (by omega)]; exact hz, hI1.1, fr1⟩
    · skip
      refine tv_aload_n (pc := 13) 0 C dX8_was_13 rfl rfl ?_
      refine tv_callV (pc := 14) [] [] C (k8_flowsBy E _ μ d s hd hs hI) cv_X8_274 rfl rfl (by decide) rfl (Nat.le_of_ble_eq_true rfl) rfl dX8_was_14 (tm_ki ?_)
      rintro zz n1 ⟨hz, hI1, g2, fr1⟩
      refine tv_goto (pc := 17) 29 C dX8_was_17 (by decide) ?_
      refine tv_iret (pc := 29) C dX8_was_29 ?_
      exact ⟨_, rfl, by unfold wa_z; rw [if_pos (by omega), if_pos (by omega)]; exact hz, hI1, fr1⟩
