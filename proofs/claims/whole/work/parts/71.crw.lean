theorem ch_ch (ν : tm_M) (a : Nat) (b c : Int) : tm_ch (tm_up (tm_up (tm_ch ν) 7 a b) 6 1 c) = tm_ch (tm_up (tm_up ν 7 a b) 6 1 c) := by
  funext x y
  unfold tm_ch tm_up
  by_cases hx : x = 0
  · subst hx
    by_cases h1 : y = 18
    · simp [h1]
    · by_cases h2 : y = 17
      · simp [h2]
      · by_cases h3 : y = 16
        · simp [h3]
        · simp [h1, h2, h3]
  · simp [hx]
theorem cl_I_ch {μ d s : tm_M} (h : cl_I μ d s) : cl_I (tm_ch μ) d s :=
  ⟨cl_m_same h.1 (fun a ha => tm_ch_f (by omega)), cl_d_same h.2.1 (fun a ha => tm_ch_f (by omega)) (by unfold tm_ch; rw [tm_uj (by decide), tm_uj (by decide), tm_uj (by decide)]), cl_c_ch _ _⟩
theorem cl_push_r {ν d s : tm_M} (h : cl_I (tm_ch ν) d s) (hd : dd_ok d) (b : Int) : cl_I (tm_ch (tm_up (tm_up ν 7 (d 3 0).toNat b) 6 1 (d 3 0 + 1))) (tm_up (tm_up d 4 (d 3 0).toNat b) 3 0 (d 3 0 + 1)) s := by
  rw [← ch_ch]
  exact cl_push2 h hd b
theorem rd_f_s (f : Nat → Int) (n : Int) (m : Nat) (d : tm_M) (j : Nat) : rd_f f n (m + 1) d j = if (j : Int) < n ∧ (0 ≤ f j ∧ f j ≤ 39) ∧ d 3 0 < 6 then rd_f f n m (tm_up (tm_up d 4 (d 3 0).toNat (f j)) 3 0 (d 3 0 + 1)) (j + 1) else (d, j) := rfl
theorem l_read {E : tm_Ev} {X : tm_X} (C : tm_C E X yX7_read.cls cX7_read 4 (some .int) 2) (μ s : tm_M) (hs : ss_ok s) (k : Int) (hk : 0 ≤ k ∧ k ≤ 3) (h3 : s 3 k.toNat = 1) (R : tm_M × Nat) (post : Option Value → tm_M → Prop) (hpost : ∀ ν', cl_I ν' R.1 s → (∀ a, 74 ≤ a → ν' a = μ a) → post (some (tm_i (R.2 : Int))) ν') : ∀ (f j : Nat) (x : Int) (ν dj : tm_M), x = j → dd_ok dj → cl_I (tm_ch ν) dj s → (∀ a, 74 ≤ a → ν a = μ a) → j ≤ 60 → 60 - j < f → rd_f (s (6 + k.toNat)) (s 5 k.toNat) f dj j = R → tm_V E X (tm_Q E X post) 4 32 [(3, tm_i x), (2, .ref (E.2.1 (15 + 2 * k.toNat))), (0, .ref (E.2.1 0))] [] ν := by
  intro f
  induction f with
  | zero => intro j x ν dj hx hdj hIj fr h60 hf hR; omega
  | succ f ih =>
    intro j x ν dj hx hdj hIj fr h60 hf hR
    have hsz : ν (15 + 2 * k.toNat) 2 = s 5 k.toNat := by
      have q := ((hIj.2.1.2.2.2.2 k.toNat (by omega)).1 h3).2.1
      rw [tm_ch_f (by omega)] at q
      exact q
    have hqi := ((hIj.2.1.2.2.2.2 k.toNat (by omega)).1 h3).2.2
    have hsz0 := ((hs.2.2.2 k.toNat (by omega)).2 h3).2.1
    have hit0 := ((hs.2.2.2 k.toNat (by omega)).2 h3).2.2
    have h6 : ν 6 1 = dj 3 0 := by
      have q := hIj.1.2.2.2.2.1
      rw [tm_ch_f (by omega)] at q
      exact q
    have z3 := hdj.2.2.2.2.1
    refine tv_iload_n (pc := 32) 0 C dX7_read_32 rfl rfl ?_
    refine tv_aload_n (pc := 33) 1 C dX7_read_33 rfl rfl ?_
    refine tv_geti (pc := 34) (z := s 5 k.toNat) C (sh_tm (k := k.toNat) (by omega)) rfl fl_X7_163 dX7_read_34 hsz ?_
    refine tv_icmp_ge (pc := 37) 81 C dX7_read_37 (by decide) (by omega) (by omega) (fun h37 => ?_) (fun h37 => ?_)
    · skip
      refine tv_aload_n (pc := 81) 2 C dX7_read_81 rfl rfl ?_
      refine tv_callV (pc := 82) [] [] C (c7_changed E _ ν) cv_X7_108 rfl rfl (by decide) rfl (Nat.le_of_ble_eq_true rfl) rfl dX7_read_82 (tm_kv ?_)
      rintro _ rfl
      refine tv_iload_n (pc := 85) 0 C dX7_read_85 rfl rfl ?_
      refine tv_iret (pc := 86) C dX7_read_86 ?_
      have e : R = (dj, j) := by
        rw [← hR, rd_f_s, if_neg (by omega)]
      subst e
      rw [hx]
      exact hpost _ hIj (fun a ha => by rw [tm_ch_f (by omega)]; exact fr a ha)
    · skip
      have hit : ν (16 + 2 * k.toNat) j = s (6 + k.toNat) j := by
        have q := hqi j (by omega)
        rw [tm_ch_f (by omega)] at q
        exact q
      have hir := hit0 j (by omega)
      refine tv_aload_n (pc := 40) 1 C dX7_read_40 rfl rfl ?_
      refine tv_getr (pc := 41) (q := (16 + 2 * k.toNat)) C (sh_tm (k := k.toNat) (by omega)) rfl fl_X7_164 dX7_read_41 ?_
      refine tv_iload_n (pc := 44) 0 C dX7_read_44 rfl rfl ?_
      refine tv_iald (pc := 45) (j := j) (z := s (6 + k.toNat) j) C (sh_tm1 (k := k.toNat) (by omega)) dX7_read_45 (by omega) (by omega) hit ?_
      refine tv_callS (pc := 46) [tm_i (s (6 + k.toNat) j)] [] C (c7_isHour E _ ν (s (6 + k.toNat) j) (by omega)) cs_X7_121 (by decide) rfl (Nat.le_of_ble_eq_true rfl) rfl dX7_read_46 (tm_kp ?_)
      refine tv_ifeqB (pc := 49) 81 C dX7_read_49 (by decide) (fun h49 => ?_) (fun h49 => ?_)
      · skip
        refine tv_aload_n (pc := 81) 2 C dX7_read_81 rfl rfl ?_
        refine tv_callV (pc := 82) [] [] C (c7_changed E _ ν) cv_X7_108 rfl rfl (by decide) rfl (Nat.le_of_ble_eq_true rfl) rfl dX7_read_82 (tm_kv ?_)
        rintro _ rfl
        refine tv_iload_n (pc := 85) 0 C dX7_read_85 rfl rfl ?_
        refine tv_iret (pc := 86) C dX7_read_86 ?_
        have e : R = (dj, j) := by
          rw [← hR, rd_f_s, if_neg (by omega)]
        subst e
        rw [hx]
        exact hpost _ hIj (fun a ha => by rw [tm_ch_f (by omega)]; exact fr a ha)
      · skip
        refine tv_aload_n (pc := 52) 2 C dX7_read_52 rfl rfl ?_
        refine tv_getr (pc := 53) (q := 6) C rfl rfl fl_X7_18 dX7_read_53 ?_
        refine tv_callV (pc := 56) [] [] C (c2_isFull E _ ν 6 7 6 rfl rfl (by omega)) cv_X7_167 rfl rfl (by decide) rfl (Nat.le_of_ble_eq_true rfl) rfl dX7_read_56 (tm_kp ?_)
        refine tv_ifneB (pc := 59) 81 C dX7_read_59 (by decide) (fun h59 => ?_) (fun h59 => ?_)
        · skip
          refine tv_aload_n (pc := 81) 2 C dX7_read_81 rfl rfl ?_
          refine tv_callV (pc := 82) [] [] C (c7_changed E _ ν) cv_X7_108 rfl rfl (by decide) rfl (Nat.le_of_ble_eq_true rfl) rfl dX7_read_82 (tm_kv ?_)
          rintro _ rfl
          refine tv_iload_n (pc := 85) 0 C dX7_read_85 rfl rfl ?_
          refine tv_iret (pc := 86) C dX7_read_86 ?_
          have e : R = (dj, j) := by
            rw [← hR, rd_f_s, if_neg (by omega)]
          subst e
          rw [hx]
          exact hpost _ hIj (fun a ha => by rw [tm_ch_f (by omega)]; exact fr a ha)
        · skip
          refine tv_aload_n (pc := 62) 2 C dX7_read_62 rfl rfl ?_
          refine tv_getr (pc := 63) (q := 6) C rfl rfl fl_X7_18 dX7_read_63 ?_
          refine tv_aload_n (pc := 66) 1 C dX7_read_66 rfl rfl ?_
          refine tv_getr (pc := 67) (q := (16 + 2 * k.toNat)) C (sh_tm (k := k.toNat) (by omega)) rfl fl_X7_164 dX7_read_67 ?_
          refine tv_iload_n (pc := 70) 0 C dX7_read_70 rfl rfl ?_
          refine tv_iald (pc := 71) (j := j) (z := s (6 + k.toNat) j) C (sh_tm1 (k := k.toNat) (by omega)) dX7_read_71 (by omega) (by omega) hit ?_
          refine tv_callV (pc := 72) [tm_i (s (6 + k.toNat) j)] [] C (c2_add E _ ν 6 7 6 rfl rfl (by omega) (s (6 + k.toNat) j) (by decide)) cv_X7_170 rfl rfl (by decide) rfl (Nat.le_of_ble_eq_true rfl) rfl dX7_read_72 (tm_kv ?_)
          rintro μ9 ⟨ha, -⟩
          rw [h6] at ha
          obtain rfl := ha (by omega)
          refine tv_iinc (pc := 75) 0 [(3, tm_i (x + 1)), (2, .ref (E.2.1 (15 + 2 * k.toNat))), (0, .ref (E.2.1 0))] C dX7_read_75 rfl (by decide) rfl ?_
          refine tv_goto (pc := 78) 32 C dX7_read_78 (by decide) ?_
          refine tv_sub (lv1 := [(3, tm_i (x + 1)), (2, .ref (E.2.1 (15 + 2 * k.toNat))), (0, .ref (E.2.1 0))]) [0, 1, 2] rfl ?_
          refine ih (j + 1) (x + 1) _ _ (by omega) (dd_push2 hdj (by omega) (by omega)) (cl_push_r hIj hdj _) (fun a ha => by rw [tm_uf (by omega), tm_uf (by omega)]; exact fr a ha) (by omega) (by omega) ?_
          rw [rd_f_s, if_pos (by omega)] at hR
          exact hR
theorem k7_read (E : tm_Ev) (l : Launch) (μ : tm_M) (d s : tm_M) (hd : dd_ok d) (hs : ss_ok s) (hI : cl_I μ d s) (k : Int) (hk : -2147483648 ≤ k ∧ k ≤ 2147483647) : tm_Met E l yX7_read cX7_read 4 (some .int) 2 [.ref (E.2.1 0), tm_i k] μ (tm_pi (fun z μ' => z = rd_z d s k ∧ cl_I μ' (rd_d d s k) (rd_s s k) ∧ ∀ a, 74 ≤ a → μ' a = μ a)) := by
  refine tm_intro [(0, .ref (E.2.1 0)), (1, tm_i k)] rfl (by decide +kernel) (Nat.le_of_ble_eq_true rfl) ?_
  intro X hX C
  subst hX
  refine tv_iload_n (pc := 0) 1 C dX7_read_0 rfl rfl ?_
  refine tv_callS (pc := 1) [tm_i k] [] C (c7_isSheet E _ μ k (by omega)) cs_X7_152 (by decide) rfl (Nat.le_of_ble_eq_true rfl) rfl dX7_read_1 (tm_kp ?_)
  refine tv_ifneB (pc := 4) 10 C dX7_read_4 (by decide) (fun h4 => ?_) (fun h4 => ?_)
  · skip
    have hfk : (s 3 k.toNat = 0 ∧ μ (15 + 2 * k.toNat) 1 = -1) ∨ (s 3 k.toNat = 1 ∧ (0 ≤ s 4 k.toNat ∧ s 4 k.toNat ≤ 2) ∧ (0 ≤ s 5 k.toNat ∧ s 5 k.toNat ≤ 60) ∧ μ (15 + 2 * k.toNat) 1 = s 4 k.toNat ∧ μ (15 + 2 * k.toNat) 2 = s 5 k.toNat) := by
      have q := hI.2.1.2.2.2.2 k.toNat (by omega)
      have q0 := hs.2.2.2 k.toNat (by omega)
      rcases q0.1 with q3 | q3
      · exact Or.inl ⟨q3, q.2 q3⟩
      · exact Or.inr ⟨q3, (q0.2 q3).1, (q0.2 q3).2.1, (q.1 q3).1, (q.1 q3).2.1⟩
    refine tv_aload_n (pc := 10) 0 C dX7_read_10 rfl rfl ?_
    refine tv_getr (pc := 11) (q := 14) C rfl rfl fl_X7_34 dX7_read_11 ?_
    refine tv_iload_n (pc := 14) 1 C dX7_read_14 rfl rfl ?_
    refine tv_aald (pc := 15) (q := (15 + 2 * k.toNat)) (j := k.toNat) RX6 C rfl rfl dX7_read_15 (by omega) (by omega) (sh_q (by omega)) ?_
    refine tv_astore_n (pc := 16) [(2, .ref (E.2.1 (15 + 2 * k.toNat))), (0, .ref (E.2.1 0)), (1, tm_i k)] C dX7_read_16 rfl (by decide) rfl ?_
    refine tv_aload_n (pc := 17) 0 C dX7_read_17 rfl rfl ?_
    refine tv_callV (pc := 18) [] [] C (c6_isLost E _ μ (15 + 2 * k.toNat) (16 + 2 * k.toNat) (sh_tm (k := k.toNat) (by omega)) (sh_tm1 (k := k.toNat) (by omega)) (by omega)) cv_X7_155 (sh_tm (k := k.toNat) (by omega)) rfl (by decide) rfl (Nat.le_of_ble_eq_true rfl) rfl dX7_read_18 (tm_kp ?_)
    refine tv_ifeqB (pc := 21) 30 C dX7_read_21 (by decide) (fun h21 => ?_) (fun h21 => ?_)
    · skip
      refine tv_iconst (pc := 30) C dX7_read_30 ?_
      refine tv_istore_n (pc := 31) [(3, tm_i 0), (2, .ref (E.2.1 (15 + 2 * k.toNat))), (0, .ref (E.2.1 0)), (1, tm_i k)] C dX7_read_31 rfl (by decide) rfl ?_
      refine tv_sub (lv1 := [(3, tm_i 0), (2, .ref (E.2.1 (15 + 2 * k.toNat))), (0, .ref (E.2.1 0))]) [0, 1, 2] rfl ?_
      refine l_read C μ s hs k (by omega) (by omega) (rd_f (s (6 + k.toNat)) (s 5 k.toNat) 61 d 0) _ (fun n9 q1 q2 => ⟨_, rfl, ?_, ?_, q2⟩) 61 0 0 μ d rfl hd (cl_I_ch hI) (fun a _ => rfl) (by omega) (by omega) rfl
      · unfold rd_z; rw [if_pos (by omega), if_neg (by omega)]
      · unfold rd_s rd_d; rw [if_pos (by omega), if_neg (by omega), if_pos (by omega), if_neg (by omega)]; exact q1
    · skip
      refine tv_aload_n (pc := 24) 1 C dX7_read_24 rfl rfl ?_
      refine tv_iconst (pc := 25) C dX7_read_25 ?_
      refine tv_callV (pc := 26) [tm_i 1] [] C (c7_found E _ μ 1) cv_X7_159 rfl rfl (by decide) rfl (Nat.le_of_ble_eq_true rfl) rfl dX7_read_26 (tm_ki ?_)
      rintro _ _ ⟨rfl, rfl⟩
      refine tv_iret (pc := 29) C dX7_read_29 ?_
      refine ⟨_, rfl, by unfold rd_z; rw [if_pos (by omega), if_pos (by omega)]; rfl, ?_, fun a ha => by rw [tm_uf (by omega)]⟩
      unfold rd_s rd_d
      rw [if_pos (by omega), if_pos (by omega), if_pos (by omega), if_pos (by omega)]
      exact cl_fd hI 1
  · skip
    refine tv_bipush (pc := 7) C dX7_read_7 (by decide) ?_
    refine tv_iret (pc := 9) C dX7_read_9 ?_
    exact ⟨_, rfl, by unfold rd_z; rw [if_neg (by omega)], by unfold rd_s rd_d; rw [if_neg (by omega), if_neg (by omega)]; exact hI, fun a _ => rfl⟩
theorem l_write {E : tm_Ev} {X : tm_X} (C : tm_C E X yX7_write.cls cX7_write 5 (some .int) 5) (d s n1 : tm_M) (k : Int) (hk : 0 ≤ k ∧ k ≤ 3) (y : Int) (n : Nat) (hy : y = n) (hn : n ≤ 40) (hfo : n1 (15 + 2 * k.toNat) 1 = s 4 k.toNat) (hfr : -1 ≤ s 4 k.toNat ∧ s 4 k.toNat ≤ 2) (hg : ∀ h, h < 40 → n1 37 h = sm_z (dd_p d) (h + 1)) (post : Option Value → tm_M → Prop) (hpost : post (some (tm_i y)) (tm_rowf n1 (16 + 2 * k.toNat) n (fun b => st_v (s 4 k.toNat) (sm_z (dd_p d) (b + 1))))) : ∀ (f h : Nat) (x : Int), x = h → h ≤ n → n - h < f → tm_V E X (tm_Q E X post) 5 47 [(4, tm_i x), (3, tm_i y), (2, .ref (E.2.1 (15 + 2 * k.toNat))), (0, .ref (E.2.1 0))] [] (tm_rowf n1 (16 + 2 * k.toNat) h (fun b => st_v (s 4 k.toNat) (sm_z (dd_p d) (b + 1)))) := by
  intro f
  induction f with
  | zero => intro h x hx hj hf; omega
  | succ f ih =>
    intro h x hx hj hf
    refine tv_iload (pc := 47) 0 C dX7_write_47 rfl ?_
    refine tv_iload_n (pc := 49) 1 C dX7_write_49 rfl rfl ?_
    refine tv_icmp_ge (pc := 50) 75 C dX7_write_50 (by decide) (by omega) (by omega) (fun h50 => ?_) (fun h50 => ?_)
    · skip
      refine tv_iload_n (pc := 75) 1 C dX7_write_75 rfl rfl ?_
      refine tv_iret (pc := 76) C dX7_write_76 ?_
      have hin : h = n := by omega
      subst hin
      exact hpost
    · skip
      refine tv_aload_n (pc := 53) 2 C dX7_write_53 rfl rfl ?_
      refine tv_iload (pc := 54) 0 C dX7_write_54 rfl ?_
      refine tv_aload_n (pc := 56) 3 C dX7_write_56 rfl rfl ?_
      refine tv_getr (pc := 57) (q := 35) C rfl rfl fl_X7_69 dX7_write_57 ?_
      refine tv_getr (pc := 60) (q := 37) C rfl rfl fl_X7_173 dX7_write_60 ?_
      refine tv_iload (pc := 63) 0 C dX7_write_63 rfl ?_
      refine tv_iald (pc := 65) (j := h) (z := sm_z (dd_p d) (h + 1)) C rfl dX7_write_65 (by omega) (by omega) ((tm_rowf_k (by omega)).trans (hg h (by omega))) ?_
      refine tv_callV (pc := 66) [tm_i x, tm_i (sm_z (dd_p d) (h + 1))] [] C (c6_store E _ (tm_rowf n1 (16 + 2 * k.toNat) h (fun b => st_v (s 4 k.toNat) (sm_z (dd_p d) (b + 1)))) (15 + 2 * k.toNat) (16 + 2 * k.toNat) (sh_tm (k := k.toNat) (by omega)) (sh_tm1 (k := k.toNat) (by omega)) (s 4 k.toNat) (by rw [tm_rowf_k (by omega)]; exact hfo) (by omega) x (sm_z (dd_p d) (h + 1)) (by omega)) cv_X7_279 (sh_tm (k := k.toNat) (by omega)) rfl (by decide) rfl (Nat.le_of_ble_eq_true rfl) rfl dX7_write_66 (tm_kv ?_)
      rintro _ rfl
      rw [show x.toNat = h by omega, tm_rowf_s rfl]
      refine tv_iinc (pc := 69) 0 [(4, tm_i (x + 1)), (3, tm_i y), (2, .ref (E.2.1 (15 + 2 * k.toNat))), (0, .ref (E.2.1 0))] C dX7_write_69 rfl (by decide) rfl ?_
      refine tv_goto (pc := 72) 47 C dX7_write_72 (by decide) ?_
      refine tv_sub (lv1 := [(4, tm_i (x + 1)), (3, tm_i y), (2, .ref (E.2.1 (15 + 2 * k.toNat))), (0, .ref (E.2.1 0))]) [0, 1, 2, 3] rfl ?_
      exact ih (h + 1) (x + 1) (by omega) (by omega) (by omega)
theorem k7_write (E : tm_Ev) (l : Launch) (μ : tm_M) (d s : tm_M) (hd : dd_ok d) (hs : ss_ok s) (hI : cl_I μ d s) (k : Int) (hk : -2147483648 ≤ k ∧ k ≤ 2147483647) : tm_Met E l yX7_write cX7_write 5 (some .int) 5 [.ref (E.2.1 0), tm_i k] μ (tm_pi (fun z μ' => z = wr_z s k ∧ cl_I μ' d (wr_s d s k) ∧ ∀ a, 74 ≤ a → μ' a = μ a)) := by
  refine tm_intro [(0, .ref (E.2.1 0)), (1, tm_i k)] rfl (by decide +kernel) (Nat.le_of_ble_eq_true rfl) ?_
  intro X hX C
  subst hX
  refine tv_iload_n (pc := 0) 1 C dX7_write_0 rfl rfl ?_
  refine tv_callS (pc := 1) [tm_i k] [] C (c7_isSheet E _ μ k (by omega)) cs_X7_152 (by decide) rfl (Nat.le_of_ble_eq_true rfl) rfl dX7_write_1 (tm_kp ?_)
  refine tv_ifneB (pc := 4) 10 C dX7_write_4 (by decide) (fun h4 => ?_) (fun h4 => ?_)
  · skip
    have hfk : (s 3 k.toNat = 0 ∧ μ (15 + 2 * k.toNat) 1 = -1) ∨ (s 3 k.toNat = 1 ∧ (0 ≤ s 4 k.toNat ∧ s 4 k.toNat ≤ 2) ∧ (0 ≤ s 5 k.toNat ∧ s 5 k.toNat ≤ 60) ∧ μ (15 + 2 * k.toNat) 1 = s 4 k.toNat ∧ μ (15 + 2 * k.toNat) 2 = s 5 k.toNat) := by
      have q := hI.2.1.2.2.2.2 k.toNat (by omega)
      have q0 := hs.2.2.2 k.toNat (by omega)
      rcases q0.1 with q3 | q3
      · exact Or.inl ⟨q3, q.2 q3⟩
      · exact Or.inr ⟨q3, (q0.2 q3).1, (q0.2 q3).2.1, (q.1 q3).1, (q.1 q3).2.1⟩
    refine tv_aload_n (pc := 10) 0 C dX7_write_10 rfl rfl ?_
    refine tv_getr (pc := 11) (q := 14) C rfl rfl fl_X7_34 dX7_write_11 ?_
    refine tv_iload_n (pc := 14) 1 C dX7_write_14 rfl rfl ?_
    refine tv_aald (pc := 15) (q := (15 + 2 * k.toNat)) (j := k.toNat) RX6 C rfl rfl dX7_write_15 (by omega) (by omega) (sh_q (by omega)) ?_
    refine tv_astore_n (pc := 16) [(2, .ref (E.2.1 (15 + 2 * k.toNat))), (0, .ref (E.2.1 0)), (1, tm_i k)] C dX7_write_16 rfl (by decide) rfl ?_
    refine tv_aload_n (pc := 17) 0 C dX7_write_17 rfl rfl ?_
    refine tv_callV (pc := 18) [] [] C (c6_isLost E _ μ (15 + 2 * k.toNat) (16 + 2 * k.toNat) (sh_tm (k := k.toNat) (by omega)) (sh_tm1 (k := k.toNat) (by omega)) (by omega)) cv_X7_155 (sh_tm (k := k.toNat) (by omega)) rfl (by decide) rfl (Nat.le_of_ble_eq_true rfl) rfl dX7_write_18 (tm_kp ?_)
    refine tv_ifeqB (pc := 21) 30 C dX7_write_21 (by decide) (fun h21 => ?_) (fun h21 => ?_)
    · skip
      refine tv_aload_n (pc := 30) 1 C dX7_write_30 rfl rfl ?_
      refine tv_callV (pc := 31) [] [] C (c7_settle E _ μ d hd hI.1 hI.2.2.1 hI.2.2.2.1) cv_X7_125 rfl rfl (by decide) rfl (Nat.le_of_ble_eq_true rfl) rfl dX7_write_31 (tm_kv ?_)
      rintro n1 ⟨g1, g2, g3, g4, g5⟩
      have hI1 := cl_I_set hI g1 g2 g3 g4 g5
      have fr1 : ∀ a, 74 ≤ a → n1 a = μ a := fun a ha => g4 a (by omega)
      have hn := g2.2.1
      have hor := fun k hk => (g2.2.2.1 k hk)
      have hsz : n1 (15 + 2 * k.toNat) 2 = s 5 k.toNat := ((hI1.2.1.2.2.2.2 k.toNat (by omega)).1 (by omega)).2.1
      have hfo := ((hI1.2.1.2.2.2.2 k.toNat (by omega)).1 (by omega)).1
      refine tv_aload_n (pc := 34) 0 C dX7_write_34 rfl rfl ?_
      refine tv_geti (pc := 35) (z := s 5 k.toNat) C (sh_tm (k := k.toNat) (by omega)) rfl fl_X7_163 dX7_write_35 hsz ?_
      refine tv_bipush (pc := 38) C dX7_write_38 (by decide) ?_
      refine tv_mmin (pc := 40) C mx_X7_299 (by omega) (by omega) dX7_write_40 (Nat.le_of_ble_eq_true rfl) ?_
      refine tv_istore_n (pc := 43) [(3, tm_i (min (s 5 k.toNat) 40)), (2, .ref (E.2.1 (15 + 2 * k.toNat))), (0, .ref (E.2.1 0)), (1, tm_i k)] C dX7_write_43 rfl (by decide) rfl ?_
      refine tv_iconst (pc := 44) C dX7_write_44 ?_
      refine tv_istore (pc := 45) [(4, tm_i 0), (3, tm_i (min (s 5 k.toNat) 40)), (2, .ref (E.2.1 (15 + 2 * k.toNat))), (0, .ref (E.2.1 0)), (1, tm_i k)] C dX7_write_45 (by decide) rfl ?_
      refine tv_sub (lv1 := [(4, tm_i 0), (3, tm_i (min (s 5 k.toNat) 40)), (2, .ref (E.2.1 (15 + 2 * k.toNat))), (0, .ref (E.2.1 0))]) [0, 1, 2, 3] rfl ?_
      refine tv_mem (tm_rowf n1 (16 + 2 * k.toNat) 0 (fun b => st_v (s 4 k.toNat) (sm_z (dd_p d) (b + 1)))) (tm_rowf_0 n1 _ _).symm ?_
      refine l_write C d s n1 k (by omega) _ (min (s 5 k.toNat) 40).toNat (by omega) (by omega) hfo (by omega) (fun h hh => (g2.2.2.2.1 h hh).1) _ ⟨_, rfl, ?_, ?_, ?_⟩ 41 0 0 rfl (by omega) (by omega)
      · unfold wr_z; rw [if_pos (by omega), if_neg (by omega)]
      · unfold wr_s; rw [if_pos (by omega), if_neg (by omega)]
        refine cl_it hI1 k.toNat (by omega) (fun a ha => tm_rowf_f ha) (fun a ha => tm_rowf_f ha) (fun q j hj => ?_)
        by_cases hc : j < (min (s 5 k.toNat) 40).toNat
        · rw [tm_rowf_in hc, tm_rowf_in hc]
        · rw [tm_rowf_out (by omega), tm_rowf_out (by omega)]; exact ((hI1.2.1.2.2.2.2 k.toNat (by omega)).1 q).2.2 j hj
      · intro a ha; rw [tm_rowf_f (by omega)]; exact fr1 a ha
    · skip
      refine tv_aload_n (pc := 24) 1 C dX7_write_24 rfl rfl ?_
      refine tv_iconst (pc := 25) C dX7_write_25 ?_
      refine tv_callV (pc := 26) [tm_i 1] [] C (c7_found E _ μ 1) cv_X7_159 rfl rfl (by decide) rfl (Nat.le_of_ble_eq_true rfl) rfl dX7_write_26 (tm_ki ?_)
      rintro _ _ ⟨rfl, rfl⟩
      refine tv_iret (pc := 29) C dX7_write_29 ?_
      refine ⟨_, rfl, by unfold wr_z; rw [if_pos (by omega), if_pos (by omega)]; rfl, ?_, fun a ha => by rw [tm_uf (by omega)]⟩
      unfold wr_s
      rw [if_pos (by omega), if_pos (by omega)]
      exact cl_fd hI 1
  · skip
    refine tv_bipush (pc := 7) C dX7_write_7 (by decide) ?_
    refine tv_iret (pc := 9) C dX7_write_9 ?_
    exact ⟨_, rfl, by unfold wr_z; rw [if_neg (by omega)], by unfold wr_s; rw [if_neg (by omega)]; exact hI, fun a _ => rfl⟩
