/-- a piece of a row, from off on -/
def tm_rowo (μ : tm_M) (k off n : Nat) (g : Nat → Int) : tm_M := fun a b => if a = k then (if off ≤ b ∧ b < off + n then g (b - off) else μ a b) else μ a b
theorem tm_rowo_0 (μ : tm_M) (k off : Nat) (g : Nat → Int) : tm_rowo μ k off 0 g = μ := by
  funext a b
  unfold tm_rowo
  split
  · rw [if_neg (by omega)]
  · rfl
theorem tm_rowo_f {μ : tm_M} {k off n a : Nat} {g : Nat → Int} (h : a ≠ k) : tm_rowo μ k off n g a = μ a := by funext b; simp [tm_rowo, h]
theorem tm_rowo_k {μ : tm_M} {k off n a b : Nat} {g : Nat → Int} (h : a ≠ k) : tm_rowo μ k off n g a b = μ a b := by simp [tm_rowo, h]
theorem tm_rowo_in {μ : tm_M} {k off n j : Nat} {g : Nat → Int} (h : j < n) : tm_rowo μ k off n g k (off + j) = g j := by
  unfold tm_rowo
  rw [if_pos rfl, if_pos (by omega)]
  congr 1
  omega
theorem tm_rowo_out {μ : tm_M} {k off n b : Nat} {g : Nat → Int} (h : b < off ∨ off + n ≤ b) : tm_rowo μ k off n g k b = μ k b := by
  unfold tm_rowo
  rw [if_pos rfl, if_neg (by omega)]
theorem tm_rowo_s {μ : tm_M} {k off n : Nat} {g : Nat → Int} {v : Int} (hv : v = g n) : tm_up (tm_rowo μ k off n g) k (off + n) v = tm_rowo μ k off (n + 1) g := by
  funext a b
  by_cases ha : a = k
  · subst ha
    by_cases hb : b = off + n
    · subst hb; rw [tm_us, tm_rowo_in (by omega), hv]
    · rw [tm_uj hb]
      by_cases h2 : off ≤ b ∧ b < off + n
      · obtain ⟨j, rfl⟩ := Nat.exists_eq_add_of_le h2.1
        rw [tm_rowo_in (by omega), tm_rowo_in (by omega)]
      · rw [tm_rowo_out (by omega), tm_rowo_out (by omega)]
  · rw [tm_uk ha, tm_rowo_k ha, tm_rowo_k ha]
theorem c8_meets (E : tm_Ev) (l : Launch) (μ : tm_M) (n : Int) : tm_Met E l yX8_meets cX8_meets 2 (some .int) 0 [.ref (E.2.1 74), tm_i n] μ (tm_pi (fun z μ' => z = -10 - n ∧ μ' = tm_up μ 74 44 n)) := by
  refine tm_intro [(0, .ref (E.2.1 74)), (1, tm_i n)] rfl (by decide +kernel) (Nat.le_of_ble_eq_true rfl) ?_
  intro X hX C
  subst hX
  refine tv_aload_n (pc := 0) 0 C dX8_meets_0 rfl rfl ?_
  refine tv_iload_n (pc := 1) 1 C dX8_meets_1 rfl rfl ?_
  refine tv_puti (pc := 2) C rfl rfl fp_X8_300 dX8_meets_2 ?_
  refine tv_bipush (pc := 5) C dX8_meets_5 (by decide) ?_
  refine tv_iload_n (pc := 7) 1 C dX8_meets_7 rfl rfl ?_
  refine tv_isub (pc := 8) C dX8_meets_8 ?_
  refine tv_iret (pc := 9) C dX8_meets_9 ?_
  exact ⟨_, rfl, rfl, rfl⟩
theorem k8_seen (E : tm_Ev) (l : Launch) (μ : tm_M) (d s : tm_M) (hd : dd_ok d) (hs : ss_ok s) (hI : rf_I μ d s) (h v : Int) (hh : -2147483648 ≤ h ∧ h ≤ 2147483647) (hv : -2147483648 ≤ v ∧ v ≤ 2147483647) : tm_Met E l yX8_seen cX8_seen 3 (some .int) 2 [.ref (E.2.1 74), tm_i h, tm_i v] μ (tm_pi (fun z μ' => z = sn_z s h v ∧ rf_I μ' d (sn_s s h v) ∧ ∀ a, a < 74 → μ' a = μ a)) := by
  refine tm_intro [(0, .ref (E.2.1 74)), (1, tm_i h), (2, tm_i v)] rfl (by decide +kernel) (Nat.le_of_ble_eq_true rfl) ?_
  intro X hX C
  subst hX
  have z35 := hI.2.1
  have z0 := hs.1
  refine tv_iload_n (pc := 0) 1 C dX8_seen_0 rfl rfl ?_
  refine tv_callS (pc := 1) [tm_i h] [] C (c8_isHour E _ μ h (by omega)) cs_X8_134 (by decide) rfl (Nat.le_of_ble_eq_true rfl) rfl dX8_seen_1 (tm_kp ?_)
  refine tv_ifeqB (pc := 4) 17 C dX8_seen_4 (by decide) (fun h4 => ?_) (fun h4 => ?_)
  · skip
    refine tv_bipush (pc := 17) C dX8_seen_17 (by decide) ?_
    refine tv_iret (pc := 19) C dX8_seen_19 ?_
    exact ⟨_, rfl, by unfold sn_z; rw [if_neg (by omega)], by unfold sn_s; rw [if_neg (by omega)]; exact hI, fun a _ => rfl⟩
  · skip
    refine tv_iload_n (pc := 7) 2 C dX8_seen_7 rfl rfl ?_
    refine tv_iconst (pc := 8) C dX8_seen_8 ?_
    refine tv_bipush (pc := 9) C dX8_seen_9 (by decide) ?_
    refine tv_callS (pc := 11) [tm_i v, tm_i 0, tm_i 20] [] C (c8_in E _ μ v 0 20 (by omega) (by omega) (by omega)) cs_X8_94 (by decide) rfl (Nat.le_of_ble_eq_true rfl) rfl dX8_seen_11 (tm_kp ?_)
    refine tv_ifneB (pc := 14) 20 C dX8_seen_14 (by decide) (fun h14 => ?_) (fun h14 => ?_)
    · skip
      refine tv_aload_n (pc := 20) 0 C dX8_seen_20 rfl rfl ?_
      refine tv_geti (pc := 21) (z := s 0 0) C rfl rfl fl_X8_265 dX8_seen_21 z35 ?_
      refine tv_bipush (pc := 24) C dX8_seen_24 (by decide) ?_
      refine tv_icmp_ne (pc := 26) 32 C dX8_seen_26 (by decide) (by omega) (by omega) (fun h26 => ?_) (fun h26 => ?_)
      · skip
        refine tv_aload_n (pc := 32) 0 C dX8_seen_32 rfl rfl ?_
        refine tv_getr (pc := 33) (q := 94) C rfl rfl fl_X8_67 dX8_seen_33 ?_
        refine tv_aload_n (pc := 36) 0 C dX8_seen_36 rfl rfl ?_
        refine tv_geti (pc := 37) (z := s 0 0) C rfl rfl fl_X8_265 dX8_seen_37 z35 ?_
        refine tv_iload_n (pc := 40) 1 C dX8_seen_40 rfl rfl ?_
        refine tv_iast (pc := 41) (j := (s 0 0).toNat) C rfl dX8_seen_41 (by omega) rfl ?_
        refine tv_aload_n (pc := 42) 0 C dX8_seen_42 rfl rfl ?_
        refine tv_getr (pc := 43) (q := 95) C rfl rfl fl_X8_70 dX8_seen_43 ?_
        refine tv_aload_n (pc := 46) 0 C dX8_seen_46 rfl rfl ?_
        refine tv_geti (pc := 47) (z := s 0 0) C rfl rfl fl_X8_265 dX8_seen_47 ((tm_uk (by decide)).trans (z35)) ?_
        refine tv_iload_n (pc := 50) 2 C dX8_seen_50 rfl rfl ?_
        refine tv_iast (pc := 51) (j := (s 0 0).toNat) C rfl dX8_seen_51 (by omega) rfl ?_
        refine tv_aload_n (pc := 52) 0 C dX8_seen_52 rfl rfl ?_
        refine tv_dup (pc := 53) C dX8_seen_53 rfl ?_
        refine tv_geti (pc := 54) (z := s 0 0) C rfl rfl fl_X8_265 dX8_seen_54 ((tm_uk (by decide)).trans ((tm_uk (by decide)).trans (z35))) ?_
        refine tv_iconst (pc := 57) C dX8_seen_57 ?_
        refine tv_iadd (pc := 58) C dX8_seen_58 ?_
        refine tv_puti (pc := 59) C rfl rfl fp_X8_265 dX8_seen_59 ?_
        refine tv_aload_n (pc := 62) 0 C dX8_seen_62 rfl rfl ?_
        refine tv_geti (pc := 63) (z := (s 0 0) + 1) C rfl rfl fl_X8_265 dX8_seen_63 tm_us ?_
        refine tv_iret (pc := 66) C dX8_seen_66 ?_
        refine ⟨_, rfl, by unfold sn_z; rw [if_pos (by omega), if_neg (by omega)], ?_, fun a ha => by rw [tm_uf (by omega), tm_uf (by omega), tm_uf (by omega)]⟩
        unfold sn_s
        rw [if_pos (by omega), if_neg (by omega)]
        exact rf_sn hI hs h v
      · skip
        refine tv_bipush (pc := 29) C dX8_seen_29 (by decide) ?_
        refine tv_iret (pc := 31) C dX8_seen_31 ?_
        exact ⟨_, rfl, by unfold sn_z; rw [if_pos (by omega), if_pos (by omega)], by unfold sn_s; rw [if_pos (by omega), if_pos (by omega)]; exact hI, fun a _ => rfl⟩
    · skip
      refine tv_bipush (pc := 17) C dX8_seen_17 (by decide) ?_
      refine tv_iret (pc := 19) C dX8_seen_19 ?_
      exact ⟨_, rfl, by unfold sn_z; rw [if_neg (by omega)], by unfold sn_s; rw [if_neg (by omega)]; exact hI, fun a _ => rfl⟩
theorem k8_forget (E : tm_Ev) (l : Launch) (μ : tm_M) (d s : tm_M) (hd : dd_ok d) (hs : ss_ok s) (hI : rf_I μ d s) : tm_Met E l yX8_forget cX8_forget 2 (some .int) 0 [.ref (E.2.1 74)] μ (tm_pi (fun z μ' => z = s 0 0 ∧ rf_I μ' d (tm_up s 0 0 0) ∧ ∀ a, a < 74 → μ' a = μ a)) := by
  refine tm_intro [(0, .ref (E.2.1 74))] rfl (by decide +kernel) (Nat.le_of_ble_eq_true rfl) ?_
  intro X hX C
  subst hX
  have z35 := hI.2.1
  have z0 := hs.1
  refine tv_aload_n (pc := 0) 0 C dX8_forget_0 rfl rfl ?_
  refine tv_geti (pc := 1) (z := s 0 0) C rfl rfl fl_X8_265 dX8_forget_1 z35 ?_
  refine tv_istore_n (pc := 4) [(1, tm_i (s 0 0)), (0, .ref (E.2.1 74))] C dX8_forget_4 rfl (by decide) rfl ?_
  refine tv_aload_n (pc := 5) 1 C dX8_forget_5 rfl rfl ?_
  refine tv_iconst (pc := 6) C dX8_forget_6 ?_
  refine tv_puti (pc := 7) C rfl rfl fp_X8_265 dX8_forget_7 ?_
  refine tv_iload_n (pc := 10) 0 C dX8_forget_10 rfl rfl ?_
  refine tv_iret (pc := 11) C dX8_forget_11 ?_
  exact ⟨_, rfl, rfl, rf_fg hI, fun a ha => by rw [tm_uf (by omega)]⟩
theorem l_sheet {E : tm_Ev} {X : tm_X} (C : tm_C E X yX8_sheet.cls cX8_sheet 5 (some .int) 2) (n1 : tm_M) (k n : Int) (hk : 0 ≤ k ∧ k ≤ 3) (post : Option Value → tm_M → Prop) (hpost : post (some (tm_i n)) (tm_rowo n1 100 (60 * k.toNat) 60 (fun _ => 0))) : ∀ (f h : Nat) (x : Int), x = h → h ≤ 60 → 60 - h < f → tm_V E X (tm_Q E X post) 5 59 [(4, tm_i x), (3, tm_i n), (0, .ref (E.2.1 74)), (1, tm_i k)] [] (tm_rowo n1 100 (60 * k.toNat) h (fun _ => 0)) := by
  intro f
  induction f with
  | zero => intro h x hx hj hf; omega
  | succ f ih =>
    intro h x hx hj hf
    refine tv_iload (pc := 59) 0 C dX8_sheet_59 rfl ?_
    refine tv_bipush (pc := 61) C dX8_sheet_61 (by decide) ?_
    refine tv_icmp_ge (pc := 63) 85 C dX8_sheet_63 (by decide) (by omega) (by omega) (fun h63 => ?_) (fun h63 => ?_)
    · skip
      refine tv_iload_n (pc := 85) 1 C dX8_sheet_85 rfl rfl ?_
      refine tv_iret (pc := 86) C dX8_sheet_86 ?_
      have hin : h = 60 := by omega
      subst hin
      exact hpost
    · skip
      refine tv_aload_n (pc := 66) 2 C dX8_sheet_66 rfl rfl ?_
      refine tv_getr (pc := 67) (q := 100) C rfl rfl fl_X8_86 dX8_sheet_67 ?_
      refine tv_bipush (pc := 70) C dX8_sheet_70 (by decide) ?_
      refine tv_iload_n (pc := 72) 3 C dX8_sheet_72 rfl rfl ?_
      refine tv_imul (pc := 73) C dX8_sheet_73 ?_
      refine tv_iload (pc := 74) 0 C dX8_sheet_74 rfl ?_
      refine tv_iadd (pc := 76) C dX8_sheet_76 ?_
      refine tv_iconst (pc := 77) C dX8_sheet_77 ?_
      refine tv_iast (pc := 78) (j := (60 * k.toNat + h)) C rfl dX8_sheet_78 (by omega) (by omega) ?_
      refine tv_iinc (pc := 79) 0 [(4, tm_i (x + 1)), (3, tm_i n), (0, .ref (E.2.1 74)), (1, tm_i k)] C dX8_sheet_79 rfl (by decide) rfl ?_
      refine tv_goto (pc := 82) 59 C dX8_sheet_82 (by decide) ?_
      refine tv_sub (lv1 := [(4, tm_i (x + 1)), (3, tm_i n), (0, .ref (E.2.1 74)), (1, tm_i k)]) [0, 1, 2, 3] rfl ?_
      rw [tm_rowo_s rfl]
      exact ih (h + 1) (x + 1) (by omega) (by omega) (by omega)
theorem k8_sheet (E : tm_Ev) (l : Launch) (μ : tm_M) (d s : tm_M) (hd : dd_ok d) (hs : ss_ok s) (hI : rf_I μ d s) (k f n : Int) (hk : -2147483648 ≤ k ∧ k ≤ 2147483647) (hf : -2147483648 ≤ f ∧ f ≤ 2147483647) (hn : -2147483648 ≤ n ∧ n ≤ 2147483647) : tm_Met E l yX8_sheet cX8_sheet 5 (some .int) 2 [.ref (E.2.1 74), tm_i k, tm_i f, tm_i n] μ (tm_pi (fun z μ' => z = sh_z k f n ∧ rf_I μ' d (sh_s s k f n) ∧ ∀ a, a < 74 → μ' a = μ a)) := by
  refine tm_intro [(0, .ref (E.2.1 74)), (1, tm_i k), (2, tm_i f), (3, tm_i n)] rfl (by decide +kernel) (Nat.le_of_ble_eq_true rfl) ?_
  intro X hX C
  subst hX
  refine tv_iload_n (pc := 0) 1 C dX8_sheet_0 rfl rfl ?_
  refine tv_callS (pc := 1) [tm_i k] [] C (c8_isSheet E _ μ k (by omega)) cs_X8_152 (by decide) rfl (Nat.le_of_ble_eq_true rfl) rfl dX8_sheet_1 (tm_kp ?_)
  refine tv_ifeqB (pc := 4) 22 C dX8_sheet_4 (by decide) (fun h4 => ?_) (fun h4 => ?_)
  · skip
    refine tv_bipush (pc := 22) C dX8_sheet_22 (by decide) ?_
    refine tv_iret (pc := 24) C dX8_sheet_24 ?_
    exact ⟨_, rfl, by unfold sh_z; rw [if_neg (by omega)], by unfold sh_s; rw [if_neg (by omega)]; exact hI, fun a _ => rfl⟩
  · skip
    refine tv_iload_n (pc := 7) 2 C dX8_sheet_7 rfl rfl ?_
    refine tv_iconst (pc := 8) C dX8_sheet_8 ?_
    refine tv_iconst (pc := 9) C dX8_sheet_9 ?_
    refine tv_callS (pc := 10) [tm_i f, tm_i 0, tm_i 2] [] C (c8_in E _ μ f 0 2 (by omega) (by omega) (by omega)) cs_X8_94 (by decide) rfl (Nat.le_of_ble_eq_true rfl) rfl dX8_sheet_10 (tm_kp ?_)
    refine tv_ifeqB (pc := 13) 22 C dX8_sheet_13 (by decide) (fun h13 => ?_) (fun h13 => ?_)
    · skip
      refine tv_bipush (pc := 22) C dX8_sheet_22 (by decide) ?_
      refine tv_iret (pc := 24) C dX8_sheet_24 ?_
      exact ⟨_, rfl, by unfold sh_z; rw [if_neg (by omega)], by unfold sh_s; rw [if_neg (by omega)]; exact hI, fun a _ => rfl⟩
    · skip
      refine tv_iload_n (pc := 16) 3 C dX8_sheet_16 rfl rfl ?_
      refine tv_bipush (pc := 17) C dX8_sheet_17 (by decide) ?_
      refine tv_icmp_le (pc := 19) 25 C dX8_sheet_19 (by decide) (by omega) (by omega) (fun h19 => ?_) (fun h19 => ?_)
      · skip
        refine tv_iload_n (pc := 25) 3 C dX8_sheet_25 rfl rfl ?_
        refine tv_if_ge (pc := 26) 35 C dX8_sheet_26 (by decide) (by omega) (fun h26 => ?_) (fun h26 => ?_)
        · skip
          refine tv_aload_n (pc := 35) 0 C dX8_sheet_35 rfl rfl ?_
          refine tv_getr (pc := 36) (q := 97) C rfl rfl fl_X8_76 dX8_sheet_36 ?_
          refine tv_iload_n (pc := 39) 1 C dX8_sheet_39 rfl rfl ?_
          refine tv_iconst (pc := 40) C dX8_sheet_40 ?_
          refine tv_zast (pc := 41) (j := k.toNat) C rfl dX8_sheet_41 (by omega) (by omega) (by omega) ?_
          refine tv_aload_n (pc := 42) 0 C dX8_sheet_42 rfl rfl ?_
          refine tv_getr (pc := 43) (q := 98) C rfl rfl fl_X8_80 dX8_sheet_43 ?_
          refine tv_iload_n (pc := 46) 1 C dX8_sheet_46 rfl rfl ?_
          refine tv_iload_n (pc := 47) 2 C dX8_sheet_47 rfl rfl ?_
          refine tv_iast (pc := 48) (j := k.toNat) C rfl dX8_sheet_48 (by omega) (by omega) ?_
          refine tv_aload_n (pc := 49) 0 C dX8_sheet_49 rfl rfl ?_
          refine tv_getr (pc := 50) (q := 99) C rfl rfl fl_X8_83 dX8_sheet_50 ?_
          refine tv_iload_n (pc := 53) 1 C dX8_sheet_53 rfl rfl ?_
          refine tv_iload_n (pc := 54) 3 C dX8_sheet_54 rfl rfl ?_
          refine tv_iast (pc := 55) (j := k.toNat) C rfl dX8_sheet_55 (by omega) (by omega) ?_
          refine tv_iconst (pc := 56) C dX8_sheet_56 ?_
          refine tv_istore (pc := 57) [(4, tm_i 0), (0, .ref (E.2.1 74)), (1, tm_i k), (2, tm_i f), (3, tm_i n)] C dX8_sheet_57 (by decide) rfl ?_
          refine tv_sub (lv1 := [(4, tm_i 0), (3, tm_i n), (0, .ref (E.2.1 74)), (1, tm_i k)]) [0, 4, 1, 2] rfl ?_
          refine tv_mem (tm_rowo (tm_up (tm_up (tm_up μ 97 k.toNat 1) 98 k.toNat f) 99 k.toNat n) 100 (60 * k.toNat) 0 (fun _ => 0)) (tm_rowo_0 _ _ _ _).symm ?_
          refine l_sheet C _ k n (by omega) _ ⟨_, rfl, ?_, ?_, ?_⟩ 61 0 0 rfl (by omega) (by omega)
          · unfold sh_z; rw [if_pos (by omega), if_neg (by omega)]
          · unfold sh_s
            rw [if_pos (by omega), if_neg (by omega)]
            refine rf_sh hI k.toNat f n (fun a ha => by rw [tm_rowo_f (by omega), tm_uf (by omega), tm_uf (by omega), tm_uf (by omega)]) (fun a b h1 h2 h3 => by rw [tm_rowo_k (by omega), tm_uj h3, tm_uj h3, tm_uj h3]) (fun b j h1 h2 => by rw [tm_rowo_out (by omega), tm_uk (by decide), tm_uk (by decide), tm_uk (by decide)]) ?_ ?_ ?_ (fun j hj => tm_rowo_in hj)
            · rw [tm_rowo_k (by decide), tm_uk (by decide), tm_uk (by decide), tm_us]
            · rw [tm_rowo_k (by decide), tm_uk (by decide), tm_us]
            · rw [tm_rowo_k (by decide), tm_us]
          · intro a ha; rw [tm_rowo_f (by omega), tm_uf (by omega), tm_uf (by omega), tm_uf (by omega)]
        · skip
          refine tv_aload_n (pc := 29) 0 C dX8_sheet_29 rfl rfl ?_
          refine tv_iconst (pc := 30) C dX8_sheet_30 ?_
          refine tv_callV (pc := 31) [tm_i 5] [] C (c8_meets E _ μ 5) cv_X8_155 rfl rfl (by decide) rfl (Nat.le_of_ble_eq_true rfl) rfl dX8_sheet_31 (tm_ki ?_)
          rintro _ _ ⟨rfl, rfl⟩
          refine tv_iret (pc := 34) C dX8_sheet_34 ?_
          refine ⟨_, rfl, by unfold sh_z; rw [if_pos (by omega), if_pos (by omega)]; rfl, ?_, fun a ha => by rw [tm_uf (by omega)]⟩
          unfold sh_s
          rw [if_pos (by omega), if_pos (by omega)]
          exact rf_fd hI 5
      · skip
        refine tv_bipush (pc := 22) C dX8_sheet_22 (by decide) ?_
        refine tv_iret (pc := 24) C dX8_sheet_24 ?_
        exact ⟨_, rfl, by unfold sh_z; rw [if_neg (by omega)], by unfold sh_s; rw [if_neg (by omega)]; exact hI, fun a _ => rfl⟩
theorem k8_lose (E : tm_Ev) (l : Launch) (μ : tm_M) (d s : tm_M) (hd : dd_ok d) (hs : ss_ok s) (hI : rf_I μ d s) (k : Int) (hk : -2147483648 ≤ k ∧ k ≤ 2147483647) : tm_Met E l yX8_lose cX8_lose 2 (some .int) 2 [.ref (E.2.1 74), tm_i k] μ (tm_pi (fun z μ' => z = lo_z s k ∧ rf_I μ' d (lo_s s k) ∧ ∀ a, a < 74 → μ' a = μ a)) := by
  refine tm_intro [(0, .ref (E.2.1 74)), (1, tm_i k)] rfl (by decide +kernel) (Nat.le_of_ble_eq_true rfl) ?_
  intro X hX C
  subst hX
  refine tv_iload_n (pc := 0) 1 C dX8_lose_0 rfl rfl ?_
  refine tv_callS (pc := 1) [tm_i k] [] C (c8_isSheet E _ μ k (by omega)) cs_X8_152 (by decide) rfl (Nat.le_of_ble_eq_true rfl) rfl dX8_lose_1 (tm_kp ?_)
  refine tv_ifneB (pc := 4) 10 C dX8_lose_4 (by decide) (fun h4 => ?_) (fun h4 => ?_)
  · skip
    have hfk : (s 3 k.toNat = 0 ∧ μ 97 k.toNat = 0) ∨ (s 3 k.toNat = 1 ∧ μ 97 k.toNat = 1 ∧ (0 ≤ s 4 k.toNat ∧ s 4 k.toNat ≤ 2) ∧ (0 ≤ s 5 k.toNat ∧ s 5 k.toNat ≤ 60) ∧ μ 98 k.toNat = s 4 k.toNat ∧ μ 99 k.toNat = s 5 k.toNat) := by
      have q := hI.2.2.2.2 k.toNat (by omega)
      have q0 := hs.2.2.2 k.toNat (by omega)
      rcases q0.1 with q3 | q3
      · exact Or.inl ⟨q3, by rw [q.1, q3]⟩
      · exact Or.inr ⟨q3, by rw [q.1, q3], (q0.2 q3).1, (q0.2 q3).2.1, (q.2 q3).1, (q.2 q3).2.1⟩
    refine tv_aload_n (pc := 10) 0 C dX8_lose_10 rfl rfl ?_
    refine tv_getr (pc := 11) (q := 97) C rfl rfl fl_X8_76 dX8_lose_11 ?_
    refine tv_iload_n (pc := 14) 1 C dX8_lose_14 rfl rfl ?_
    refine tv_zald (pc := 15) (j := k.toNat) (z := μ 97 k.toNat) C rfl dX8_lose_15 (by omega) (by omega) rfl ?_
    refine tv_if_ne (pc := 16) 25 C dX8_lose_16 (by decide) (by omega) (fun h16 => ?_) (fun h16 => ?_)
    · skip
      refine tv_aload_n (pc := 25) 0 C dX8_lose_25 rfl rfl ?_
      refine tv_getr (pc := 26) (q := 97) C rfl rfl fl_X8_76 dX8_lose_26 ?_
      refine tv_iload_n (pc := 29) 1 C dX8_lose_29 rfl rfl ?_
      refine tv_iconst (pc := 30) C dX8_lose_30 ?_
      refine tv_zast (pc := 31) (j := k.toNat) C rfl dX8_lose_31 (by omega) (by omega) (by omega) ?_
      refine tv_aload_n (pc := 32) 0 C dX8_lose_32 rfl rfl ?_
      refine tv_getr (pc := 33) (q := 99) C rfl rfl fl_X8_83 dX8_lose_33 ?_
      refine tv_iload_n (pc := 36) 1 C dX8_lose_36 rfl rfl ?_
      refine tv_iald (pc := 37) (j := k.toNat) (z := μ 99 k.toNat) C rfl dX8_lose_37 (by omega) (by omega) ((tm_uk (by decide)).trans (rfl)) ?_
      refine tv_iret (pc := 38) C dX8_lose_38 ?_
      refine ⟨_, rfl, by unfold lo_z; rw [if_pos (by omega), if_neg (by omega)]; omega, ?_, fun a ha => by rw [tm_uf (by omega)]⟩
      unfold lo_s
      rw [if_pos (by omega), if_neg (by omega)]
      exact rf_lo hI _
    · skip
      refine tv_aload_n (pc := 19) 0 C dX8_lose_19 rfl rfl ?_
      refine tv_iconst (pc := 20) C dX8_lose_20 ?_
      refine tv_callV (pc := 21) [tm_i 1] [] C (c8_meets E _ μ 1) cv_X8_155 rfl rfl (by decide) rfl (Nat.le_of_ble_eq_true rfl) rfl dX8_lose_21 (tm_ki ?_)
      rintro _ _ ⟨rfl, rfl⟩
      refine tv_iret (pc := 24) C dX8_lose_24 ?_
      refine ⟨_, rfl, by unfold lo_z; rw [if_pos (by omega), if_pos (by omega)]; rfl, ?_, fun a ha => by rw [tm_uf (by omega)]⟩
      unfold lo_s
      rw [if_pos (by omega), if_pos (by omega)]
      exact rf_fd hI 1
  · skip
    refine tv_bipush (pc := 7) C dX8_lose_7 (by decide) ?_
    refine tv_iret (pc := 9) C dX8_lose_9 ?_
    exact ⟨_, rfl, by unfold lo_z; rw [if_neg (by omega)], by unfold lo_s; rw [if_neg (by omega)]; exact hI, fun a _ => rfl⟩
theorem c8_lacks (E : tm_Ev) (l : Launch) (μ : tm_M) (d s : tm_M) (hs : ss_ok s) (hI : rf_I μ d s) (k f x : Int) (hk : 0 ≤ k ∧ k ≤ 3) (hf : -2147483648 ≤ f ∧ f ≤ 2147483647) (hx : -2147483648 ≤ x ∧ x ≤ 2147483647) : tm_Met E l yX8_lacks cX8_lacks 4 (some .int) 1 [.ref (E.2.1 74), tm_i k, tm_i f, tm_i x] μ (tm_pi (fun z μ' => z = lk_z s k.toNat f x ∧ μ' = μ)) := by
  refine tm_intro [(0, .ref (E.2.1 74)), (1, tm_i k), (2, tm_i f), (3, tm_i x)] rfl (by decide +kernel) (Nat.le_of_ble_eq_true rfl) ?_
  intro X hX C
  subst hX
  have hfk : (s 3 k.toNat = 0 ∧ μ 97 k.toNat = 0) ∨ (s 3 k.toNat = 1 ∧ μ 97 k.toNat = 1 ∧ (0 ≤ s 4 k.toNat ∧ s 4 k.toNat ≤ 2) ∧ (0 ≤ s 5 k.toNat ∧ s 5 k.toNat ≤ 60) ∧ μ 98 k.toNat = s 4 k.toNat ∧ μ 99 k.toNat = s 5 k.toNat) := by
    have q := hI.2.2.2.2 k.toNat (by omega)
    have q0 := hs.2.2.2 k.toNat (by omega)
    rcases q0.1 with q3 | q3
    · exact Or.inl ⟨q3, by rw [q.1, q3]⟩
    · exact Or.inr ⟨q3, by rw [q.1, q3], (q0.2 q3).1, (q0.2 q3).2.1, (q.2 q3).1, (q.2 q3).2.1⟩
  refine tv_aload_n (pc := 0) 0 C dX8_lacks_0 rfl rfl ?_
  refine tv_getr (pc := 1) (q := 97) C rfl rfl fl_X8_76 dX8_lacks_1 ?_
  refine tv_iload_n (pc := 4) 1 C dX8_lacks_4 rfl rfl ?_
  refine tv_zald (pc := 5) (j := k.toNat) (z := μ 97 k.toNat) C rfl dX8_lacks_5 (by omega) (by omega) rfl ?_
  refine tv_if_ne (pc := 6) 13 C dX8_lacks_6 (by decide) (by omega) (fun h6 => ?_) (fun h6 => ?_)
  · skip
    refine tv_aload_n (pc := 13) 0 C dX8_lacks_13 rfl rfl ?_
    refine tv_getr (pc := 14) (q := 98) C rfl rfl fl_X8_80 dX8_lacks_14 ?_
    refine tv_iload_n (pc := 17) 1 C dX8_lacks_17 rfl rfl ?_
    refine tv_iald (pc := 18) (j := k.toNat) (z := μ 98 k.toNat) C rfl dX8_lacks_18 (by omega) (by omega) rfl ?_
    refine tv_iload_n (pc := 19) 2 C dX8_lacks_19 rfl rfl ?_
    refine tv_icmp_eq (pc := 20) 27 C dX8_lacks_20 (by decide) (by omega) (by omega) (fun h20 => ?_) (fun h20 => ?_)
    · skip
      refine tv_iload_n (pc := 27) 3 C dX8_lacks_27 rfl rfl ?_
      refine tv_iconst (pc := 28) C dX8_lacks_28 ?_
      refine tv_aload_n (pc := 29) 0 C dX8_lacks_29 rfl rfl ?_
      refine tv_getr (pc := 30) (q := 99) C rfl rfl fl_X8_83 dX8_lacks_30 ?_
      refine tv_iload_n (pc := 33) 1 C dX8_lacks_33 rfl rfl ?_
      refine tv_iald (pc := 34) (j := k.toNat) (z := μ 99 k.toNat) C rfl dX8_lacks_34 (by omega) (by omega) rfl ?_
      refine tv_iconst (pc := 35) C dX8_lacks_35 ?_
      refine tv_isub (pc := 36) C dX8_lacks_36 ?_
      refine tv_callS (pc := 37) [tm_i x, tm_i 0, tm_i ((μ 99 k.toNat) - 1)] [] C (c8_in E _ μ x 0 ((μ 99 k.toNat) - 1) (by omega) (by omega) (by omega)) cs_X8_94 (by decide) rfl (Nat.le_of_ble_eq_true rfl) rfl dX8_lacks_37 (tm_kp ?_)
      refine tv_ifeqB (pc := 40) 47 C dX8_lacks_40 (by decide) (fun h40 => ?_) (fun h40 => ?_)
      · skip
        refine tv_iconst (pc := 47) C dX8_lacks_47 ?_
        refine tv_iret (pc := 48) C dX8_lacks_48 ?_
        exact ⟨_, rfl, by unfold lk_z; rw [if_neg (by omega), if_pos (by omega), if_neg (by omega)], rfl⟩
      · skip
        refine tv_iconst (pc := 43) C dX8_lacks_43 ?_
        refine tv_goto (pc := 44) 48 C dX8_lacks_44 (by decide) ?_
        refine tv_iret (pc := 48) C dX8_lacks_48 ?_
        exact ⟨_, rfl, by unfold lk_z; rw [if_neg (by omega), if_pos (by omega), if_pos (by omega)], rfl⟩
    · skip
      refine tv_iconst (pc := 23) C dX8_lacks_23 ?_
      refine tv_goto (pc := 24) 48 C dX8_lacks_24 (by decide) ?_
      refine tv_iret (pc := 48) C dX8_lacks_48 ?_
      exact ⟨_, rfl, by unfold lk_z; rw [if_neg (by omega), if_neg (by omega)], rfl⟩
  · skip
    refine tv_iconst (pc := 9) C dX8_lacks_9 ?_
    refine tv_goto (pc := 10) 48 C dX8_lacks_10 (by decide) ?_
    refine tv_iret (pc := 48) C dX8_lacks_48 ?_
    exact ⟨_, rfl, by unfold lk_z; rw [if_pos (by omega)], rfl⟩
theorem c8_keep (E : tm_Ev) (l : Launch) (μ : tm_M) (f : Int) (k x v : Int) (hk : 0 ≤ k ∧ k ≤ 3) (hx : 0 ≤ x ∧ x ≤ 59) (hf : μ 98 k.toNat = f) (hfr : 0 ≤ f ∧ f ≤ 2) : tm_Met E l yX8_keep cX8_keep 4 none 0 [.ref (E.2.1 74), tm_i k, tm_i x, tm_i v] μ (tm_pv (fun μ' => μ' = tm_up μ 100 (60 * k.toNat + x.toNat) (st_v f v))) := by
  refine tm_intro [(0, .ref (E.2.1 74)), (1, tm_i k), (2, tm_i x), (3, tm_i v)] rfl (by decide +kernel) (Nat.le_of_ble_eq_true rfl) ?_
  intro X hX C
  subst hX
  refine tv_aload_n (pc := 0) 0 C dX8_keep_0 rfl rfl ?_
  refine tv_getr (pc := 1) (q := 100) C rfl rfl fl_X8_86 dX8_keep_1 ?_
  refine tv_bipush (pc := 4) C dX8_keep_4 (by decide) ?_
  refine tv_iload_n (pc := 6) 1 C dX8_keep_6 rfl rfl ?_
  refine tv_imul (pc := 7) C dX8_keep_7 ?_
  refine tv_iload_n (pc := 8) 2 C dX8_keep_8 rfl rfl ?_
  refine tv_iadd (pc := 9) C dX8_keep_9 ?_
  refine tv_aload_n (pc := 10) 0 C dX8_keep_10 rfl rfl ?_
  refine tv_getr (pc := 11) (q := 98) C rfl rfl fl_X8_80 dX8_keep_11 ?_
  refine tv_iload_n (pc := 14) 1 C dX8_keep_14 rfl rfl ?_
  refine tv_iald (pc := 15) (j := k.toNat) (z := f) C rfl dX8_keep_15 (by omega) (by omega) hf ?_
  refine tv_if_ne (pc := 16) 24 C dX8_keep_16 (by decide) (by omega) (fun h16 => ?_) (fun h16 => ?_)
  · skip
    refine tv_aload_n (pc := 24) 0 C dX8_keep_24 rfl rfl ?_
    refine tv_getr (pc := 25) (q := 98) C rfl rfl fl_X8_80 dX8_keep_25 ?_
    refine tv_iload_n (pc := 28) 1 C dX8_keep_28 rfl rfl ?_
    refine tv_iald (pc := 29) (j := k.toNat) (z := f) C rfl dX8_keep_29 (by omega) (by omega) hf ?_
    refine tv_iconst (pc := 30) C dX8_keep_30 ?_
    refine tv_icmp_ne (pc := 31) 39 C dX8_keep_31 (by decide) (by omega) (by omega) (fun h31 => ?_) (fun h31 => ?_)
    · skip
      refine tv_iload_n (pc := 39) 3 C dX8_keep_39 rfl rfl ?_
      refine tv_iast (pc := 40) (j := (60 * k.toNat + x.toNat)) C rfl dX8_keep_40 (by omega) (by omega) ?_
      refine tv_vret (pc := 41) C dX8_keep_41 ?_
      exact ⟨rfl, by unfold st_v; rw [if_neg (by omega), if_neg (by omega)]⟩
    · skip
      refine tv_iload_n (pc := 34) 3 C dX8_keep_34 rfl rfl ?_
      refine tv_i2s (pc := 35) (z := (Int32.ofInt v).toInt16.toInt32.toInt) C dX8_keep_35 (Int32.ofInt_toInt _).symm ?_
      refine tv_goto (pc := 36) 40 C dX8_keep_36 (by decide) ?_
      refine tv_iast (pc := 40) (j := (60 * k.toNat + x.toNat)) C rfl dX8_keep_40 (by omega) (by omega) ?_
      refine tv_vret (pc := 41) C dX8_keep_41 ?_
      exact ⟨rfl, by unfold st_v; rw [if_neg (by omega), if_pos (by omega)]⟩
  · skip
    refine tv_iload_n (pc := 19) 3 C dX8_keep_19 rfl rfl ?_
    refine tv_i2b (pc := 20) (z := (Int32.ofInt v).toInt8.toInt32.toInt) C dX8_keep_20 (Int32.ofInt_toInt _).symm ?_
    refine tv_goto (pc := 21) 40 C dX8_keep_21 (by decide) ?_
    refine tv_iast (pc := 40) (j := (60 * k.toNat + x.toNat)) C rfl dX8_keep_40 (by omega) (by omega) ?_
    refine tv_vret (pc := 41) C dX8_keep_41 ?_
    exact ⟨rfl, by unfold st_v; rw [if_pos (by omega)]⟩
theorem k8_put (E : tm_Ev) (l : Launch) (μ : tm_M) (d s : tm_M) (hd : dd_ok d) (hs : ss_ok s) (hI : rf_I μ d s) (k f x v : Int) (hk : -2147483648 ≤ k ∧ k ≤ 2147483647) (hf : -2147483648 ≤ f ∧ f ≤ 2147483647) (hx : -2147483648 ≤ x ∧ x ≤ 2147483647) (hv : -2147483648 ≤ v ∧ v ≤ 2147483647) : tm_Met E l yX8_put cX8_put 6 (some .int) 2 [.ref (E.2.1 74), tm_i k, tm_i f, tm_i x, tm_i v] μ (tm_pi (fun z μ' => z = pu_z s k f x ∧ rf_I μ' d (pu_s s k f x v) ∧ ∀ a, a < 74 → μ' a = μ a)) := by
  refine tm_intro [(0, .ref (E.2.1 74)), (1, tm_i k), (2, tm_i f), (3, tm_i x), (4, tm_i v)] rfl (by decide +kernel) (Nat.le_of_ble_eq_true rfl) ?_
  intro X hX C
  subst hX
  refine tv_iload_n (pc := 0) 1 C dX8_put_0 rfl rfl ?_
  refine tv_callS (pc := 1) [tm_i k] [] C (c8_isSheet E _ μ k (by omega)) cs_X8_152 (by decide) rfl (Nat.le_of_ble_eq_true rfl) rfl dX8_put_1 (tm_kp ?_)
  refine tv_ifeqB (pc := 4) 16 C dX8_put_4 (by decide) (fun h4 => ?_) (fun h4 => ?_)
  · skip
    refine tv_bipush (pc := 16) C dX8_put_16 (by decide) ?_
    refine tv_iret (pc := 18) C dX8_put_18 ?_
    exact ⟨_, rfl, by unfold pu_z; rw [if_neg (by omega)], by unfold pu_s; rw [if_neg (by omega)]; exact hI, fun a _ => rfl⟩
  · skip
    refine tv_iload_n (pc := 7) 2 C dX8_put_7 rfl rfl ?_
    refine tv_iconst (pc := 8) C dX8_put_8 ?_
    refine tv_iconst (pc := 9) C dX8_put_9 ?_
    refine tv_callS (pc := 10) [tm_i f, tm_i 0, tm_i 2] [] C (c8_in E _ μ f 0 2 (by omega) (by omega) (by omega)) cs_X8_94 (by decide) rfl (Nat.le_of_ble_eq_true rfl) rfl dX8_put_10 (tm_kp ?_)
    refine tv_ifneB (pc := 13) 19 C dX8_put_13 (by decide) (fun h13 => ?_) (fun h13 => ?_)
    · skip
      have hfk : (s 3 k.toNat = 0 ∧ μ 97 k.toNat = 0) ∨ (s 3 k.toNat = 1 ∧ μ 97 k.toNat = 1 ∧ (0 ≤ s 4 k.toNat ∧ s 4 k.toNat ≤ 2) ∧ (0 ≤ s 5 k.toNat ∧ s 5 k.toNat ≤ 60) ∧ μ 98 k.toNat = s 4 k.toNat ∧ μ 99 k.toNat = s 5 k.toNat) := by
        have q := hI.2.2.2.2 k.toNat (by omega)
        have q0 := hs.2.2.2 k.toNat (by omega)
        rcases q0.1 with q3 | q3
        · exact Or.inl ⟨q3, by rw [q.1, q3]⟩
        · exact Or.inr ⟨q3, by rw [q.1, q3], (q0.2 q3).1, (q0.2 q3).2.1, (q.2 q3).1, (q.2 q3).2.1⟩
      refine tv_aload_n (pc := 19) 0 C dX8_put_19 rfl rfl ?_
      refine tv_iload_n (pc := 20) 1 C dX8_put_20 rfl rfl ?_
      refine tv_iload_n (pc := 21) 2 C dX8_put_21 rfl rfl ?_
      refine tv_iload_n (pc := 22) 3 C dX8_put_22 rfl rfl ?_
      refine tv_callV (pc := 23) [tm_i k, tm_i f, tm_i x] [] C (c8_lacks E _ μ d s hs hI k f x (by omega) (by omega) (by omega)) cv_X8_303 rfl rfl (by decide) rfl (Nat.le_of_ble_eq_true rfl) rfl dX8_put_23 (tm_ki ?_)
      rintro zl n1 ⟨ezl, hn1⟩
      have hn1 := hn1.symm
      subst hn1
      subst ezl
      have hlr : 0 ≤ lk_z s k.toNat f x ∧ lk_z s k.toNat f x ≤ 3 := by
        unfold lk_z
        split
        · omega
        · split
          · split <;> omega
          · omega
      have hl0 : lk_z s k.toNat f x = 0 → ¬ s 3 k.toNat = 0 ∧ s 4 k.toNat = f ∧ 0 ≤ x ∧ x < s 5 k.toNat := by
        unfold lk_z
        intro q
        split at q
        · omega
        · split at q
          · split at q <;> omega
          · omega
      refine tv_istore (pc := 26) [(5, tm_i (lk_z s k.toNat f x)), (0, .ref (E.2.1 74)), (1, tm_i k), (2, tm_i f), (3, tm_i x), (4, tm_i v)] C dX8_put_26 (by decide) rfl ?_
      refine tv_iload (pc := 28) 0 C dX8_put_28 rfl ?_
      refine tv_if_le (pc := 30) 40 C dX8_put_30 (by decide) (by omega) (fun h30 => ?_) (fun h30 => ?_)
      · skip
        have hl1 := hl0 (by omega)
        refine tv_aload_n (pc := 40) 1 C dX8_put_40 rfl rfl ?_
        refine tv_iload_n (pc := 41) 2 C dX8_put_41 rfl rfl ?_
        refine tv_iload_n (pc := 42) 4 C dX8_put_42 rfl rfl ?_
        refine tv_iload (pc := 43) 5 C dX8_put_43 rfl ?_
        refine tv_callV (pc := 45) [tm_i k, tm_i x, tm_i v] [] C (c8_keep E _ μ (s 4 k.toNat) k x v (by omega) (by omega) (by omega) (by omega)) cv_X8_306 rfl rfl (by decide) rfl (Nat.le_of_ble_eq_true rfl) rfl dX8_put_45 (tm_kv ?_)
        rintro _ rfl
        refine tv_iconst (pc := 48) C dX8_put_48 ?_
        refine tv_iret (pc := 49) C dX8_put_49 ?_
        refine ⟨_, rfl, by unfold pu_z; rw [if_pos (by omega), if_pos (by omega)], ?_, fun a ha => by rw [tm_uf (by omega)]⟩
        unfold pu_s
        rw [if_pos (by omega), if_pos (by omega)]
        refine rf_it hI k.toNat (by omega) (fun a ha _ => tm_uf ha) (fun b j h1 h2 => tm_uj (by omega)) (fun a ha => tm_uf ha) (fun q j hj => ?_)
        by_cases hc : j = x.toNat
        · subst hc; rw [tm_us, tm_us]
        · rw [tm_uj (by omega), tm_uj hc]; exact ((hI.2.2.2.2 k.toNat (by omega)).2 q).2.2 j hj
      · skip
        refine tv_aload_n (pc := 33) 1 C dX8_put_33 rfl rfl ?_
        refine tv_iload (pc := 34) 0 C dX8_put_34 rfl ?_
        refine tv_callV (pc := 36) [tm_i (lk_z s k.toNat f x)] [] C (c8_meets E _ μ (lk_z s k.toNat f x)) cv_X8_155 rfl rfl (by decide) rfl (Nat.le_of_ble_eq_true rfl) rfl dX8_put_36 (tm_ki ?_)
        rintro _ _ ⟨rfl, rfl⟩
        refine tv_iret (pc := 39) C dX8_put_39 ?_
        refine ⟨_, rfl, by unfold pu_z; rw [if_pos (by omega), if_neg (by omega)], ?_, fun a ha => by rw [tm_uf (by omega)]⟩
        unfold pu_s
        rw [if_pos (by omega), if_neg (by omega)]
        exact rf_fd hI _
    · skip
      refine tv_bipush (pc := 16) C dX8_put_16 (by decide) ?_
      refine tv_iret (pc := 18) C dX8_put_18 ?_
      exact ⟨_, rfl, by unfold pu_z; rw [if_neg (by omega)], by unfold pu_s; rw [if_neg (by omega)]; exact hI, fun a _ => rfl⟩
theorem k8_get (E : tm_Ev) (l : Launch) (μ : tm_M) (d s : tm_M) (hd : dd_ok d) (hs : ss_ok s) (hI : rf_I μ d s) (k f x : Int) (hk : -2147483648 ≤ k ∧ k ≤ 2147483647) (hf : -2147483648 ≤ f ∧ f ≤ 2147483647) (hx : -2147483648 ≤ x ∧ x ≤ 2147483647) : tm_Met E l yX8_get cX8_get 5 (some .int) 2 [.ref (E.2.1 74), tm_i k, tm_i f, tm_i x] μ (tm_pi (fun z μ' => z = ge_z s k f x ∧ rf_I μ' d (ge_s s k f x) ∧ ∀ a, a < 74 → μ' a = μ a)) := by
  refine tm_intro [(0, .ref (E.2.1 74)), (1, tm_i k), (2, tm_i f), (3, tm_i x)] rfl (by decide +kernel) (Nat.le_of_ble_eq_true rfl) ?_
  intro X hX C
  subst hX
  refine tv_iload_n (pc := 0) 1 C dX8_get_0 rfl rfl ?_
  refine tv_callS (pc := 1) [tm_i k] [] C (c8_isSheet E _ μ k (by omega)) cs_X8_152 (by decide) rfl (Nat.le_of_ble_eq_true rfl) rfl dX8_get_1 (tm_kp ?_)
  refine tv_ifeqB (pc := 4) 16 C dX8_get_4 (by decide) (fun h4 => ?_) (fun h4 => ?_)
  · skip
    refine tv_ldcw (pc := 16) (z := (-2147483648)) C kc_X8_310 dX8_get_16 (by decide) ?_
    refine tv_iret (pc := 19) C dX8_get_19 ?_
    exact ⟨_, rfl, by unfold ge_z; rw [if_neg (by omega)], by unfold ge_s; rw [if_neg (by omega)]; exact hI, fun a _ => rfl⟩
  · skip
    refine tv_iload_n (pc := 7) 2 C dX8_get_7 rfl rfl ?_
    refine tv_iconst (pc := 8) C dX8_get_8 ?_
    refine tv_iconst (pc := 9) C dX8_get_9 ?_
    refine tv_callS (pc := 10) [tm_i f, tm_i 0, tm_i 2] [] C (c8_in E _ μ f 0 2 (by omega) (by omega) (by omega)) cs_X8_94 (by decide) rfl (Nat.le_of_ble_eq_true rfl) rfl dX8_get_10 (tm_kp ?_)
    refine tv_ifneB (pc := 13) 20 C dX8_get_13 (by decide) (fun h13 => ?_) (fun h13 => ?_)
    · skip
      have hfk : (s 3 k.toNat = 0 ∧ μ 97 k.toNat = 0) ∨ (s 3 k.toNat = 1 ∧ μ 97 k.toNat = 1 ∧ (0 ≤ s 4 k.toNat ∧ s 4 k.toNat ≤ 2) ∧ (0 ≤ s 5 k.toNat ∧ s 5 k.toNat ≤ 60) ∧ μ 98 k.toNat = s 4 k.toNat ∧ μ 99 k.toNat = s 5 k.toNat) := by
        have q := hI.2.2.2.2 k.toNat (by omega)
        have q0 := hs.2.2.2 k.toNat (by omega)
        rcases q0.1 with q3 | q3
        · exact Or.inl ⟨q3, by rw [q.1, q3]⟩
        · exact Or.inr ⟨q3, by rw [q.1, q3], (q0.2 q3).1, (q0.2 q3).2.1, (q.2 q3).1, (q.2 q3).2.1⟩
      refine tv_aload_n (pc := 20) 0 C dX8_get_20 rfl rfl ?_
      refine tv_iload_n (pc := 21) 1 C dX8_get_21 rfl rfl ?_
      refine tv_iload_n (pc := 22) 2 C dX8_get_22 rfl rfl ?_
      refine tv_iload_n (pc := 23) 3 C dX8_get_23 rfl rfl ?_
      refine tv_callV (pc := 24) [tm_i k, tm_i f, tm_i x] [] C (c8_lacks E _ μ d s hs hI k f x (by omega) (by omega) (by omega)) cv_X8_303 rfl rfl (by decide) rfl (Nat.le_of_ble_eq_true rfl) rfl dX8_get_24 (tm_ki ?_)
      rintro zl n1 ⟨ezl, hn1⟩
      have hn1 := hn1.symm
      subst hn1
      subst ezl
      have hlr : 0 ≤ lk_z s k.toNat f x ∧ lk_z s k.toNat f x ≤ 3 := by
        unfold lk_z
        split
        · omega
        · split
          · split <;> omega
          · omega
      have hl0 : lk_z s k.toNat f x = 0 → ¬ s 3 k.toNat = 0 ∧ s 4 k.toNat = f ∧ 0 ≤ x ∧ x < s 5 k.toNat := by
        unfold lk_z
        intro q
        split at q
        · omega
        · split at q
          · split at q <;> omega
          · omega
      refine tv_istore (pc := 27) [(4, tm_i (lk_z s k.toNat f x)), (0, .ref (E.2.1 74)), (1, tm_i k), (2, tm_i f), (3, tm_i x)] C dX8_get_27 (by decide) rfl ?_
      refine tv_iload (pc := 29) 0 C dX8_get_29 rfl ?_
      refine tv_if_le (pc := 31) 44 C dX8_get_31 (by decide) (by omega) (fun h31 => ?_) (fun h31 => ?_)
      · skip
        have hl1 := hl0 (by omega)
        refine tv_aload_n (pc := 44) 1 C dX8_get_44 rfl rfl ?_
        refine tv_getr (pc := 45) (q := 100) C rfl rfl fl_X8_86 dX8_get_45 ?_
        refine tv_bipush (pc := 48) C dX8_get_48 (by decide) ?_
        refine tv_iload_n (pc := 50) 2 C dX8_get_50 rfl rfl ?_
        refine tv_imul (pc := 51) C dX8_get_51 ?_
        refine tv_iload_n (pc := 52) 4 C dX8_get_52 rfl rfl ?_
        refine tv_iadd (pc := 53) C dX8_get_53 ?_
        refine tv_iald (pc := 54) (j := (60 * k.toNat + x.toNat)) (z := μ 100 (60 * k.toNat + x.toNat)) C rfl dX8_get_54 (by omega) (by omega) rfl ?_
        refine tv_iret (pc := 55) C dX8_get_55 ?_
        exact ⟨_, rfl, by unfold ge_z; rw [if_pos (by omega)]; exact ((hI.2.2.2.2 k.toNat (by omega)).2 (by omega)).2.2 x.toNat (by omega), by unfold ge_s; rw [if_neg (by omega)]; exact hI, fun a _ => rfl⟩
      · skip
        refine tv_aload_n (pc := 34) 1 C dX8_get_34 rfl rfl ?_
        refine tv_iload (pc := 35) 0 C dX8_get_35 rfl ?_
        refine tv_puti (pc := 37) C rfl rfl fp_X8_300 dX8_get_37 ?_
        refine tv_ldcw (pc := 40) (z := (-2147483648)) C kc_X8_310 dX8_get_40 (by decide) ?_
        refine tv_iret (pc := 43) C dX8_get_43 ?_
        refine ⟨_, rfl, by unfold ge_z; rw [if_neg (by omega)], ?_, fun a ha => by rw [tm_uf (by omega)]⟩
        unfold ge_s
        rw [if_pos (by omega)]
        exact rf_fd hI _
    · skip
      refine tv_ldcw (pc := 16) (z := (-2147483648)) C kc_X8_310 dX8_get_16 (by decide) ?_
      refine tv_iret (pc := 19) C dX8_get_19 ?_
      exact ⟨_, rfl, by unfold ge_z; rw [if_neg (by omega)], by unfold ge_s; rw [if_neg (by omega)]; exact hI, fun a _ => rfl⟩
theorem l_copy1 {E : tm_Ev} {X : tm_X} (C : tm_C E X yX8_copy.cls cX8_copy 7 (some .int) 2) (μ : tm_M) (k x t y n : Int) (hk : 0 ≤ k ∧ k ≤ 3) (ht : 0 ≤ t ∧ t ≤ 3) (hx0 : 0 ≤ x ∧ 0 ≤ y ∧ 0 ≤ n ∧ x + n ≤ 60 ∧ y + n ≤ 60) (Q : State → Prop) (hk9 : tm_V E X Q 7 154 [(0, .ref (E.2.1 74)), (1, tm_i k), (2, tm_i x), (3, tm_i t), (4, tm_i y), (5, tm_i n)] [] (tm_rowf μ 101 n.toNat (fun b => μ 100 (60 * k.toNat + x.toNat + b)))) : ∀ (f h : Nat) (z : Int), z = h → (h : Int) ≤ n → n.toNat - h < f → tm_V E X Q 7 120 [(6, tm_i z), (0, .ref (E.2.1 74)), (1, tm_i k), (2, tm_i x), (3, tm_i t), (4, tm_i y), (5, tm_i n)] [] (tm_rowf μ 101 h (fun b => μ 100 (60 * k.toNat + x.toNat + b))) := by
  intro f
  induction f with
  | zero => intro h z hx hj hf; omega
  | succ f ih =>
    intro h z hx hj hf
    refine tv_iload (pc := 120) 0 C dX8_copy_120 rfl ?_
    refine tv_iload (pc := 122) 6 C dX8_copy_122 rfl ?_
    refine tv_icmp_ge (pc := 124) 154 C dX8_copy_124 (by decide) (by omega) (by omega) (fun h124 => ?_) (fun h124 => ?_)
    · skip
      refine tv_sub (lv1 := [(0, .ref (E.2.1 74)), (1, tm_i k), (2, tm_i x), (3, tm_i t), (4, tm_i y), (5, tm_i n)]) [1, 2, 3, 4, 5, 6] rfl ?_
      have hin : h = n.toNat := by omega
      subst hin
      exact hk9
    · skip
      refine tv_aload_n (pc := 127) 1 C dX8_copy_127 rfl rfl ?_
      refine tv_getr (pc := 128) (q := 101) C rfl rfl fl_X8_89 dX8_copy_128 ?_
      refine tv_iload (pc := 131) 0 C dX8_copy_131 rfl ?_
      refine tv_aload_n (pc := 133) 1 C dX8_copy_133 rfl rfl ?_
      refine tv_getr (pc := 134) (q := 100) C rfl rfl fl_X8_86 dX8_copy_134 ?_
      refine tv_bipush (pc := 137) C dX8_copy_137 (by decide) ?_
      refine tv_iload_n (pc := 139) 2 C dX8_copy_139 rfl rfl ?_
      refine tv_imul (pc := 140) C dX8_copy_140 ?_
      refine tv_iload_n (pc := 141) 3 C dX8_copy_141 rfl rfl ?_
      refine tv_iadd (pc := 142) C dX8_copy_142 ?_
      refine tv_iload (pc := 143) 0 C dX8_copy_143 rfl ?_
      refine tv_iadd (pc := 145) C dX8_copy_145 ?_
      refine tv_iald (pc := 146) (j := (60 * k.toNat + x.toNat + h)) (z := μ 100 (60 * k.toNat + x.toNat + h)) C rfl dX8_copy_146 (by omega) (by omega) (tm_rowf_k (by omega)) ?_
      refine tv_iast (pc := 147) (j := h) C rfl dX8_copy_147 (by omega) (by omega) ?_
      refine tv_iinc (pc := 148) 0 [(6, tm_i (z + 1)), (0, .ref (E.2.1 74)), (1, tm_i k), (2, tm_i x), (3, tm_i t), (4, tm_i y), (5, tm_i n)] C dX8_copy_148 rfl (by decide) rfl ?_
      refine tv_goto (pc := 151) 120 C dX8_copy_151 (by decide) ?_
      refine tv_sub (lv1 := [(6, tm_i (z + 1)), (0, .ref (E.2.1 74)), (1, tm_i k), (2, tm_i x), (3, tm_i t), (4, tm_i y), (5, tm_i n)]) [0, 1, 2, 3, 4, 5, 6] rfl ?_
      rw [tm_rowf_s rfl]
      exact ih (h + 1) (z + 1) (by omega) (by omega) (by omega)
theorem l_copy2 {E : tm_Ev} {X : tm_X} (C : tm_C E X yX8_copy.cls cX8_copy 7 (some .int) 2) (M1 : tm_M) (k x t y n : Int) (hk : 0 ≤ k ∧ k ≤ 3) (ht : 0 ≤ t ∧ t ≤ 3) (hx0 : 0 ≤ x ∧ 0 ≤ y ∧ 0 ≤ n ∧ x + n ≤ 60 ∧ y + n ≤ 60) (post : Option Value → tm_M → Prop) (hpost : post (some (tm_i 1)) (tm_rowo M1 100 (60 * t.toNat + y.toNat) n.toNat (M1 101))) : ∀ (f h : Nat) (z : Int), z = h → (h : Int) ≤ n → n.toNat - h < f → tm_V E X (tm_Q E X post) 7 157 [(6, tm_i z), (0, .ref (E.2.1 74)), (1, tm_i k), (2, tm_i x), (3, tm_i t), (4, tm_i y), (5, tm_i n)] [] (tm_rowo M1 100 (60 * t.toNat + y.toNat) h (M1 101)) := by
  intro f
  induction f with
  | zero => intro h z hx hj hf; omega
  | succ f ih =>
    intro h z hx hj hf
    refine tv_iload (pc := 157) 0 C dX8_copy_157 rfl ?_
    refine tv_iload (pc := 159) 6 C dX8_copy_159 rfl ?_
    refine tv_icmp_ge (pc := 161) 192 C dX8_copy_161 (by decide) (by omega) (by omega) (fun h161 => ?_) (fun h161 => ?_)
    · skip
      refine tv_iconst (pc := 192) C dX8_copy_192 ?_
      refine tv_iret (pc := 193) C dX8_copy_193 ?_
      have hin : h = n.toNat := by omega
      subst hin
      exact hpost
    · skip
      refine tv_aload_n (pc := 164) 1 C dX8_copy_164 rfl rfl ?_
      refine tv_getr (pc := 165) (q := 100) C rfl rfl fl_X8_86 dX8_copy_165 ?_
      refine tv_bipush (pc := 168) C dX8_copy_168 (by decide) ?_
      refine tv_iload_n (pc := 170) 4 C dX8_copy_170 rfl rfl ?_
      refine tv_imul (pc := 171) C dX8_copy_171 ?_
      refine tv_iload (pc := 172) 5 C dX8_copy_172 rfl ?_
      refine tv_iadd (pc := 174) C dX8_copy_174 ?_
      refine tv_iload (pc := 175) 0 C dX8_copy_175 rfl ?_
      refine tv_iadd (pc := 177) C dX8_copy_177 ?_
      refine tv_aload_n (pc := 178) 1 C dX8_copy_178 rfl rfl ?_
      refine tv_getr (pc := 179) (q := 101) C rfl rfl fl_X8_89 dX8_copy_179 ?_
      refine tv_iload (pc := 182) 0 C dX8_copy_182 rfl ?_
      refine tv_iald (pc := 184) (j := h) (z := M1 101 h) C rfl dX8_copy_184 (by omega) (by omega) (tm_rowo_k (by omega)) ?_
      refine tv_iast (pc := 185) (j := (60 * t.toNat + y.toNat + h)) C rfl dX8_copy_185 (by omega) (by omega) ?_
      refine tv_iinc (pc := 186) 0 [(6, tm_i (z + 1)), (0, .ref (E.2.1 74)), (1, tm_i k), (2, tm_i x), (3, tm_i t), (4, tm_i y), (5, tm_i n)] C dX8_copy_186 rfl (by decide) rfl ?_
      refine tv_goto (pc := 189) 157 C dX8_copy_189 (by decide) ?_
      refine tv_sub (lv1 := [(6, tm_i (z + 1)), (0, .ref (E.2.1 74)), (1, tm_i k), (2, tm_i x), (3, tm_i t), (4, tm_i y), (5, tm_i n)]) [0, 1, 2, 3, 4, 5, 6] rfl ?_
      rw [tm_rowo_s rfl]
      exact ih (h + 1) (z + 1) (by omega) (by omega) (by omega)
theorem k8_copy (E : tm_Ev) (l : Launch) (μ : tm_M) (d s : tm_M) (hd : dd_ok d) (hs : ss_ok s) (hI : rf_I μ d s) (k x t y n : Int) (hk : -2147483648 ≤ k ∧ k ≤ 2147483647) (hx : -2147483648 ≤ x ∧ x ≤ 2147483647) (ht : -2147483648 ≤ t ∧ t ≤ 2147483647) (hy : -2147483648 ≤ y ∧ y ≤ 2147483647) (hn : -2147483648 ≤ n ∧ n ≤ 2147483647) : tm_Met E l yX8_copy cX8_copy 7 (some .int) 2 [.ref (E.2.1 74), tm_i k, tm_i x, tm_i t, tm_i y, tm_i n] μ (tm_pi (fun z μ' => z = cy_z s k x t y n ∧ rf_I μ' d (cy_s s k x t y n) ∧ ∀ a, a < 74 → μ' a = μ a)) := by
  refine tm_intro [(0, .ref (E.2.1 74)), (1, tm_i k), (2, tm_i x), (3, tm_i t), (4, tm_i y), (5, tm_i n)] rfl (by decide +kernel) (Nat.le_of_ble_eq_true rfl) ?_
  intro X hX C
  subst hX
  refine tv_iload_n (pc := 0) 1 C dX8_copy_0 rfl rfl ?_
  refine tv_callS (pc := 1) [tm_i k] [] C (c8_isSheet E _ μ k (by omega)) cs_X8_152 (by decide) rfl (Nat.le_of_ble_eq_true rfl) rfl dX8_copy_1 (tm_kp ?_)
  refine tv_ifeqB (pc := 4) 14 C dX8_copy_4 (by decide) (fun h4 => ?_) (fun h4 => ?_)
  · skip
    refine tv_bipush (pc := 14) C dX8_copy_14 (by decide) ?_
    refine tv_iret (pc := 16) C dX8_copy_16 ?_
    exact ⟨_, rfl, by unfold cy_z; rw [if_neg (by omega)], by unfold cy_s; rw [if_neg (by omega)]; exact hI, fun a _ => rfl⟩
  · skip
    refine tv_iload_n (pc := 7) 3 C dX8_copy_7 rfl rfl ?_
    refine tv_callS (pc := 8) [tm_i t] [] C (c8_isSheet E _ μ t (by omega)) cs_X8_152 (by decide) rfl (Nat.le_of_ble_eq_true rfl) rfl dX8_copy_8 (tm_kp ?_)
    refine tv_ifneB (pc := 11) 17 C dX8_copy_11 (by decide) (fun h11 => ?_) (fun h11 => ?_)
    · skip
      have hfk : (s 3 k.toNat = 0 ∧ μ 97 k.toNat = 0) ∨ (s 3 k.toNat = 1 ∧ μ 97 k.toNat = 1 ∧ (0 ≤ s 4 k.toNat ∧ s 4 k.toNat ≤ 2) ∧ (0 ≤ s 5 k.toNat ∧ s 5 k.toNat ≤ 60) ∧ μ 98 k.toNat = s 4 k.toNat ∧ μ 99 k.toNat = s 5 k.toNat) := by
        have q := hI.2.2.2.2 k.toNat (by omega)
        have q0 := hs.2.2.2 k.toNat (by omega)
        rcases q0.1 with q3 | q3
        · exact Or.inl ⟨q3, by rw [q.1, q3]⟩
        · exact Or.inr ⟨q3, by rw [q.1, q3], (q0.2 q3).1, (q0.2 q3).2.1, (q.2 q3).1, (q.2 q3).2.1⟩
      have hft : (s 3 t.toNat = 0 ∧ μ 97 t.toNat = 0) ∨ (s 3 t.toNat = 1 ∧ μ 97 t.toNat = 1 ∧ (0 ≤ s 4 t.toNat ∧ s 4 t.toNat ≤ 2) ∧ (0 ≤ s 5 t.toNat ∧ s 5 t.toNat ≤ 60) ∧ μ 98 t.toNat = s 4 t.toNat ∧ μ 99 t.toNat = s 5 t.toNat) := by
        have q := hI.2.2.2.2 t.toNat (by omega)
        have q0 := hs.2.2.2 t.toNat (by omega)
        rcases q0.1 with q3 | q3
        · exact Or.inl ⟨q3, by rw [q.1, q3]⟩
        · exact Or.inr ⟨q3, by rw [q.1, q3], (q0.2 q3).1, (q0.2 q3).2.1, (q.2 q3).1, (q.2 q3).2.1⟩
      have hcy := cy_r s k.toNat t.toNat x y n
      refine tv_aload_n (pc := 17) 0 C dX8_copy_17 rfl rfl ?_
      refine tv_getr (pc := 18) (q := 97) C rfl rfl fl_X8_76 dX8_copy_18 ?_
      refine tv_iload_n (pc := 21) 1 C dX8_copy_21 rfl rfl ?_
      refine tv_zald (pc := 22) (j := k.toNat) (z := μ 97 k.toNat) C rfl dX8_copy_22 (by omega) (by omega) rfl ?_
      refine tv_if_eq (pc := 23) 35 C dX8_copy_23 (by decide) (by omega) (fun h23 => ?_) (fun h23 => ?_)
      · skip
        refine tv_aload_n (pc := 35) 0 C dX8_copy_35 rfl rfl ?_
        refine tv_iconst (pc := 36) C dX8_copy_36 ?_
        refine tv_callV (pc := 37) [tm_i 1] [] C (c8_meets E _ μ 1) cv_X8_155 rfl rfl (by decide) rfl (Nat.le_of_ble_eq_true rfl) rfl dX8_copy_37 (tm_ki ?_)
        rintro _ _ ⟨rfl, rfl⟩
        refine tv_iret (pc := 40) C dX8_copy_40 ?_
        have ecy : cy_l s k.toNat t.toNat x y n = 1 := by omega
        refine ⟨_, rfl, by unfold cy_z; rw [if_pos (by omega), if_neg (by omega), ecy], ?_, fun a ha => by rw [tm_uf (by omega)]⟩
        unfold cy_s
        rw [if_pos (by omega), if_neg (by omega), ecy]
        exact rf_fd hI _
      · skip
        refine tv_aload_n (pc := 26) 0 C dX8_copy_26 rfl rfl ?_
        refine tv_getr (pc := 27) (q := 97) C rfl rfl fl_X8_76 dX8_copy_27 ?_
        refine tv_iload_n (pc := 30) 3 C dX8_copy_30 rfl rfl ?_
        refine tv_zald (pc := 31) (j := t.toNat) (z := μ 97 t.toNat) C rfl dX8_copy_31 (by omega) (by omega) rfl ?_
        refine tv_if_ne (pc := 32) 41 C dX8_copy_32 (by decide) (by omega) (fun h32 => ?_) (fun h32 => ?_)
        · skip
          refine tv_aload_n (pc := 41) 0 C dX8_copy_41 rfl rfl ?_
          refine tv_getr (pc := 42) (q := 98) C rfl rfl fl_X8_80 dX8_copy_42 ?_
          refine tv_iload_n (pc := 45) 1 C dX8_copy_45 rfl rfl ?_
          refine tv_iald (pc := 46) (j := k.toNat) (z := μ 98 k.toNat) C rfl dX8_copy_46 (by omega) (by omega) rfl ?_
          refine tv_aload_n (pc := 47) 0 C dX8_copy_47 rfl rfl ?_
          refine tv_getr (pc := 48) (q := 98) C rfl rfl fl_X8_80 dX8_copy_48 ?_
          refine tv_iload_n (pc := 51) 3 C dX8_copy_51 rfl rfl ?_
          refine tv_iald (pc := 52) (j := t.toNat) (z := μ 98 t.toNat) C rfl dX8_copy_52 (by omega) (by omega) rfl ?_
          refine tv_icmp_eq (pc := 53) 62 C dX8_copy_53 (by decide) (by omega) (by omega) (fun h53 => ?_) (fun h53 => ?_)
          · skip
            refine tv_iload_n (pc := 62) 2 C dX8_copy_62 rfl rfl ?_
            refine tv_if_lt (pc := 63) 111 C dX8_copy_63 (by decide) (by omega) (fun h63 => ?_) (fun h63 => ?_)
            · skip
              refine tv_aload_n (pc := 111) 0 C dX8_copy_111 rfl rfl ?_
              refine tv_iconst (pc := 112) C dX8_copy_112 ?_
              refine tv_callV (pc := 113) [tm_i 2] [] C (c8_meets E _ μ 2) cv_X8_155 rfl rfl (by decide) rfl (Nat.le_of_ble_eq_true rfl) rfl dX8_copy_113 (tm_ki ?_)
              rintro _ _ ⟨rfl, rfl⟩
              refine tv_iret (pc := 116) C dX8_copy_116 ?_
              have ecy : cy_l s k.toNat t.toNat x y n = 2 := by omega
              refine ⟨_, rfl, by unfold cy_z; rw [if_pos (by omega), if_neg (by omega), ecy], ?_, fun a ha => by rw [tm_uf (by omega)]⟩
              unfold cy_s
              rw [if_pos (by omega), if_neg (by omega), ecy]
              exact rf_fd hI _
            · skip
              refine tv_iload (pc := 66) 4 C dX8_copy_66 rfl ?_
              refine tv_if_lt (pc := 68) 111 C dX8_copy_68 (by decide) (by omega) (fun h68 => ?_) (fun h68 => ?_)
              · skip
                refine tv_aload_n (pc := 111) 0 C dX8_copy_111 rfl rfl ?_
                refine tv_iconst (pc := 112) C dX8_copy_112 ?_
                refine tv_callV (pc := 113) [tm_i 2] [] C (c8_meets E _ μ 2) cv_X8_155 rfl rfl (by decide) rfl (Nat.le_of_ble_eq_true rfl) rfl dX8_copy_113 (tm_ki ?_)
                rintro _ _ ⟨rfl, rfl⟩
                refine tv_iret (pc := 116) C dX8_copy_116 ?_
                have ecy : cy_l s k.toNat t.toNat x y n = 2 := by omega
                refine ⟨_, rfl, by unfold cy_z; rw [if_pos (by omega), if_neg (by omega), ecy], ?_, fun a ha => by rw [tm_uf (by omega)]⟩
                unfold cy_s
                rw [if_pos (by omega), if_neg (by omega), ecy]
                exact rf_fd hI _
              · skip
                refine tv_iload (pc := 71) 5 C dX8_copy_71 rfl ?_
                refine tv_if_lt (pc := 73) 111 C dX8_copy_73 (by decide) (by omega) (fun h73 => ?_) (fun h73 => ?_)
                · skip
                  refine tv_aload_n (pc := 111) 0 C dX8_copy_111 rfl rfl ?_
                  refine tv_iconst (pc := 112) C dX8_copy_112 ?_
                  refine tv_callV (pc := 113) [tm_i 2] [] C (c8_meets E _ μ 2) cv_X8_155 rfl rfl (by decide) rfl (Nat.le_of_ble_eq_true rfl) rfl dX8_copy_113 (tm_ki ?_)
                  rintro _ _ ⟨rfl, rfl⟩
                  refine tv_iret (pc := 116) C dX8_copy_116 ?_
                  have ecy : cy_l s k.toNat t.toNat x y n = 2 := by omega
                  refine ⟨_, rfl, by unfold cy_z; rw [if_pos (by omega), if_neg (by omega), ecy], ?_, fun a ha => by rw [tm_uf (by omega)]⟩
                  unfold cy_s
                  rw [if_pos (by omega), if_neg (by omega), ecy]
                  exact rf_fd hI _
                · skip
                  refine tv_iload_n (pc := 76) 2 C dX8_copy_76 rfl rfl ?_
                  refine tv_i2l (pc := 77) C dX8_copy_77 (by omega) ?_
                  refine tv_iload (pc := 78) 5 C dX8_copy_78 rfl ?_
                  refine tv_i2l (pc := 80) C dX8_copy_80 (by omega) ?_
                  refine tv_ladd (pc := 81) C dX8_copy_81 ?_
                  refine tv_aload_n (pc := 82) 0 C dX8_copy_82 rfl rfl ?_
                  refine tv_getr (pc := 83) (q := 99) C rfl rfl fl_X8_83 dX8_copy_83 ?_
                  refine tv_iload_n (pc := 86) 1 C dX8_copy_86 rfl rfl ?_
                  refine tv_iald (pc := 87) (j := k.toNat) (z := μ 99 k.toNat) C rfl dX8_copy_87 (by omega) (by omega) rfl ?_
                  refine tv_i2l (pc := 88) C dX8_copy_88 (by omega) ?_
                  refine tv_lc_gt (pc := 89) 111 C dX8_copy_89 dX8_copy_90 (by decide) (by omega) (by omega) (fun h89 => ?_) (fun h89 => ?_)
                  · skip
                    refine tv_aload_n (pc := 111) 0 C dX8_copy_111 rfl rfl ?_
                    refine tv_iconst (pc := 112) C dX8_copy_112 ?_
                    refine tv_callV (pc := 113) [tm_i 2] [] C (c8_meets E _ μ 2) cv_X8_155 rfl rfl (by decide) rfl (Nat.le_of_ble_eq_true rfl) rfl dX8_copy_113 (tm_ki ?_)
                    rintro _ _ ⟨rfl, rfl⟩
                    refine tv_iret (pc := 116) C dX8_copy_116 ?_
                    have ecy : cy_l s k.toNat t.toNat x y n = 2 := by omega
                    refine ⟨_, rfl, by unfold cy_z; rw [if_pos (by omega), if_neg (by omega), ecy], ?_, fun a ha => by rw [tm_uf (by omega)]⟩
                    unfold cy_s
                    rw [if_pos (by omega), if_neg (by omega), ecy]
                    exact rf_fd hI _
                  · skip
                    refine tv_iload (pc := 93) 4 C dX8_copy_93 rfl ?_
                    refine tv_i2l (pc := 95) C dX8_copy_95 (by omega) ?_
                    refine tv_iload (pc := 96) 5 C dX8_copy_96 rfl ?_
                    refine tv_i2l (pc := 98) C dX8_copy_98 (by omega) ?_
                    refine tv_ladd (pc := 99) C dX8_copy_99 ?_
                    refine tv_aload_n (pc := 100) 0 C dX8_copy_100 rfl rfl ?_
                    refine tv_getr (pc := 101) (q := 99) C rfl rfl fl_X8_83 dX8_copy_101 ?_
                    refine tv_iload_n (pc := 104) 3 C dX8_copy_104 rfl rfl ?_
                    refine tv_iald (pc := 105) (j := t.toNat) (z := μ 99 t.toNat) C rfl dX8_copy_105 (by omega) (by omega) rfl ?_
                    refine tv_i2l (pc := 106) C dX8_copy_106 (by omega) ?_
                    refine tv_lc_le (pc := 107) 117 C dX8_copy_107 dX8_copy_108 (by decide) (by omega) (by omega) (fun h107 => ?_) (fun h107 => ?_)
                    · skip
                      refine tv_iconst (pc := 117) C dX8_copy_117 ?_
                      refine tv_istore (pc := 118) [(6, tm_i 0), (0, .ref (E.2.1 74)), (1, tm_i k), (2, tm_i x), (3, tm_i t), (4, tm_i y), (5, tm_i n)] C dX8_copy_118 (by decide) rfl ?_
                      refine tv_sub (lv1 := [(6, tm_i 0), (0, .ref (E.2.1 74)), (1, tm_i k), (2, tm_i x), (3, tm_i t), (4, tm_i y), (5, tm_i n)]) [0, 1, 2, 3, 4, 5, 6] rfl ?_
                      refine tv_mem (tm_rowf μ 101 0 (fun b => μ 100 (60 * k.toNat + x.toNat + b))) (tm_rowf_0 _ _ _).symm ?_
                      refine l_copy1 C μ k x t y n (by omega) (by omega) (by omega) _ ?_ 61 0 0 rfl (by omega) (by omega)
                      refine tv_iconst (pc := 154) C dX8_copy_154 ?_
                      refine tv_istore (pc := 155) [(6, tm_i 0), (0, .ref (E.2.1 74)), (1, tm_i k), (2, tm_i x), (3, tm_i t), (4, tm_i y), (5, tm_i n)] C dX8_copy_155 (by decide) rfl ?_
                      refine tv_sub (lv1 := [(6, tm_i 0), (0, .ref (E.2.1 74)), (1, tm_i k), (2, tm_i x), (3, tm_i t), (4, tm_i y), (5, tm_i n)]) [0, 1, 2, 3, 4, 5, 6] rfl ?_
                      refine tv_mem (tm_rowo (tm_rowf μ 101 n.toNat (fun b => μ 100 (60 * k.toNat + x.toNat + b))) 100 (60 * t.toNat + y.toNat) 0 ((tm_rowf μ 101 n.toNat (fun b => μ 100 (60 * k.toNat + x.toNat + b))) 101)) (tm_rowo_0 _ _ _ _).symm ?_
                      refine l_copy2 C _ k x t y n (by omega) (by omega) (by omega) _ ⟨_, rfl, ?_, ?_, ?_⟩ 61 0 0 rfl (by omega) (by omega)
                      · unfold cy_z; rw [if_pos (by omega), if_pos (by omega)]
                      · unfold cy_s
                        rw [if_pos (by omega), if_pos (by omega)]
                        have e100 : ∀ b, tm_rowf μ 101 n.toNat (fun b => μ 100 (60 * k.toNat + x.toNat + b)) 100 b = μ 100 b := fun b => tm_rowf_k (by decide)
                        refine rf_it hI t.toNat (by omega) (fun a h1 h2 => by rw [tm_rowo_f h1, tm_rowf_f h2]) (fun b j h1 h2 => by rw [tm_rowo_out (by omega), e100]) (fun a ha => tm_cp_f ha) (fun q j hj => ?_)
                        unfold tm_cp
                        rw [if_pos rfl]
                        split
                        · have e : 60 * t.toNat + j = (60 * t.toNat + y.toNat) + (j - y.toNat) := by omega
                          rw [e, tm_rowo_in (by omega), tm_rowf_in (by omega), Nat.add_assoc]
                          exact ((hI.2.2.2.2 k.toNat (by omega)).2 (by omega)).2.2 _ (by omega)
                        · rw [tm_rowo_out (by omega), e100]
                          exact ((hI.2.2.2.2 t.toNat (by omega)).2 q).2.2 j hj
                      · intro a ha; rw [tm_rowo_f (by omega), tm_rowf_f (by omega)]
                    · skip
                      refine tv_aload_n (pc := 111) 0 C dX8_copy_111 rfl rfl ?_
                      refine tv_iconst (pc := 112) C dX8_copy_112 ?_
                      refine tv_callV (pc := 113) [tm_i 2] [] C (c8_meets E _ μ 2) cv_X8_155 rfl rfl (by decide) rfl (Nat.le_of_ble_eq_true rfl) rfl dX8_copy_113 (tm_ki ?_)
                      rintro _ _ ⟨rfl, rfl⟩
                      refine tv_iret (pc := 116) C dX8_copy_116 ?_
                      have ecy : cy_l s k.toNat t.toNat x y n = 2 := by omega
                      refine ⟨_, rfl, by unfold cy_z; rw [if_pos (by omega), if_neg (by omega), ecy], ?_, fun a ha => by rw [tm_uf (by omega)]⟩
                      unfold cy_s
                      rw [if_pos (by omega), if_neg (by omega), ecy]
                      exact rf_fd hI _
          · skip
            refine tv_aload_n (pc := 56) 0 C dX8_copy_56 rfl rfl ?_
            refine tv_iconst (pc := 57) C dX8_copy_57 ?_
            refine tv_callV (pc := 58) [tm_i 4] [] C (c8_meets E _ μ 4) cv_X8_155 rfl rfl (by decide) rfl (Nat.le_of_ble_eq_true rfl) rfl dX8_copy_58 (tm_ki ?_)
            rintro _ _ ⟨rfl, rfl⟩
            refine tv_iret (pc := 61) C dX8_copy_61 ?_
            have ecy : cy_l s k.toNat t.toNat x y n = 4 := by omega
            refine ⟨_, rfl, by unfold cy_z; rw [if_pos (by omega), if_neg (by omega), ecy], ?_, fun a ha => by rw [tm_uf (by omega)]⟩
            unfold cy_s
            rw [if_pos (by omega), if_neg (by omega), ecy]
            exact rf_fd hI _
        · skip
          refine tv_aload_n (pc := 35) 0 C dX8_copy_35 rfl rfl ?_
          refine tv_iconst (pc := 36) C dX8_copy_36 ?_
          refine tv_callV (pc := 37) [tm_i 1] [] C (c8_meets E _ μ 1) cv_X8_155 rfl rfl (by decide) rfl (Nat.le_of_ble_eq_true rfl) rfl dX8_copy_37 (tm_ki ?_)
          rintro _ _ ⟨rfl, rfl⟩
          refine tv_iret (pc := 40) C dX8_copy_40 ?_
          have ecy : cy_l s k.toNat t.toNat x y n = 1 := by omega
          refine ⟨_, rfl, by unfold cy_z; rw [if_pos (by omega), if_neg (by omega), ecy], ?_, fun a ha => by rw [tm_uf (by omega)]⟩
          unfold cy_s
          rw [if_pos (by omega), if_neg (by omega), ecy]
          exact rf_fd hI _
    · skip
      refine tv_bipush (pc := 14) C dX8_copy_14 (by decide) ?_
      refine tv_iret (pc := 16) C dX8_copy_16 ?_
      exact ⟨_, rfl, by unfold cy_z; rw [if_neg (by omega)], by unfold cy_s; rw [if_neg (by omega)]; exact hI, fun a _ => rfl⟩
theorem l_rread {E : tm_Ev} {X : tm_X} (C : tm_C E X yX8_read.cls cX8_read 3 (some .int) 3) (μ s : tm_M) (hs : ss_ok s) (k : Int) (hk : 0 ≤ k ∧ k ≤ 3) (h3 : s 3 k.toNat = 1) (R : tm_M × Nat) (post : Option Value → tm_M → Prop) (hpost : ∀ ν', rf_I ν' R.1 s → (∀ a, a < 74 → ν' a = μ a) → post (some (tm_i (R.2 : Int))) ν') : ∀ (f j : Nat) (x : Int) (ν dj : tm_M), x = j → dd_ok dj → rf_I ν dj s → (∀ a, a < 74 → ν a = μ a) → j ≤ 60 → 60 - j < f → rd_f (s (6 + k.toNat)) (s 5 k.toNat) f dj j = R → tm_V E X (tm_Q E X post) 3 27 [(2, tm_i x), (0, .ref (E.2.1 74)), (1, tm_i k)] [] ν := by
  intro f
  induction f with
  | zero => intro j x ν dj hx hdj hIj fr h60 hf hR; omega
  | succ f ih =>
    intro j x ν dj hx hdj hIj fr h60 hf hR
    have hsz := ((hIj.2.2.2.2 k.toNat (by omega)).2 h3).2.1
    have hqi := ((hIj.2.2.2.2 k.toNat (by omega)).2 h3).2.2
    have hsz0 := ((hs.2.2.2 k.toNat (by omega)).2 h3).2.1
    have hit0 := ((hs.2.2.2 k.toNat (by omega)).2 h3).2.2
    have z3 := hdj.2.2.2.2.1
    refine tv_iload_n (pc := 27) 0 C dX8_read_27 rfl rfl ?_
    refine tv_aload_n (pc := 28) 1 C dX8_read_28 rfl rfl ?_
    refine tv_getr (pc := 29) (q := 99) C rfl rfl fl_X8_83 dX8_read_29 ?_
    refine tv_iload_n (pc := 32) 2 C dX8_read_32 rfl rfl ?_
    refine tv_iald (pc := 33) (j := k.toNat) (z := s 5 k.toNat) C rfl dX8_read_33 (by omega) (by omega) hsz ?_
    refine tv_icmp_ge (pc := 34) 61 C dX8_read_34 (by decide) (by omega) (by omega) (fun h34 => ?_) (fun h34 => ?_)
    · skip
      refine tv_iload_n (pc := 61) 0 C dX8_read_61 rfl rfl ?_
      refine tv_iret (pc := 62) C dX8_read_62 ?_
      have e : R = (dj, j) := by
        rw [← hR, rd_f_s, if_neg (by omega)]
      subst e
      rw [hx]
      exact hpost _ hIj fr
    · skip
      have hit := hqi j (by omega)
      have hir := hit0 j (by omega)
      refine tv_aload_n (pc := 37) 1 C dX8_read_37 rfl rfl ?_
      refine tv_aload_n (pc := 38) 1 C dX8_read_38 rfl rfl ?_
      refine tv_getr (pc := 39) (q := 100) C rfl rfl fl_X8_86 dX8_read_39 ?_
      refine tv_bipush (pc := 42) C dX8_read_42 (by decide) ?_
      refine tv_iload_n (pc := 44) 2 C dX8_read_44 rfl rfl ?_
      refine tv_imul (pc := 45) C dX8_read_45 ?_
      refine tv_iload_n (pc := 46) 0 C dX8_read_46 rfl rfl ?_
      refine tv_iadd (pc := 47) C dX8_read_47 ?_
      refine tv_iald (pc := 48) (j := (60 * k.toNat + j)) (z := s (6 + k.toNat) j) C rfl dX8_read_48 (by omega) (by omega) hit ?_
      refine tv_callV (pc := 49) [tm_i (s (6 + k.toNat) j)] [] C (k8_rain E _ ν dj s hdj hIj (s (6 + k.toNat) j) (by omega)) cv_X8_158 rfl rfl (by decide) rfl (Nat.le_of_ble_eq_true rfl) rfl dX8_read_49 (tm_ki ?_)
      rintro zr n9 ⟨ezr, hI9, fr9⟩
      subst ezr
      have hra : (ra_z dj 0 (s (6 + k.toNat) j) = dj 3 0 + 1 ∧ ra_d dj 0 (s (6 + k.toNat) j) = tm_up (tm_up dj 4 (dj 3 0).toNat (s (6 + k.toNat) j)) 3 0 (dj 3 0 + 1) ∧ (0 ≤ s (6 + k.toNat) j ∧ s (6 + k.toNat) j ≤ 39) ∧ dj 3 0 < 6) ∨ (ra_z dj 0 (s (6 + k.toNat) j) < 0 ∧ -4 ≤ ra_z dj 0 (s (6 + k.toNat) j) ∧ ra_d dj 0 (s (6 + k.toNat) j) = dj ∧ ¬ ((0 ≤ s (6 + k.toNat) j ∧ s (6 + k.toNat) j ≤ 39) ∧ dj 3 0 < 6)) := by
        unfold ra_z ra_d
        by_cases h1 : 0 ≤ s (6 + k.toNat) j ∧ s (6 + k.toNat) j ≤ 39
        · by_cases h2 : 6 ≤ dj 3 0
          · right; rw [if_pos h1, if_pos h2, if_pos h1, if_pos h2]; exact ⟨by omega, by omega, rfl, by omega⟩
          · left; rw [if_pos h1, if_neg h2, if_pos h1, if_neg h2]; exact ⟨rfl, rfl, h1, by omega⟩
        · right; rw [if_neg h1, if_neg h1]; exact ⟨by omega, by omega, rfl, by omega⟩
      refine tv_if_le (pc := 52) 61 C dX8_read_52 (by decide) (by omega) (fun h52 => ?_) (fun h52 => ?_)
      · skip
        refine tv_iload_n (pc := 61) 0 C dX8_read_61 rfl rfl ?_
        refine tv_iret (pc := 62) C dX8_read_62 ?_
        have e : R = (dj, j) := by
          rw [← hR, rd_f_s, if_neg (by omega)]
        subst e
        rw [hx]
        rcases hra with ⟨a1, a2, a3, a4⟩ | ⟨a1, a2, a3, a4⟩
        · exfalso; omega
        · rw [a3] at hI9
          exact hpost _ hI9 (fun a ha => by rw [fr9 a ha]; exact fr a ha)
      · skip
        refine tv_iinc (pc := 55) 0 [(2, tm_i (x + 1)), (0, .ref (E.2.1 74)), (1, tm_i k)] C dX8_read_55 rfl (by decide) rfl ?_
        refine tv_goto (pc := 58) 27 C dX8_read_58 (by decide) ?_
        refine tv_sub (lv1 := [(2, tm_i (x + 1)), (0, .ref (E.2.1 74)), (1, tm_i k)]) [0, 1, 2] rfl ?_
        rcases hra with ⟨a1, a2, a3, a4⟩ | ⟨a1, a2, a3, a4⟩
        · rw [a2] at hI9
          refine ih (j + 1) (x + 1) _ _ (by omega) (dd_push2 hdj (by omega) (by omega)) hI9 (fun a ha => by rw [fr9 a ha]; exact fr a ha) (by omega) (by omega) ?_
          rw [rd_f_s, if_pos (by omega)] at hR
          exact hR
        · exfalso; omega
theorem k8_read (E : tm_Ev) (l : Launch) (μ : tm_M) (d s : tm_M) (hd : dd_ok d) (hs : ss_ok s) (hI : rf_I μ d s) (k : Int) (hk : -2147483648 ≤ k ∧ k ≤ 2147483647) : tm_Met E l yX8_read cX8_read 3 (some .int) 3 [.ref (E.2.1 74), tm_i k] μ (tm_pi (fun z μ' => z = rd_z d s k ∧ rf_I μ' (rd_d d s k) (rd_s s k) ∧ ∀ a, a < 74 → μ' a = μ a)) := by
  refine tm_intro [(0, .ref (E.2.1 74)), (1, tm_i k)] rfl (by decide +kernel) (Nat.le_of_ble_eq_true rfl) ?_
  intro X hX C
  subst hX
  refine tv_iload_n (pc := 0) 1 C dX8_read_0 rfl rfl ?_
  refine tv_callS (pc := 1) [tm_i k] [] C (c8_isSheet E _ μ k (by omega)) cs_X8_152 (by decide) rfl (Nat.le_of_ble_eq_true rfl) rfl dX8_read_1 (tm_kp ?_)
  refine tv_ifneB (pc := 4) 10 C dX8_read_4 (by decide) (fun h4 => ?_) (fun h4 => ?_)
  · skip
    have hfk : (s 3 k.toNat = 0 ∧ μ 97 k.toNat = 0) ∨ (s 3 k.toNat = 1 ∧ μ 97 k.toNat = 1 ∧ (0 ≤ s 4 k.toNat ∧ s 4 k.toNat ≤ 2) ∧ (0 ≤ s 5 k.toNat ∧ s 5 k.toNat ≤ 60) ∧ μ 98 k.toNat = s 4 k.toNat ∧ μ 99 k.toNat = s 5 k.toNat) := by
      have q := hI.2.2.2.2 k.toNat (by omega)
      have q0 := hs.2.2.2 k.toNat (by omega)
      rcases q0.1 with q3 | q3
      · exact Or.inl ⟨q3, by rw [q.1, q3]⟩
      · exact Or.inr ⟨q3, by rw [q.1, q3], (q0.2 q3).1, (q0.2 q3).2.1, (q.2 q3).1, (q.2 q3).2.1⟩
    refine tv_aload_n (pc := 10) 0 C dX8_read_10 rfl rfl ?_
    refine tv_getr (pc := 11) (q := 97) C rfl rfl fl_X8_76 dX8_read_11 ?_
    refine tv_iload_n (pc := 14) 1 C dX8_read_14 rfl rfl ?_
    refine tv_zald (pc := 15) (j := k.toNat) (z := μ 97 k.toNat) C rfl dX8_read_15 (by omega) (by omega) rfl ?_
    refine tv_if_ne (pc := 16) 25 C dX8_read_16 (by decide) (by omega) (fun h16 => ?_) (fun h16 => ?_)
    · skip
      refine tv_iconst (pc := 25) C dX8_read_25 ?_
      refine tv_istore_n (pc := 26) [(2, tm_i 0), (0, .ref (E.2.1 74)), (1, tm_i k)] C dX8_read_26 rfl (by decide) rfl ?_
      refine tv_sub (lv1 := [(2, tm_i 0), (0, .ref (E.2.1 74)), (1, tm_i k)]) [0, 1, 2] rfl ?_
      refine l_rread C μ s hs k (by omega) (by omega) (rd_f (s (6 + k.toNat)) (s 5 k.toNat) 61 d 0) _ (fun n9 q1 q2 => ⟨_, rfl, ?_, ?_, q2⟩) 61 0 0 μ d rfl hd hI (fun a _ => rfl) (by omega) (by omega) rfl
      · unfold rd_z; rw [if_pos (by omega), if_neg (by omega)]
      · unfold rd_s rd_d; rw [if_pos (by omega), if_neg (by omega), if_pos (by omega), if_neg (by omega)]; exact q1
    · skip
      refine tv_aload_n (pc := 19) 0 C dX8_read_19 rfl rfl ?_
      refine tv_iconst (pc := 20) C dX8_read_20 ?_
      refine tv_callV (pc := 21) [tm_i 1] [] C (c8_meets E _ μ 1) cv_X8_155 rfl rfl (by decide) rfl (Nat.le_of_ble_eq_true rfl) rfl dX8_read_21 (tm_ki ?_)
      rintro _ _ ⟨rfl, rfl⟩
      refine tv_iret (pc := 24) C dX8_read_24 ?_
      refine ⟨_, rfl, by unfold rd_z; rw [if_pos (by omega), if_pos (by omega)]; rfl, ?_, fun a ha => by rw [tm_uf (by omega)]⟩
      unfold rd_s rd_d
      rw [if_pos (by omega), if_pos (by omega), if_pos (by omega), if_pos (by omega)]
      exact rf_fd hI 1
  · skip
    refine tv_bipush (pc := 7) C dX8_read_7 (by decide) ?_
    refine tv_iret (pc := 9) C dX8_read_9 ?_
    exact ⟨_, rfl, by unfold rd_z; rw [if_neg (by omega)], by unfold rd_s rd_d; rw [if_neg (by omega), if_neg (by omega)]; exact hI, fun a _ => rfl⟩
theorem l_rwrite {E : tm_Ev} {X : tm_X} (C : tm_C E X yX8_write.cls cX8_write 3 (some .int) 8) (d s n1 : tm_M) (k : Int) (hk : 0 ≤ k ∧ k ≤ 3) (hfo : n1 98 k.toNat = s 4 k.toNat) (hfr : 0 ≤ s 4 k.toNat ∧ s 4 k.toNat ≤ 2) (hsz : n1 99 k.toNat = s 5 k.toNat) (hsr : 0 ≤ s 5 k.toNat ∧ s 5 k.toNat ≤ 60) (hg : ∀ h, h < 40 → n1 87 h = sm_z (dd_p d) (h + 1)) (post : Option Value → tm_M → Prop) (hpost : post (some (tm_i (min (s 5 k.toNat) 40))) (tm_rowo n1 100 (60 * k.toNat) (min (s 5 k.toNat) 40).toNat (fun b => st_v (s 4 k.toNat) (sm_z (dd_p d) (b + 1))))) : ∀ (f h : Nat) (x : Int), x = h → (h : Int) ≤ min (s 5 k.toNat) 40 → 40 - h < f → tm_V E X (tm_Q E X post) 3 31 [(2, tm_i x), (0, .ref (E.2.1 74)), (1, tm_i k)] [] (tm_rowo n1 100 (60 * k.toNat) h (fun b => st_v (s 4 k.toNat) (sm_z (dd_p d) (b + 1)))) := by
  intro f
  induction f with
  | zero => intro h x hx hj hf; omega
  | succ f ih =>
    intro h x hx hj hf
    refine tv_iload_n (pc := 31) 0 C dX8_write_31 rfl rfl ?_
    refine tv_aload_n (pc := 32) 1 C dX8_write_32 rfl rfl ?_
    refine tv_getr (pc := 33) (q := 99) C rfl rfl fl_X8_83 dX8_write_33 ?_
    refine tv_iload_n (pc := 36) 2 C dX8_write_36 rfl rfl ?_
    refine tv_iald (pc := 37) (j := k.toNat) (z := s 5 k.toNat) C rfl dX8_write_37 (by omega) (by omega) ((tm_rowo_k (by omega)).trans hsz) ?_
    refine tv_icmp_ge (pc := 38) 65 C dX8_write_38 (by decide) (by omega) (by omega) (fun h38 => ?_) (fun h38 => ?_)
    · skip
      refine tv_iload_n (pc := 65) 0 C dX8_write_65 rfl rfl ?_
      refine tv_iret (pc := 66) C dX8_write_66 ?_
      have hin : h = (min (s 5 k.toNat) 40).toNat := by omega
      subst hin
      rw [show x = min (s 5 k.toNat) 40 by omega]
      exact hpost
    · skip
      refine tv_iload_n (pc := 41) 0 C dX8_write_41 rfl rfl ?_
      refine tv_bipush (pc := 42) C dX8_write_42 (by decide) ?_
      refine tv_icmp_ge (pc := 44) 65 C dX8_write_44 (by decide) (by omega) (by omega) (fun h44 => ?_) (fun h44 => ?_)
      · skip
        refine tv_iload_n (pc := 65) 0 C dX8_write_65 rfl rfl ?_
        refine tv_iret (pc := 66) C dX8_write_66 ?_
        have hin : h = (min (s 5 k.toNat) 40).toNat := by omega
        subst hin
        rw [show x = min (s 5 k.toNat) 40 by omega]
        exact hpost
      · skip
        refine tv_aload_n (pc := 47) 1 C dX8_write_47 rfl rfl ?_
        refine tv_iload_n (pc := 48) 2 C dX8_write_48 rfl rfl ?_
        refine tv_iload_n (pc := 49) 0 C dX8_write_49 rfl rfl ?_
        refine tv_aload_n (pc := 50) 1 C dX8_write_50 rfl rfl ?_
        refine tv_getr (pc := 51) (q := 87) C rfl rfl fl_X8_46 dX8_write_51 ?_
        refine tv_iload_n (pc := 54) 0 C dX8_write_54 rfl rfl ?_
        refine tv_iald (pc := 55) (j := h) (z := sm_z (dd_p d) (h + 1)) C rfl dX8_write_55 (by omega) (by omega) ((tm_rowo_k (by omega)).trans (hg h (by omega))) ?_
        refine tv_callV (pc := 56) [tm_i k, tm_i x, tm_i (sm_z (dd_p d) (h + 1))] [] C (c8_keep E _ (tm_rowo n1 100 (60 * k.toNat) h (fun b => st_v (s 4 k.toNat) (sm_z (dd_p d) (b + 1)))) (s 4 k.toNat) k x (sm_z (dd_p d) (h + 1)) (by omega) (by omega) (by rw [tm_rowo_k (by omega)]; exact hfo) (by omega)) cv_X8_306 rfl rfl (by decide) rfl (Nat.le_of_ble_eq_true rfl) rfl dX8_write_56 (tm_kv ?_)
        rintro _ rfl
        rw [show x.toNat = h by omega, tm_rowo_s rfl]
        refine tv_iinc (pc := 59) 0 [(2, tm_i (x + 1)), (0, .ref (E.2.1 74)), (1, tm_i k)] C dX8_write_59 rfl (by decide) rfl ?_
        refine tv_goto (pc := 62) 31 C dX8_write_62 (by decide) ?_
        refine tv_sub (lv1 := [(2, tm_i (x + 1)), (0, .ref (E.2.1 74)), (1, tm_i k)]) [0, 1, 2] rfl ?_
        exact ih (h + 1) (x + 1) (by omega) (by omega) (by omega)
theorem k8_write (E : tm_Ev) (l : Launch) (μ : tm_M) (d s : tm_M) (hd : dd_ok d) (hs : ss_ok s) (hI : rf_I μ d s) (k : Int) (hk : -2147483648 ≤ k ∧ k ≤ 2147483647) : tm_Met E l yX8_write cX8_write 3 (some .int) 8 [.ref (E.2.1 74), tm_i k] μ (tm_pi (fun z μ' => z = wr_z s k ∧ rf_I μ' d (wr_s d s k) ∧ ∀ a, a < 74 → μ' a = μ a)) := by
  refine tm_intro [(0, .ref (E.2.1 74)), (1, tm_i k)] rfl (by decide +kernel) (Nat.le_of_ble_eq_true rfl) ?_
  intro X hX C
  subst hX
  refine tv_iload_n (pc := 0) 1 C dX8_write_0 rfl rfl ?_
  refine tv_callS (pc := 1) [tm_i k] [] C (c8_isSheet E _ μ k (by omega)) cs_X8_152 (by decide) rfl (Nat.le_of_ble_eq_true rfl) rfl dX8_write_1 (tm_kp ?_)
  refine tv_ifneB (pc := 4) 10 C dX8_write_4 (by decide) (fun h4 => ?_) (fun h4 => ?_)
  · skip
    have hfk : (s 3 k.toNat = 0 ∧ μ 97 k.toNat = 0) ∨ (s 3 k.toNat = 1 ∧ μ 97 k.toNat = 1 ∧ (0 ≤ s 4 k.toNat ∧ s 4 k.toNat ≤ 2) ∧ (0 ≤ s 5 k.toNat ∧ s 5 k.toNat ≤ 60) ∧ μ 98 k.toNat = s 4 k.toNat ∧ μ 99 k.toNat = s 5 k.toNat) := by
      have q := hI.2.2.2.2 k.toNat (by omega)
      have q0 := hs.2.2.2 k.toNat (by omega)
      rcases q0.1 with q3 | q3
      · exact Or.inl ⟨q3, by rw [q.1, q3]⟩
      · exact Or.inr ⟨q3, by rw [q.1, q3], (q0.2 q3).1, (q0.2 q3).2.1, (q.2 q3).1, (q.2 q3).2.1⟩
    refine tv_aload_n (pc := 10) 0 C dX8_write_10 rfl rfl ?_
    refine tv_getr (pc := 11) (q := 97) C rfl rfl fl_X8_76 dX8_write_11 ?_
    refine tv_iload_n (pc := 14) 1 C dX8_write_14 rfl rfl ?_
    refine tv_zald (pc := 15) (j := k.toNat) (z := μ 97 k.toNat) C rfl dX8_write_15 (by omega) (by omega) rfl ?_
    refine tv_if_ne (pc := 16) 25 C dX8_write_16 (by decide) (by omega) (fun h16 => ?_) (fun h16 => ?_)
    · skip
      refine tv_aload_n (pc := 25) 0 C dX8_write_25 rfl rfl ?_
      refine tv_callV (pc := 26) [] [] C (c8_runsTold E _ μ d hd hI.1) cv_X8_219 rfl rfl (by decide) rfl (Nat.le_of_ble_eq_true rfl) rfl dX8_write_26 (tm_kv ?_)
      rintro n1 ⟨g1, g2, g4, g3⟩
      have hI1 := rf_I_k hI g1 g3
      have fr1 : ∀ a, a < 74 → n1 a = μ a := fun a ha => g3.1 a (by omega) (by omega) (by omega) (by omega) (by omega)
      have hn := g2.2.1
      refine tv_iconst (pc := 29) C dX8_write_29 ?_
      refine tv_istore_n (pc := 30) [(2, tm_i 0), (0, .ref (E.2.1 74)), (1, tm_i k)] C dX8_write_30 rfl (by decide) rfl ?_
      refine tv_sub (lv1 := [(2, tm_i 0), (0, .ref (E.2.1 74)), (1, tm_i k)]) [0, 1, 2] rfl ?_
      have hq := (hI1.2.2.2.2 k.toNat (by omega)).2 (by omega)
      refine tv_mem (tm_rowo n1 100 (60 * k.toNat) 0 (fun b => st_v (s 4 k.toNat) (sm_z (dd_p d) (b + 1)))) (tm_rowo_0 n1 _ _ _).symm ?_
      refine l_rwrite C d s n1 k (by omega) hq.1 (by omega) hq.2.1 (by omega) (fun h hh => (g4.1 h hh).1) _ ⟨_, rfl, ?_, ?_, ?_⟩ 41 0 0 rfl (by omega) (by omega)
      · unfold wr_z; rw [if_pos (by omega), if_neg (by omega)]
      · unfold wr_s; rw [if_pos (by omega), if_neg (by omega)]
        refine rf_it hI1 k.toNat (by omega) (fun a ha _ => tm_rowo_f ha) (fun b j h1 h2 => tm_rowo_out (by omega)) (fun a ha => tm_rowf_f ha) (fun q j hj => ?_)
        by_cases hc : j < (min (s 5 k.toNat) 40).toNat
        · rw [tm_rowo_in hc, tm_rowf_in hc]
        · rw [tm_rowo_out (by omega), tm_rowf_out (by omega)]; exact hq.2.2 j hj
      · intro a ha; rw [tm_rowo_f (by omega)]; exact fr1 a ha
    · skip
      refine tv_aload_n (pc := 19) 0 C dX8_write_19 rfl rfl ?_
      refine tv_iconst (pc := 20) C dX8_write_20 ?_
      refine tv_callV (pc := 21) [tm_i 1] [] C (c8_meets E _ μ 1) cv_X8_155 rfl rfl (by decide) rfl (Nat.le_of_ble_eq_true rfl) rfl dX8_write_21 (tm_ki ?_)
      rintro _ _ ⟨rfl, rfl⟩
      refine tv_iret (pc := 24) C dX8_write_24 ?_
      refine ⟨_, rfl, by unfold wr_z; rw [if_pos (by omega), if_pos (by omega)]; rfl, ?_, fun a ha => by rw [tm_uf (by omega)]⟩
      unfold wr_s
      rw [if_pos (by omega), if_pos (by omega)]
      exact rf_fd hI 1
  · skip
    refine tv_bipush (pc := 7) C dX8_write_7 (by decide) ?_
    refine tv_iret (pc := 9) C dX8_write_9 ?_
    exact ⟨_, rfl, by unfold wr_z; rw [if_neg (by omega)], by unfold wr_s; rw [if_neg (by omega)]; exact hI, fun a _ => rfl⟩
