theorem c7_settle (E : tm_Ev) (l : Launch) (μ : tm_M) (d : tm_M) (hd : dd_ok d) (hm : cl_m μ d) (hf : μ 0 16 = 0 ∨ μ 0 16 = 1) (hs1 : μ 0 16 = 1 → cl_s μ d) : tm_Met E l yX7_settle cX7_settle 1 none 4 [.ref (E.2.1 0)] μ (tm_pv (fun μ' => cl_m μ' d ∧ cl_s μ' d ∧ μ' 0 16 = 1 ∧ (∀ a, ¬ (a = 0 ∨ (23 ≤ a ∧ a ≤ 27) ∨ (29 ≤ a ∧ a ≤ 42)) → μ' a = μ a) ∧ (∀ b, b ≠ 16 → μ' 0 b = μ 0 b))) := by
  refine tm_intro [(0, .ref (E.2.1 0))] rfl (by decide +kernel) (Nat.le_of_ble_eq_true rfl) ?_
  intro X hX C
  subst hX
  have hn8 : dd_n d ≤ 8 := sp_no_bd _ (by have q := hd.2.1; omega)
  refine tv_aload_n (pc := 0) 0 C dX7_settle_0 rfl rfl ?_
  refine tv_geti (pc := 1) (z := μ 0 16) C rfl rfl fl_X7_362 dX7_settle_1 rfl ?_
  refine tv_if_eq (pc := 4) 8 C dX7_settle_4 (by decide) (by omega) (fun h4 => ?_) (fun h4 => ?_)
  · skip
    refine tv_aload_n (pc := 8) 0 C dX7_settle_8 rfl rfl ?_
    refine tv_getr (pc := 9) (q := 23) C rfl rfl fl_X7_41 dX7_settle_9 ?_
    refine tv_aload_n (pc := 12) 0 C dX7_settle_12 rfl rfl ?_
    refine tv_getr (pc := 13) (q := 1) C rfl rfl fl_X7_14 dX7_settle_13 ?_
    refine tv_iconst (pc := 16) C dX7_settle_16 ?_
    refine tv_aald (pc := 17) (q := 4) (j := 1) RX2 C rfl rfl dX7_settle_17 (by omega) rfl rfl ?_
    refine tv_callV (pc := 18) [.ref (E.2.1 4)] [] C (c1_readFrom E _ μ (by rw [hm.2.1]; exact hd.2.1) (fun j hj => by rw [hm.2.1] at hj; rw [hm.2.2.2.1 j hj]; exact hd.2.2.2.1 j hj)) cv_X7_365 rfl rfl (by decide) rfl (Nat.le_of_ble_eq_true rfl) rfl dX7_settle_18 (tm_kv ?_)
    rintro M1 e1
    have o1 : ∀ a, (a < 23 ∨ 27 < a) → M1 a = μ a := fun a ha => by rw [e1]; exact tm_or_o ha
    have n1 : M1 23 4 = ((dd_n d : Nat) : Int) := by
      rw [e1, tm_or_z]
      unfold dd_n
      rw [sp_no_congr (f := μ 5) (g := d 2) (fun j hj => hm.2.2.2.1 j (by rw [hm.2.1] at hj; omega)), hm.2.1]
    have m1 := cl_m_same (ν := M1) hm (fun a ha => o1 a (by omega))
    refine tv_aload_n (pc := 21) 0 C dX7_settle_21 rfl rfl ?_
    refine tv_getr (pc := 22) (q := 29) C rfl rfl fl_X7_62 dX7_settle_22 ?_
    refine tv_aload_n (pc := 25) 0 C dX7_settle_25 rfl rfl ?_
    refine tv_getr (pc := 26) (q := 1) C rfl rfl fl_X7_14 dX7_settle_26 ?_
    refine tv_iconst (pc := 29) C dX7_settle_29 ?_
    refine tv_aald (pc := 30) (q := 2) (j := 0) RX2 C rfl rfl dX7_settle_30 (by omega) rfl rfl ?_
    refine tv_aload_n (pc := 31) 0 C dX7_settle_31 rfl rfl ?_
    refine tv_getr (pc := 32) (q := 28) C rfl rfl fl_X7_54 dX7_settle_32 ?_
    refine tv_callV (pc := 35) [.ref (E.2.1 2), .ref (E.2.1 28)] [] C (c0_tell E _ M1 (by rw [m1.1]; exact hd.1) (fun j hj => by rw [m1.1] at hj; rw [m1.2.2.1 j hj]; exact hd.2.2.1 j hj) (dd_n d) n1 hn8) cv_X7_369 rfl rfl (by decide) rfl (Nat.le_of_ble_eq_true rfl) rfl dX7_settle_35 (tm_kv ?_)
    rintro M2 e2
    have o2 : ∀ a, a ≠ 29 → a ≠ 30 → a ≠ 31 → a ≠ 34 → M2 a = M1 a := fun a n1 n2 n3 n4 => by rw [e2, tm_rowf_f n4, tm_uf n1, tm_cp_f n2, tm_rowf_f n3]
    have m2 := cl_m_same (ν := M2) m1 (fun a ha => o2 a (by omega) (by omega) (by omega) (by omega))
    refine tv_aload_n (pc := 38) 0 C dX7_settle_38 rfl rfl ?_
    refine tv_getr (pc := 39) (q := 6) C rfl rfl fl_X7_18 dX7_settle_39 ?_
    refine tv_aload_n (pc := 42) 0 C dX7_settle_42 rfl rfl ?_
    refine tv_getr (pc := 43) (q := 29) C rfl rfl fl_X7_62 dX7_settle_43 ?_
    refine tv_getr (pc := 46) (q := 32) C rfl rfl fl_X7_244 dX7_settle_46 ?_
    refine tv_callS (pc := 49) [.ref (E.2.1 6), .ref (E.2.1 32)] [] C (c7_count_32 E _ M2 (by rw [m2.2.2.2.2.1]; exact hd.2.2.2.2.1) (fun j hj => by rw [m2.2.2.2.2.1] at hj; rw [m2.2.2.2.2.2.2.1 j hj]; exact hd.2.2.2.2.2.2.1 j hj)) cs_X7_373 (by decide) rfl (Nat.le_of_ble_eq_true rfl) rfl dX7_settle_49 (tm_kv ?_)
    rintro M3 e3
    have o3 : ∀ a, a ≠ 32 → M3 a = M2 a := fun a n => by rw [e3, tm_rowf_f n]
    have m3 := cl_m_same (ν := M3) m2 (fun a ha => o3 a (by omega))
    refine tv_aload_n (pc := 52) 0 C dX7_settle_52 rfl rfl ?_
    refine tv_getr (pc := 53) (q := 8) C rfl rfl fl_X7_22 dX7_settle_53 ?_
    refine tv_aload_n (pc := 56) 0 C dX7_settle_56 rfl rfl ?_
    refine tv_getr (pc := 57) (q := 29) C rfl rfl fl_X7_62 dX7_settle_57 ?_
    refine tv_getr (pc := 60) (q := 33) C rfl rfl fl_X7_227 dX7_settle_60 ?_
    refine tv_callS (pc := 63) [.ref (E.2.1 8), .ref (E.2.1 33)] [] C (c7_count_33 E _ M3 (by rw [m3.2.2.2.2.2.1]; exact hd.2.2.2.2.2.1) (fun j hj => by rw [m3.2.2.2.2.2.1] at hj; rw [m3.2.2.2.2.2.2.2.1 j hj]; exact hd.2.2.2.2.2.2.2.1 j hj)) cs_X7_373 (by decide) rfl (Nat.le_of_ble_eq_true rfl) rfl dX7_settle_63 (tm_kv ?_)
    rintro M4 e4
    have st := cl_steps hd hm e1 e2 e3 e4
    refine tv_aload_n (pc := 66) 0 C dX7_settle_66 rfl rfl ?_
    refine tv_getr (pc := 67) (q := 35) C rfl rfl fl_X7_69 dX7_settle_67 ?_
    refine tv_aload_n (pc := 70) 0 C dX7_settle_70 rfl rfl ?_
    refine tv_getr (pc := 71) (q := 29) C rfl rfl fl_X7_62 dX7_settle_71 ?_
    refine tv_callV (pc := 74) [.ref (E.2.1 29)] [] C (c5_play_a E _ M4 (sm_ag_ok st.2.1 (dd_p_ok hd))) cv_X7_229 rfl rfl (by decide) rfl (Nat.le_of_ble_eq_true rfl) rfl dX7_settle_74 (tm_kv ?_)
    rintro M5 e5
    have dn := cl_done hd hm st e5
    refine tv_aload_n (pc := 77) 0 C dX7_settle_77 rfl rfl ?_
    refine tv_iconst (pc := 78) C dX7_settle_78 ?_
    refine tv_putz (pc := 79) C rfl rfl fp_X7_362 dX7_settle_79 (by omega) ?_
    refine tv_vret (pc := 82) C dX7_settle_82 ?_
    have oo : ∀ a, a ≠ 0 → (a < 23 ∨ 27 < a) → (a < 29 ∨ 42 < a) → tm_up M5 0 16 1 a = μ a := fun a n x y => by rw [tm_uf n]; exact dn.2 a x y
    exact ⟨rfl, cl_m_same hm (fun a ha => oo a (by omega) (by omega) (by omega)), cl_s_same dn.1 (fun a ha => tm_uf (by omega)), tm_us, fun a ha => oo a (by omega) (by omega) (by omega), fun b hb => by rw [tm_uj hb, dn.2 0 (by omega) (by omega)]⟩
  · skip
    refine tv_vret (pc := 7) C dX7_settle_7 ?_
    exact ⟨rfl, hm, hs1 (by omega), by omega, fun a _ => rfl, fun b _ => rfl⟩
