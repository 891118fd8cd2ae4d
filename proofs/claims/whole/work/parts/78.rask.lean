theorem ask_t {d s : tm_M} {bt : Int} (h : bt = sb_z d s) {a : Nat} (ha : a < 21) : tb_t bt a = so_b s (di_p d 0 (a : Int)) := by
  rw [h]
  exact bi_t _ 21 a ha
theorem l_ask1 {E : tm_Ev} {X : tm_X} (C : tm_C E X yX8_askNow.cls cX8_askNow 9 (some .int) 8) (ν d s : tm_M) (hd : dd_ok d) (hB : pb_o ν d 21) (bt : Int) (hbt : bt = sb_z d s) (hbr : 0 ≤ bt ∧ bt ≤ 2147483647) (h a : Nat) (x l e u m : Int) (hx : x = h) (hh : h < 40) (hu : u = a) (ha : a < 21) (Q : State → Prop) (hk9 : tm_V E X Q 9 108 [(7, tm_i (ct_n (fun b => (so_b s (di_p d 0 (a : Int)) && so_b s (di_p d 0 (b : Int))) && decide (sm_z (di_p d 0 (a : Int)) (h + 1) = sm_z (di_p d 0 (b : Int)) (h + 1))) 21)), (6, tm_i u), (5, tm_i m), (4, tm_i x), (3, tm_i l), (2, tm_i e), (1, tm_i bt), (0, .ref (E.2.1 74))] [] ν) : ∀ (f b : Nat) (v n : Int), v = b → b ≤ 21 → 21 - b < f → n = ct_n (fun b => (so_b s (di_p d 0 (a : Int)) && so_b s (di_p d 0 (b : Int))) && decide (sm_z (di_p d 0 (a : Int)) (h + 1) = sm_z (di_p d 0 (b : Int)) (h + 1))) b → tm_V E X Q 9 38 [(8, tm_i v), (7, tm_i n), (6, tm_i u), (5, tm_i m), (4, tm_i x), (3, tm_i l), (2, tm_i e), (1, tm_i bt), (0, .ref (E.2.1 74))] [] ν := by
  intro f
  induction f with
  | zero => intro b v n hv hj hf hn; omega
  | succ f ih =>
    intro b v n hv hj hf hn
    refine tv_iload (pc := 38) 0 C dX8_askNow_38 rfl ?_
    refine tv_bipush (pc := 40) C dX8_askNow_40 (by decide) ?_
    refine tv_icmp_ge (pc := 42) 108 C dX8_askNow_42 (by decide) (by omega) (by omega) (fun h42 => ?_) (fun h42 => ?_)
    · skip
      refine tv_sub (lv1 := [(7, tm_i n), (6, tm_i u), (5, tm_i m), (4, tm_i x), (3, tm_i l), (2, tm_i e), (1, tm_i bt), (0, .ref (E.2.1 74))]) [1, 2, 3, 4, 5, 6, 7, 8] rfl ?_
      have hin : b = 21 := by omega
      subst hin
      rw [hn]
      exact hk9
    · skip
      have hza := (sm_bd (di_ok0 hd (v := (a : Int)) (by omega)) (h + 1) (by omega)).1
      have hzb := (sm_bd (di_ok0 hd (v := (b : Int)) (by omega)) (h + 1) (by omega)).1
      refine tv_iload (pc := 45) 1 C dX8_askNow_45 rfl ?_
      refine tv_iload_n (pc := 47) 7 C dX8_askNow_47 rfl rfl ?_
      refine tv_iload (pc := 48) 2 C dX8_askNow_48 rfl ?_
      refine tv_top (a : Int) (by omega) ?_
      refine tv_callS (pc := 50) [tm_i bt, tm_i (a : Int)] [tm_i n] C (c8_isIn E _ ν bt a (by omega) (by omega)) cs_X8_179 (by decide) rfl (Nat.le_of_ble_eq_true rfl) rfl dX8_askNow_50 (tm_kp ?_)
      refine tv_ifeqB (pc := 53) 98 C dX8_askNow_53 (by decide) (fun h53 => ?_) (fun h53 => ?_)
      · skip
        have hno : ¬ (fun b => (so_b s (di_p d 0 (a : Int)) && so_b s (di_p d 0 (b : Int))) && decide (sm_z (di_p d 0 (a : Int)) (h + 1) = sm_z (di_p d 0 (b : Int)) (h + 1))) b = true := by
          show ¬ (_ && _ && _) = true
          rw [← ask_t hbt ha]
          simp [h53]
        refine tv_iconst (pc := 98) C dX8_askNow_98 ?_
        refine tv_iadd (pc := 99) C dX8_askNow_99 ?_
        refine tv_istore (pc := 100) [(7, tm_i (n + 0)), (8, tm_i v), (6, tm_i u), (5, tm_i m), (4, tm_i x), (3, tm_i l), (2, tm_i e), (1, tm_i bt), (0, .ref (E.2.1 74))] C dX8_askNow_100 (by decide) rfl ?_
        refine tv_iinc (pc := 102) 1 [(8, tm_i (v + 1)), (7, tm_i (n + 0)), (6, tm_i u), (5, tm_i m), (4, tm_i x), (3, tm_i l), (2, tm_i e), (1, tm_i bt), (0, .ref (E.2.1 74))] C dX8_askNow_102 rfl (by decide) rfl ?_
        refine tv_goto (pc := 105) 38 C dX8_askNow_105 (by decide) ?_
        refine tv_sub (lv1 := [(8, tm_i (v + 1)), (7, tm_i (n + 0)), (6, tm_i u), (5, tm_i m), (4, tm_i x), (3, tm_i l), (2, tm_i e), (1, tm_i bt), (0, .ref (E.2.1 74))]) [0, 1, 2, 3, 4, 5, 6, 7, 8] rfl ?_
        exact ih (b + 1) (v + 1) (n + 0) (by omega) (by omega) (by omega) (by rw [ct_s, if_neg hno]; omega)
      · skip
        refine tv_iload_n (pc := 56) 7 C dX8_askNow_56 rfl rfl ?_
        refine tv_iload (pc := 57) 0 C dX8_askNow_57 rfl ?_
        refine tv_top (b : Int) (by omega) ?_
        refine tv_callS (pc := 59) [tm_i bt, tm_i (b : Int)] [tm_i n] C (c8_isIn E _ ν bt b (by omega) (by omega)) cs_X8_179 (by decide) rfl (Nat.le_of_ble_eq_true rfl) rfl dX8_askNow_59 (tm_kp ?_)
        refine tv_ifeqB (pc := 62) 98 C dX8_askNow_62 (by decide) (fun h62 => ?_) (fun h62 => ?_)
        · skip
          have hno : ¬ (fun b => (so_b s (di_p d 0 (a : Int)) && so_b s (di_p d 0 (b : Int))) && decide (sm_z (di_p d 0 (a : Int)) (h + 1) = sm_z (di_p d 0 (b : Int)) (h + 1))) b = true := by
            show ¬ (_ && _ && _) = true
            rw [← ask_t hbt (show b < 21 by omega)]
            simp [h62]
          refine tv_iconst (pc := 98) C dX8_askNow_98 ?_
          refine tv_iadd (pc := 99) C dX8_askNow_99 ?_
          refine tv_istore (pc := 100) [(7, tm_i (n + 0)), (8, tm_i v), (6, tm_i u), (5, tm_i m), (4, tm_i x), (3, tm_i l), (2, tm_i e), (1, tm_i bt), (0, .ref (E.2.1 74))] C dX8_askNow_100 (by decide) rfl ?_
          refine tv_iinc (pc := 102) 1 [(8, tm_i (v + 1)), (7, tm_i (n + 0)), (6, tm_i u), (5, tm_i m), (4, tm_i x), (3, tm_i l), (2, tm_i e), (1, tm_i bt), (0, .ref (E.2.1 74))] C dX8_askNow_102 rfl (by decide) rfl ?_
          refine tv_goto (pc := 105) 38 C dX8_askNow_105 (by decide) ?_
          refine tv_sub (lv1 := [(8, tm_i (v + 1)), (7, tm_i (n + 0)), (6, tm_i u), (5, tm_i m), (4, tm_i x), (3, tm_i l), (2, tm_i e), (1, tm_i bt), (0, .ref (E.2.1 74))]) [0, 1, 2, 3, 4, 5, 6, 7, 8] rfl ?_
          exact ih (b + 1) (v + 1) (n + 0) (by omega) (by omega) (by omega) (by rw [ct_s, if_neg hno]; omega)
        · skip
          refine tv_aload_n (pc := 65) 8 C dX8_askNow_65 rfl rfl ?_
          refine tv_getr (pc := 66) (q := 96) C rfl rfl fl_X8_73 dX8_askNow_66 ?_
          refine tv_bipush (pc := 69) C dX8_askNow_69 (by decide) ?_
          refine tv_iload (pc := 71) 2 C dX8_askNow_71 rfl ?_
          refine tv_imul (pc := 73) C dX8_askNow_73 ?_
          refine tv_iload (pc := 74) 4 C dX8_askNow_74 rfl ?_
          refine tv_iadd (pc := 76) C dX8_askNow_76 ?_
          refine tv_iald (pc := 77) (j := (40 * a + h)) (z := sm_z (di_p d 0 (a : Int)) (h + 1)) C rfl dX8_askNow_77 (by omega) (by omega) (hB a h (by omega) (by omega)) ?_
          refine tv_aload_n (pc := 78) 8 C dX8_askNow_78 rfl rfl ?_
          refine tv_getr (pc := 79) (q := 96) C rfl rfl fl_X8_73 dX8_askNow_79 ?_
          refine tv_bipush (pc := 82) C dX8_askNow_82 (by decide) ?_
          refine tv_iload (pc := 84) 0 C dX8_askNow_84 rfl ?_
          refine tv_imul (pc := 86) C dX8_askNow_86 ?_
          refine tv_iload (pc := 87) 4 C dX8_askNow_87 rfl ?_
          refine tv_iadd (pc := 89) C dX8_askNow_89 ?_
          refine tv_iald (pc := 90) (j := (40 * b + h)) (z := sm_z (di_p d 0 (b : Int)) (h + 1)) C rfl dX8_askNow_90 (by omega) (by omega) (hB b h (by omega) (by omega)) ?_
          refine tv_icmp_ne (pc := 91) 98 C dX8_askNow_91 (by decide) (by omega) (by omega) (fun h91 => ?_) (fun h91 => ?_)
          · skip
            have hno : ¬ (fun b => (so_b s (di_p d 0 (a : Int)) && so_b s (di_p d 0 (b : Int))) && decide (sm_z (di_p d 0 (a : Int)) (h + 1) = sm_z (di_p d 0 (b : Int)) (h + 1))) b = true := by
              show ¬ (_ && _ && _) = true
              simp [h91]
            refine tv_iconst (pc := 98) C dX8_askNow_98 ?_
            refine tv_iadd (pc := 99) C dX8_askNow_99 ?_
            refine tv_istore (pc := 100) [(7, tm_i (n + 0)), (8, tm_i v), (6, tm_i u), (5, tm_i m), (4, tm_i x), (3, tm_i l), (2, tm_i e), (1, tm_i bt), (0, .ref (E.2.1 74))] C dX8_askNow_100 (by decide) rfl ?_
            refine tv_iinc (pc := 102) 1 [(8, tm_i (v + 1)), (7, tm_i (n + 0)), (6, tm_i u), (5, tm_i m), (4, tm_i x), (3, tm_i l), (2, tm_i e), (1, tm_i bt), (0, .ref (E.2.1 74))] C dX8_askNow_102 rfl (by decide) rfl ?_
            refine tv_goto (pc := 105) 38 C dX8_askNow_105 (by decide) ?_
            refine tv_sub (lv1 := [(8, tm_i (v + 1)), (7, tm_i (n + 0)), (6, tm_i u), (5, tm_i m), (4, tm_i x), (3, tm_i l), (2, tm_i e), (1, tm_i bt), (0, .ref (E.2.1 74))]) [0, 1, 2, 3, 4, 5, 6, 7, 8] rfl ?_
            exact ih (b + 1) (v + 1) (n + 0) (by omega) (by omega) (by omega) (by rw [ct_s, if_neg hno]; omega)
          · skip
            refine tv_iconst (pc := 94) C dX8_askNow_94 ?_
            refine tv_goto (pc := 95) 99 C dX8_askNow_95 (by decide) ?_
            refine tv_iadd (pc := 99) C dX8_askNow_99 ?_
            refine tv_istore (pc := 100) [(7, tm_i (n + 1)), (8, tm_i v), (6, tm_i u), (5, tm_i m), (4, tm_i x), (3, tm_i l), (2, tm_i e), (1, tm_i bt), (0, .ref (E.2.1 74))] C dX8_askNow_100 (by decide) rfl ?_
            refine tv_iinc (pc := 102) 1 [(8, tm_i (v + 1)), (7, tm_i (n + 1)), (6, tm_i u), (5, tm_i m), (4, tm_i x), (3, tm_i l), (2, tm_i e), (1, tm_i bt), (0, .ref (E.2.1 74))] C dX8_askNow_102 rfl (by decide) rfl ?_
            refine tv_goto (pc := 105) 38 C dX8_askNow_105 (by decide) ?_
            refine tv_sub (lv1 := [(8, tm_i (v + 1)), (7, tm_i (n + 1)), (6, tm_i u), (5, tm_i m), (4, tm_i x), (3, tm_i l), (2, tm_i e), (1, tm_i bt), (0, .ref (E.2.1 74))]) [0, 1, 2, 3, 4, 5, 6, 7, 8] rfl ?_
            exact ih (b + 1) (v + 1) (n + 1) (by omega) (by omega) (by omega) (by rw [ct_s, if_pos (by rw [← ask_t hbt ha, ← ask_t hbt (show b < 21 by omega), h53, h62]; simp [h91])]; omega)
theorem l_ask2 {E : tm_Ev} {X : tm_X} (C : tm_C E X yX8_askNow.cls cX8_askNow 9 (some .int) 8) (ν d s : tm_M) (hd : dd_ok d) (hB : pb_o ν d 21) (bt : Int) (hbt : bt = sb_z d s) (hbr : 0 ≤ bt ∧ bt ≤ 2147483647) (h : Nat) (x l e : Int) (hx : x = h) (hh : h < 40) (Q : State → Prop) (hk9 : tm_V E X Q 9 130 [(5, tm_i (cr_g d s h)), (4, tm_i x), (3, tm_i l), (2, tm_i e), (1, tm_i bt), (0, .ref (E.2.1 74))] [] ν) : ∀ (f a : Nat) (u m : Int), u = a → a ≤ 21 → 21 - a < f → m = mx_n (fun a => ct_n (fun b => (so_b s (di_p d 0 (a : Int)) && so_b s (di_p d 0 (b : Int))) && decide (sm_z (di_p d 0 (a : Int)) (h + 1) = sm_z (di_p d 0 (b : Int)) (h + 1))) 21) a → tm_V E X Q 9 25 [(6, tm_i u), (5, tm_i m), (4, tm_i x), (3, tm_i l), (2, tm_i e), (1, tm_i bt), (0, .ref (E.2.1 74))] [] ν := by
  intro f
  induction f with
  | zero => intro a u m hu hj hf hm; omega
  | succ f ih =>
    intro a u m hu hj hf hm
    refine tv_iload (pc := 25) 0 C dX8_askNow_25 rfl ?_
    refine tv_bipush (pc := 27) C dX8_askNow_27 (by decide) ?_
    refine tv_icmp_ge (pc := 29) 130 C dX8_askNow_29 (by decide) (by omega) (by omega) (fun h29 => ?_) (fun h29 => ?_)
    · skip
      refine tv_sub (lv1 := [(5, tm_i m), (4, tm_i x), (3, tm_i l), (2, tm_i e), (1, tm_i bt), (0, .ref (E.2.1 74))]) [1, 2, 3, 4, 5, 6] rfl ?_
      have hin : a = 21 := by omega
      subst hin
      rw [hm, cr_eq hd hh]
      exact hk9
    · skip
      refine tv_iconst (pc := 32) C dX8_askNow_32 ?_
      refine tv_istore (pc := 33) [(7, tm_i 0), (6, tm_i u), (5, tm_i m), (4, tm_i x), (3, tm_i l), (2, tm_i e), (1, tm_i bt), (0, .ref (E.2.1 74))] C dX8_askNow_33 (by decide) rfl ?_
      refine tv_iconst (pc := 35) C dX8_askNow_35 ?_
      refine tv_istore (pc := 36) [(8, tm_i 0), (7, tm_i 0), (6, tm_i u), (5, tm_i m), (4, tm_i x), (3, tm_i l), (2, tm_i e), (1, tm_i bt), (0, .ref (E.2.1 74))] C dX8_askNow_36 (by decide) rfl ?_
      refine tv_sub (lv1 := [(8, tm_i 0), (7, tm_i 0), (6, tm_i u), (5, tm_i m), (4, tm_i x), (3, tm_i l), (2, tm_i e), (1, tm_i bt), (0, .ref (E.2.1 74))]) [0, 1, 2, 3, 4, 5, 6, 7, 8] rfl ?_
      have hcb := ct_bd (fun b => (so_b s (di_p d 0 (a : Int)) && so_b s (di_p d 0 (b : Int))) && decide (sm_z (di_p d 0 (a : Int)) (h + 1) = sm_z (di_p d 0 (b : Int)) (h + 1))) 21
      have hmb := (mx_ge (f := (fun a => ct_n (fun b => (so_b s (di_p d 0 (a : Int)) && so_b s (di_p d 0 (b : Int))) && decide (sm_z (di_p d 0 (a : Int)) (h + 1) = sm_z (di_p d 0 (b : Int)) (h + 1))) 21)) a).1
      have hmc := mx_le (f := (fun a => ct_n (fun b => (so_b s (di_p d 0 (a : Int)) && so_b s (di_p d 0 (b : Int))) && decide (sm_z (di_p d 0 (a : Int)) (h + 1) = sm_z (di_p d 0 (b : Int)) (h + 1))) 21)) (c := 21) (by omega) a (fun k hk => (ct_bd _ 21).2)
      refine l_ask1 C ν d s hd hB bt hbt hbr h a x l e u m hx hh hu (by omega) _ ?_ 22 0 0 0 rfl (by omega) (by omega) rfl
      refine tv_iload (pc := 108) 0 C dX8_askNow_108 rfl ?_
      refine tv_iload (pc := 110) 2 C dX8_askNow_110 rfl ?_
      refine tv_icmp_le (pc := 112) 120 C dX8_askNow_112 (by decide) (by omega) (by omega) (fun h112 => ?_) (fun h112 => ?_)
      · skip
        refine tv_iload (pc := 120) 2 C dX8_askNow_120 rfl ?_
        refine tv_istore (pc := 122) [(5, tm_i m), (7, tm_i (ct_n (fun b => (so_b s (di_p d 0 (a : Int)) && so_b s (di_p d 0 (b : Int))) && decide (sm_z (di_p d 0 (a : Int)) (h + 1) = sm_z (di_p d 0 (b : Int)) (h + 1))) 21)), (6, tm_i u), (4, tm_i x), (3, tm_i l), (2, tm_i e), (1, tm_i bt), (0, .ref (E.2.1 74))] C dX8_askNow_122 (by decide) rfl ?_
        refine tv_iinc (pc := 124) 2 [(6, tm_i (u + 1)), (5, tm_i m), (7, tm_i (ct_n (fun b => (so_b s (di_p d 0 (a : Int)) && so_b s (di_p d 0 (b : Int))) && decide (sm_z (di_p d 0 (a : Int)) (h + 1) = sm_z (di_p d 0 (b : Int)) (h + 1))) 21)), (4, tm_i x), (3, tm_i l), (2, tm_i e), (1, tm_i bt), (0, .ref (E.2.1 74))] C dX8_askNow_124 rfl (by decide) rfl ?_
        refine tv_goto (pc := 127) 25 C dX8_askNow_127 (by decide) ?_
        refine tv_sub (lv1 := [(6, tm_i (u + 1)), (5, tm_i m), (4, tm_i x), (3, tm_i l), (2, tm_i e), (1, tm_i bt), (0, .ref (E.2.1 74))]) [0, 1, 3, 4, 5, 6, 7] rfl ?_
        exact ih (a + 1) (u + 1) _ (by omega) (by omega) (by omega) (by show _ = max (mx_n (fun a => ct_n (fun b => (so_b s (di_p d 0 (a : Int)) && so_b s (di_p d 0 (b : Int))) && decide (sm_z (di_p d 0 (a : Int)) (h + 1) = sm_z (di_p d 0 (b : Int)) (h + 1))) 21) a) (ct_n (fun b => (so_b s (di_p d 0 (a : Int)) && so_b s (di_p d 0 (b : Int))) && decide (sm_z (di_p d 0 (a : Int)) (h + 1) = sm_z (di_p d 0 (b : Int)) (h + 1))) 21); omega)
      · skip
        refine tv_iload (pc := 115) 0 C dX8_askNow_115 rfl ?_
        refine tv_goto (pc := 117) 122 C dX8_askNow_117 (by decide) ?_
        refine tv_istore (pc := 122) [(5, tm_i (ct_n (fun b => (so_b s (di_p d 0 (a : Int)) && so_b s (di_p d 0 (b : Int))) && decide (sm_z (di_p d 0 (a : Int)) (h + 1) = sm_z (di_p d 0 (b : Int)) (h + 1))) 21)), (7, tm_i (ct_n (fun b => (so_b s (di_p d 0 (a : Int)) && so_b s (di_p d 0 (b : Int))) && decide (sm_z (di_p d 0 (a : Int)) (h + 1) = sm_z (di_p d 0 (b : Int)) (h + 1))) 21)), (6, tm_i u), (4, tm_i x), (3, tm_i l), (2, tm_i e), (1, tm_i bt), (0, .ref (E.2.1 74))] C dX8_askNow_122 (by decide) rfl ?_
        refine tv_iinc (pc := 124) 2 [(6, tm_i (u + 1)), (5, tm_i (ct_n (fun b => (so_b s (di_p d 0 (a : Int)) && so_b s (di_p d 0 (b : Int))) && decide (sm_z (di_p d 0 (a : Int)) (h + 1) = sm_z (di_p d 0 (b : Int)) (h + 1))) 21)), (7, tm_i (ct_n (fun b => (so_b s (di_p d 0 (a : Int)) && so_b s (di_p d 0 (b : Int))) && decide (sm_z (di_p d 0 (a : Int)) (h + 1) = sm_z (di_p d 0 (b : Int)) (h + 1))) 21)), (4, tm_i x), (3, tm_i l), (2, tm_i e), (1, tm_i bt), (0, .ref (E.2.1 74))] C dX8_askNow_124 rfl (by decide) rfl ?_
        refine tv_goto (pc := 127) 25 C dX8_askNow_127 (by decide) ?_
        refine tv_sub (lv1 := [(6, tm_i (u + 1)), (5, tm_i (ct_n (fun b => (so_b s (di_p d 0 (a : Int)) && so_b s (di_p d 0 (b : Int))) && decide (sm_z (di_p d 0 (a : Int)) (h + 1) = sm_z (di_p d 0 (b : Int)) (h + 1))) 21)), (4, tm_i x), (3, tm_i l), (2, tm_i e), (1, tm_i bt), (0, .ref (E.2.1 74))]) [0, 1, 3, 4, 5, 6, 7] rfl ?_
        exact ih (a + 1) (u + 1) _ (by omega) (by omega) (by omega) (by show _ = max (mx_n (fun a => ct_n (fun b => (so_b s (di_p d 0 (a : Int)) && so_b s (di_p d 0 (b : Int))) && decide (sm_z (di_p d 0 (a : Int)) (h + 1) = sm_z (di_p d 0 (b : Int)) (h + 1))) 21) a) (ct_n (fun b => (so_b s (di_p d 0 (a : Int)) && so_b s (di_p d 0 (b : Int))) && decide (sm_z (di_p d 0 (a : Int)) (h + 1) = sm_z (di_p d 0 (b : Int)) (h + 1))) 21); omega)
theorem l_ask3 {E : tm_Ev} {X : tm_X} (C : tm_C E X yX8_askNow.cls cX8_askNow 9 (some .int) 8) (ν d s : tm_M) (hd : dd_ok d) (hB : pb_o ν d 21) (bt : Int) (hbt : bt = sb_z d s) (hbr : 0 ≤ bt ∧ bt ≤ 2147483647) (post : Option Value → tm_M → Prop) (hpost : post (some (tm_i (as_z d s))) ν) : ∀ (f h : Nat) (x l e : Int), x = h → h ≤ 40 → 40 - h < f → e = (am_n (cr_g d s) h).1 → l = (am_n (cr_g d s) h).2 → tm_V E X (tm_Q E X post) 9 12 [(4, tm_i x), (3, tm_i l), (2, tm_i e), (1, tm_i bt), (0, .ref (E.2.1 74))] [] ν := by
  intro f
  induction f with
  | zero => intro h x l e hx hj hf he hl; omega
  | succ f ih =>
    intro h x l e hx hj hf he hl
    refine tv_iload (pc := 12) 0 C dX8_askNow_12 rfl ?_
    refine tv_bipush (pc := 14) C dX8_askNow_14 (by decide) ?_
    refine tv_icmp_ge (pc := 16) 178 C dX8_askNow_16 (by decide) (by omega) (by omega) (fun h16 => ?_) (fun h16 => ?_)
    · skip
      refine tv_iload_n (pc := 178) 2 C dX8_askNow_178 rfl rfl ?_
      refine tv_iret (pc := 179) C dX8_askNow_179 ?_
      have hin : h = 40 := by omega
      subst hin
      rw [he]
      exact hpost
    · skip
      refine tv_iconst (pc := 19) C dX8_askNow_19 ?_
      refine tv_istore (pc := 20) [(5, tm_i 0), (4, tm_i x), (3, tm_i l), (2, tm_i e), (1, tm_i bt), (0, .ref (E.2.1 74))] C dX8_askNow_20 (by decide) rfl ?_
      refine tv_iconst (pc := 22) C dX8_askNow_22 ?_
      refine tv_istore (pc := 23) [(6, tm_i 0), (5, tm_i 0), (4, tm_i x), (3, tm_i l), (2, tm_i e), (1, tm_i bt), (0, .ref (E.2.1 74))] C dX8_askNow_23 (by decide) rfl ?_
      refine tv_sub (lv1 := [(6, tm_i 0), (5, tm_i 0), (4, tm_i x), (3, tm_i l), (2, tm_i e), (1, tm_i bt), (0, .ref (E.2.1 74))]) [0, 1, 2, 3, 4, 5, 6] rfl ?_
      have har := am_r (fun k => cr_g_bd d s k) h (by omega)
      have hgb := cr_g_bd d s h
      refine l_ask2 C ν d s hd hB bt hbt hbr h x l e hx (by omega) _ ?_ 22 0 0 0 rfl (by omega) (by omega) rfl
      refine tv_iload_n (pc := 130) 3 C dX8_askNow_130 rfl rfl ?_
      refine tv_iconst (pc := 131) C dX8_askNow_131 ?_
      refine tv_icmp_eq (pc := 132) 141 C dX8_askNow_132 (by decide) (by omega) (by omega) (fun h132 => ?_) (fun h132 => ?_)
      · skip
        refine tv_iconst (pc := 141) C dX8_askNow_141 ?_
        refine tv_goto (pc := 142) 146 C dX8_askNow_142 (by decide) ?_
        refine tv_istore (pc := 146) [(6, tm_i 1), (5, tm_i (cr_g d s h)), (4, tm_i x), (3, tm_i l), (2, tm_i e), (1, tm_i bt), (0, .ref (E.2.1 74))] C dX8_askNow_146 (by decide) rfl ?_
        refine tv_iload (pc := 148) 0 C dX8_askNow_148 rfl ?_
        refine tv_if_eq (pc := 150) 158 C dX8_askNow_150 (by decide) (by omega) (fun q => absurd q (by decide)) (fun _ => ?_)
        refine tv_iload (pc := 153) 2 C dX8_askNow_153 rfl ?_
        refine tv_goto (pc := 155) 159 C dX8_askNow_155 (by decide) ?_
        refine tv_istore_n (pc := 159) [(2, tm_i x), (6, tm_i 1), (5, tm_i (cr_g d s h)), (4, tm_i x), (3, tm_i l), (1, tm_i bt), (0, .ref (E.2.1 74))] C dX8_askNow_159 rfl (by decide) rfl ?_
        refine tv_iload (pc := 160) 1 C dX8_askNow_160 rfl ?_
        refine tv_if_eq (pc := 162) 170 C dX8_askNow_162 (by decide) (by omega) (fun q => absurd q (by decide)) (fun _ => ?_)
        refine tv_iload (pc := 165) 2 C dX8_askNow_165 rfl ?_
        refine tv_goto (pc := 167) 171 C dX8_askNow_167 (by decide) ?_
        refine tv_istore_n (pc := 171) [(3, tm_i (cr_g d s h)), (2, tm_i x), (6, tm_i 1), (5, tm_i (cr_g d s h)), (4, tm_i x), (1, tm_i bt), (0, .ref (E.2.1 74))] C dX8_askNow_171 rfl (by decide) rfl ?_
        refine tv_iinc (pc := 172) 4 [(4, tm_i (x + 1)), (3, tm_i (cr_g d s h)), (2, tm_i x), (6, tm_i 1), (5, tm_i (cr_g d s h)), (1, tm_i bt), (0, .ref (E.2.1 74))] C dX8_askNow_172 rfl (by decide) rfl ?_
        refine tv_goto (pc := 175) 12 C dX8_askNow_175 (by decide) ?_
        refine tv_sub (lv1 := [(4, tm_i (x + 1)), (3, tm_i (cr_g d s h)), (2, tm_i x), (1, tm_i bt), (0, .ref (E.2.1 74))]) [0, 1, 2, 5, 6] rfl ?_
        refine ih (h + 1) (x + 1) _ _ (by omega) (by omega) (by omega) ?_ ?_
        · rw [am_s, if_pos (by omega)]; omega
        · rw [am_s, if_pos (by omega)]
      · skip
        refine tv_iload (pc := 135) 0 C dX8_askNow_135 rfl ?_
        refine tv_iload_n (pc := 137) 2 C dX8_askNow_137 rfl rfl ?_
        refine tv_icmp_ge (pc := 138) 145 C dX8_askNow_138 (by decide) (by omega) (by omega) (fun h138 => ?_) (fun h138 => ?_)
        · skip
          refine tv_iconst (pc := 145) C dX8_askNow_145 ?_
          refine tv_istore (pc := 146) [(6, tm_i 0), (5, tm_i (cr_g d s h)), (4, tm_i x), (3, tm_i l), (2, tm_i e), (1, tm_i bt), (0, .ref (E.2.1 74))] C dX8_askNow_146 (by decide) rfl ?_
          refine tv_iload (pc := 148) 0 C dX8_askNow_148 rfl ?_
          refine tv_if_eq (pc := 150) 158 C dX8_askNow_150 (by decide) (by omega) (fun _ => ?_) (fun q => absurd q (by decide))
          refine tv_iload_n (pc := 158) 4 C dX8_askNow_158 rfl rfl ?_
          refine tv_istore_n (pc := 159) [(2, tm_i e), (6, tm_i 0), (5, tm_i (cr_g d s h)), (4, tm_i x), (3, tm_i l), (1, tm_i bt), (0, .ref (E.2.1 74))] C dX8_askNow_159 rfl (by decide) rfl ?_
          refine tv_iload (pc := 160) 1 C dX8_askNow_160 rfl ?_
          refine tv_if_eq (pc := 162) 170 C dX8_askNow_162 (by decide) (by omega) (fun _ => ?_) (fun q => absurd q (by decide))
          refine tv_iload_n (pc := 170) 4 C dX8_askNow_170 rfl rfl ?_
          refine tv_istore_n (pc := 171) [(3, tm_i l), (2, tm_i e), (6, tm_i 0), (5, tm_i (cr_g d s h)), (4, tm_i x), (1, tm_i bt), (0, .ref (E.2.1 74))] C dX8_askNow_171 rfl (by decide) rfl ?_
          refine tv_iinc (pc := 172) 4 [(4, tm_i (x + 1)), (3, tm_i l), (2, tm_i e), (6, tm_i 0), (5, tm_i (cr_g d s h)), (1, tm_i bt), (0, .ref (E.2.1 74))] C dX8_askNow_172 rfl (by decide) rfl ?_
          refine tv_goto (pc := 175) 12 C dX8_askNow_175 (by decide) ?_
          refine tv_sub (lv1 := [(4, tm_i (x + 1)), (3, tm_i l), (2, tm_i e), (1, tm_i bt), (0, .ref (E.2.1 74))]) [0, 1, 2, 5, 6] rfl ?_
          refine ih (h + 1) (x + 1) _ _ (by omega) (by omega) (by omega) ?_ ?_
          · rw [am_s, if_neg (by omega)]; exact he
          · rw [am_s, if_neg (by omega)]; exact hl
        · skip
          refine tv_iconst (pc := 141) C dX8_askNow_141 ?_
          refine tv_goto (pc := 142) 146 C dX8_askNow_142 (by decide) ?_
          refine tv_istore (pc := 146) [(6, tm_i 1), (5, tm_i (cr_g d s h)), (4, tm_i x), (3, tm_i l), (2, tm_i e), (1, tm_i bt), (0, .ref (E.2.1 74))] C dX8_askNow_146 (by decide) rfl ?_
          refine tv_iload (pc := 148) 0 C dX8_askNow_148 rfl ?_
          refine tv_if_eq (pc := 150) 158 C dX8_askNow_150 (by decide) (by omega) (fun q => absurd q (by decide)) (fun _ => ?_)
          refine tv_iload (pc := 153) 2 C dX8_askNow_153 rfl ?_
          refine tv_goto (pc := 155) 159 C dX8_askNow_155 (by decide) ?_
          refine tv_istore_n (pc := 159) [(2, tm_i x), (6, tm_i 1), (5, tm_i (cr_g d s h)), (4, tm_i x), (3, tm_i l), (1, tm_i bt), (0, .ref (E.2.1 74))] C dX8_askNow_159 rfl (by decide) rfl ?_
          refine tv_iload (pc := 160) 1 C dX8_askNow_160 rfl ?_
          refine tv_if_eq (pc := 162) 170 C dX8_askNow_162 (by decide) (by omega) (fun q => absurd q (by decide)) (fun _ => ?_)
          refine tv_iload (pc := 165) 2 C dX8_askNow_165 rfl ?_
          refine tv_goto (pc := 167) 171 C dX8_askNow_167 (by decide) ?_
          refine tv_istore_n (pc := 171) [(3, tm_i (cr_g d s h)), (2, tm_i x), (6, tm_i 1), (5, tm_i (cr_g d s h)), (4, tm_i x), (1, tm_i bt), (0, .ref (E.2.1 74))] C dX8_askNow_171 rfl (by decide) rfl ?_
          refine tv_iinc (pc := 172) 4 [(4, tm_i (x + 1)), (3, tm_i (cr_g d s h)), (2, tm_i x), (6, tm_i 1), (5, tm_i (cr_g d s h)), (1, tm_i bt), (0, .ref (E.2.1 74))] C dX8_askNow_172 rfl (by decide) rfl ?_
          refine tv_goto (pc := 175) 12 C dX8_askNow_175 (by decide) ?_
          refine tv_sub (lv1 := [(4, tm_i (x + 1)), (3, tm_i (cr_g d s h)), (2, tm_i x), (1, tm_i bt), (0, .ref (E.2.1 74))]) [0, 1, 2, 5, 6] rfl ?_
          refine ih (h + 1) (x + 1) _ _ (by omega) (by omega) (by omega) ?_ ?_
          · rw [am_s, if_pos (by omega)]; omega
          · rw [am_s, if_pos (by omega)]
theorem k8_askNow (E : tm_Ev) (l : Launch) (μ : tm_M) (d s : tm_M) (hd : dd_ok d) (hs : ss_ok s) (hI : rf_I μ d s) : tm_Met E l yX8_askNow cX8_askNow 9 (some .int) 8 [.ref (E.2.1 74)] μ (tm_pi (fun z μ' => z = as_z d s ∧ rf_I μ' d s ∧ rf_r μ' d ∧ ∀ a, a < 74 → μ' a = μ a)) := by
  refine tm_intro [(0, .ref (E.2.1 74))] rfl (by decide +kernel) (Nat.le_of_ble_eq_true rfl) ?_
  intro X hX C
  subst hX
  refine tv_aload_n (pc := 0) 0 C dX8_askNow_0 rfl rfl ?_
  refine tv_callV (pc := 1) [] [] C (k8_startsBy E _ μ d s hd hs hI) cv_X8_277 rfl rfl (by decide) rfl (Nat.le_of_ble_eq_true rfl) rfl dX8_askNow_1 (tm_ki ?_)
  rintro zz n1 ⟨hz, ⟨hI1, hB⟩, g2, fr1⟩
  subst hz
  have hbr := bi_r (fun v => so_b s (di_p d 0 (v : Int))) (n := 21) (by omega)
  have hbr2 : 0 ≤ sb_z d s ∧ sb_z d s ≤ 2147483647 := ⟨hbr.1, by have q := hbr.2; show bi_n _ 21 ≤ _; omega⟩
  refine tv_istore_n (pc := 4) [(1, tm_i (sb_z d s)), (0, .ref (E.2.1 74))] C dX8_askNow_4 rfl (by decide) rfl ?_
  refine tv_iconst (pc := 5) C dX8_askNow_5 ?_
  refine tv_istore_n (pc := 6) [(2, tm_i (-1)), (1, tm_i (sb_z d s)), (0, .ref (E.2.1 74))] C dX8_askNow_6 rfl (by decide) rfl ?_
  refine tv_iconst (pc := 7) C dX8_askNow_7 ?_
  refine tv_istore_n (pc := 8) [(3, tm_i 0), (2, tm_i (-1)), (1, tm_i (sb_z d s)), (0, .ref (E.2.1 74))] C dX8_askNow_8 rfl (by decide) rfl ?_
  refine tv_iconst (pc := 9) C dX8_askNow_9 ?_
  refine tv_istore (pc := 10) [(4, tm_i 0), (3, tm_i 0), (2, tm_i (-1)), (1, tm_i (sb_z d s)), (0, .ref (E.2.1 74))] C dX8_askNow_10 (by decide) rfl ?_
  refine tv_sub (lv1 := [(4, tm_i 0), (3, tm_i 0), (2, tm_i (-1)), (1, tm_i (sb_z d s)), (0, .ref (E.2.1 74))]) [0, 1, 2, 3, 4] rfl ?_
  exact l_ask3 C n1 d s hd hB _ rfl hbr2 _ ⟨_, rfl, rfl, hI1, g2, fr1⟩ 41 0 0 0 (-1) rfl (by omega) (by omega) rfl rfl
theorem k8_ask (E : tm_Ev) (l : Launch) (μ : tm_M) (d s : tm_M) (hd : dd_ok d) (hs : ss_ok s) (hI : rf_I μ d s) : tm_Met E l yX8_ask cX8_ask 1 (some .int) 9 [.ref (E.2.1 74)] μ (tm_pi (fun z μ' => z = as_z d s ∧ rf_I μ' d s ∧ ∀ a, a < 74 → μ' a = μ a)) := by
  refine tm_intro [(0, .ref (E.2.1 74))] rfl (by decide +kernel) (Nat.le_of_ble_eq_true rfl) ?_
  intro X hX C
  subst hX
  refine tv_aload_n (pc := 0) 0 C dX8_ask_0 rfl rfl ?_
  refine tv_callV (pc := 1) [] [] C (k8_askNow E _ μ d s hd hs hI) cv_X8_280 rfl rfl (by decide) rfl (Nat.le_of_ble_eq_true rfl) rfl dX8_ask_1 (tm_ki ?_)
  rintro zz n1 ⟨hz, hI1, g2, fr1⟩
  refine tv_iret (pc := 4) C dX8_ask_4 ?_
  exact ⟨_, rfl, hz, hI1, fr1⟩
theorem l_moonOf {E : tm_Ev} {X : tm_X} (C : tm_C E X yX8_moonOf.cls cX8_moonOf 6 (some .int) 7) (μ d s : tm_M) (hd : dd_ok d) (n1 : tm_M) (hT0 : rf_T n1 d (dd_p d)) (hF0 : rf_F μ n1) (u n w : Int) (hn : 0 ≤ n ∧ n ≤ 40) (hw : 0 ≤ w ∧ w ≤ 1) (post : Option Value → tm_M → Prop) (hpost : ∀ ν, rf_m ν d → rf_r ν d → rf_F μ ν → post (some (tm_i (mn_z d u n w))) ν) : ∀ (f h : Nat) (x lt : Int), x = h → h ≤ 40 → 40 - h < f → lt = mo_l u (min h n.toNat) → tm_V E X (tm_Q E X post) 6 10 [(5, tm_i x), (4, tm_i lt), (0, .ref (E.2.1 74)), (2, tm_i n), (3, tm_i w)] [] (tm_rowf n1 85 h (mo_f u n)) := by
  intro f
  induction f with
  | zero => intro h x lt hx hj hf hl; omega
  | succ f ih =>
    intro h x lt hx hj hf hl
    refine tv_iload (pc := 10) 0 C dX8_moonOf_10 rfl ?_
    refine tv_bipush (pc := 12) C dX8_moonOf_12 (by decide) ?_
    refine tv_icmp_ge (pc := 14) 73 C dX8_moonOf_14 (by decide) (by omega) (by omega) (fun h14 => ?_) (fun h14 => ?_)
    · skip
      have hin : h = 40 := by omega
      subst hin
      have hT : rf_T (tm_rowf n1 85 40 (mo_f u n)) d (mo_p d u n) := rf_T_85 hT0 _
      refine tv_aload_n (pc := 73) 2 C dX8_moonOf_73 rfl rfl ?_
      refine tv_callV (pc := 74) [] [] C (c8_runs E _ (tm_rowf n1 85 40 (mo_f u n)) (rf_T_ok hT hd (mo_ok hd u n))) cv_X8_216 rfl rfl (by decide) rfl (Nat.le_of_ble_eq_true rfl) rfl dX8_moonOf_74 (tm_kv ?_)
      rintro n3 hr9
      obtain ⟨hT3, hN, hH, hG⟩ := rf_T_run hT (mo_ok hd u n) hr9
      clear hr9
      refine tv_iload_n (pc := 77) 4 C dX8_moonOf_77 rfl rfl ?_
      refine tv_if_ne (pc := 78) 88 C dX8_moonOf_78 (by decide) (by omega) (fun h78 => ?_) (fun h78 => ?_)
      · skip
        refine tv_aload_n (pc := 88) 2 C dX8_moonOf_88 rfl rfl ?_
        refine tv_callV (pc := 89) [] [] C (c8_paidNow E _ n3 d (sm_e (mo_p d u n) 40) hd hT3.2.1.2.1 (fun k hk => ⟨(hT3.2.1.2.2.2 k hk).2.2.1, (hT3.2.1.2.2.2 k hk).2.2.2⟩) hN.2.1 (sm_e_40 _)) cv_X8_231 rfl rfl (by decide) rfl (Nat.le_of_ble_eq_true rfl) rfl dX8_moonOf_89 (tm_kp ?_)
        refine tv_iret (pc := 92) C dX8_moonOf_92 ?_
        have ez : py_s d (sm_e (mo_p d u n) 40) = mn_z d u n w := by unfold mn_z; rw [if_pos (by omega), if_neg (by omega)]
        rw [ez]
        exact hpost n3 hT3.1 hT3.2.1 (rf_F_t hF0 (fun a ha => by rw [hH a (by omega) (by omega), tm_rowf_f (by omega)]) (by rw [hG 35 (by omega), tm_rowf_k (by decide)]) (by rw [hG 44 (by omega), tm_rowf_k (by decide)]))
      · skip
        refine tv_aload_n (pc := 81) 2 C dX8_moonOf_81 rfl rfl ?_
        refine tv_geti (pc := 82) (z := sm_t (mo_p d u n) 40) C rfl rfl fl_X8_194 dX8_moonOf_82 hN.2.2.1 ?_
        refine tv_goto (pc := 85) 92 C dX8_moonOf_85 (by decide) ?_
        refine tv_iret (pc := 92) C dX8_moonOf_92 ?_
        have ez : sm_t (mo_p d u n) 40 = mn_z d u n w := by unfold mn_z; rw [if_pos (by omega), if_pos (by omega)]
        rw [ez]
        exact hpost n3 hT3.1 hT3.2.1 (rf_F_t hF0 (fun a ha => by rw [hH a (by omega) (by omega), tm_rowf_f (by omega)]) (by rw [hG 35 (by omega), tm_rowf_k (by decide)]) (by rw [hG 44 (by omega), tm_rowf_k (by decide)]))
    · skip
      refine tv_iload (pc := 17) 0 C dX8_moonOf_17 rfl ?_
      refine tv_iload_n (pc := 19) 3 C dX8_moonOf_19 rfl rfl ?_
      refine tv_icmp_ge (pc := 20) 36 C dX8_moonOf_20 (by decide) (by omega) (by omega) (fun h20 => ?_) (fun h20 => ?_)
      · skip
        refine tv_iload (pc := 36) 1 C dX8_moonOf_36 rfl ?_
        refine tv_istore (pc := 38) [(4, tm_i lt), (5, tm_i x), (0, .ref (E.2.1 74)), (2, tm_i n), (3, tm_i w)] C dX8_moonOf_38 (by decide) rfl ?_
        refine tv_aload_n (pc := 40) 2 C dX8_moonOf_40 rfl rfl ?_
        refine tv_getr (pc := 41) (q := 85) C rfl rfl fl_X8_40 dX8_moonOf_41 ?_
        refine tv_iload (pc := 44) 1 C dX8_moonOf_44 rfl ?_
        refine tv_iload (pc := 46) 1 C dX8_moonOf_46 rfl ?_
        refine tv_iload_n (pc := 48) 3 C dX8_moonOf_48 rfl rfl ?_
        refine tv_icmp_ge (pc := 49) 65 C dX8_moonOf_49 (by decide) (by omega) (by omega) (fun h49 => ?_) (fun h49 => ?_)
        · skip
          refine tv_iconst (pc := 65) C dX8_moonOf_65 ?_
          refine tv_iast (pc := 66) (j := h) C rfl dX8_moonOf_66 (by omega) (by omega) ?_
          refine tv_iinc (pc := 67) 1 [(5, tm_i (x + 1)), (4, tm_i lt), (0, .ref (E.2.1 74)), (2, tm_i n), (3, tm_i w)] C dX8_moonOf_67 rfl (by decide) rfl ?_
          refine tv_goto (pc := 70) 10 C dX8_moonOf_70 (by decide) ?_
          refine tv_sub (lv1 := [(5, tm_i (x + 1)), (4, tm_i lt), (0, .ref (E.2.1 74)), (2, tm_i n), (3, tm_i w)]) [0, 1, 2, 3, 4] rfl ?_
          rw [tm_rowf_s (by unfold mo_f; rw [if_neg (by omega)])]
          exact ih (h + 1) (x + 1) lt (by omega) (by omega) (by omega) (by rw [hl, show min (h + 1) n.toNat = min h n.toNat by omega])
        · skip
          refine tv_iconst (pc := 52) C dX8_moonOf_52 ?_
          refine tv_iload (pc := 53) 0 C dX8_moonOf_53 rfl ?_
          refine tv_bipush (pc := 55) C dX8_moonOf_55 (by decide) ?_
          refine tv_iushr (pc := 57) (z := mo_s (lt)) C dX8_moonOf_57 (by unfold mo_s; exact (Int32.ofInt_toInt _).symm) ?_
          refine tv_bipush (pc := 58) C dX8_moonOf_58 (by decide) ?_
          have hmr := mo_r (lt)
          refine tv_irem (pc := 60) C dX8_moonOf_60 (by omega) (by omega) ?_
          refine tv_imul (pc := 61) C dX8_moonOf_61 ?_
          refine tv_goto (pc := 62) 66 C dX8_moonOf_62 (by decide) ?_
          refine tv_iast (pc := 66) (j := h) C rfl dX8_moonOf_66 (by omega) (by omega) ?_
          refine tv_iinc (pc := 67) 1 [(5, tm_i (x + 1)), (4, tm_i lt), (0, .ref (E.2.1 74)), (2, tm_i n), (3, tm_i w)] C dX8_moonOf_67 rfl (by decide) rfl ?_
          refine tv_goto (pc := 70) 10 C dX8_moonOf_70 (by decide) ?_
          refine tv_sub (lv1 := [(5, tm_i (x + 1)), (4, tm_i lt), (0, .ref (E.2.1 74)), (2, tm_i n), (3, tm_i w)]) [0, 1, 2, 3, 4] rfl ?_
          exfalso; omega
      · skip
        refine tv_ldcw (pc := 23) (z := 1103515245) C kc_X8_295 dX8_moonOf_23 (by decide) ?_
        refine tv_iload (pc := 26) 1 C dX8_moonOf_26 rfl ?_
        refine tv_imul (pc := 28) C dX8_moonOf_28 ?_
        refine tv_sipush (pc := 29) C dX8_moonOf_29 (by decide) ?_
        refine tv_iadd (pc := 32) C dX8_moonOf_32 ?_
        refine tv_goto (pc := 33) 38 C dX8_moonOf_33 (by decide) ?_
        refine tv_istore (pc := 38) [(4, tm_i ((1103515245 * lt) + 12345)), (5, tm_i x), (0, .ref (E.2.1 74)), (2, tm_i n), (3, tm_i w)] C dX8_moonOf_38 (by decide) rfl ?_
        refine tv_aload_n (pc := 40) 2 C dX8_moonOf_40 rfl rfl ?_
        refine tv_getr (pc := 41) (q := 85) C rfl rfl fl_X8_40 dX8_moonOf_41 ?_
        refine tv_iload (pc := 44) 1 C dX8_moonOf_44 rfl ?_
        refine tv_iload (pc := 46) 1 C dX8_moonOf_46 rfl ?_
        refine tv_iload_n (pc := 48) 3 C dX8_moonOf_48 rfl rfl ?_
        refine tv_icmp_ge (pc := 49) 65 C dX8_moonOf_49 (by decide) (by omega) (by omega) (fun h49 => ?_) (fun h49 => ?_)
        · skip
          refine tv_iconst (pc := 65) C dX8_moonOf_65 ?_
          refine tv_iast (pc := 66) (j := h) C rfl dX8_moonOf_66 (by omega) (by omega) ?_
          refine tv_iinc (pc := 67) 1 [(5, tm_i (x + 1)), (4, tm_i ((1103515245 * lt) + 12345)), (0, .ref (E.2.1 74)), (2, tm_i n), (3, tm_i w)] C dX8_moonOf_67 rfl (by decide) rfl ?_
          refine tv_goto (pc := 70) 10 C dX8_moonOf_70 (by decide) ?_
          refine tv_sub (lv1 := [(5, tm_i (x + 1)), (4, tm_i ((1103515245 * lt) + 12345)), (0, .ref (E.2.1 74)), (2, tm_i n), (3, tm_i w)]) [0, 1, 2, 3, 4] rfl ?_
          exfalso; omega
        · skip
          refine tv_iconst (pc := 52) C dX8_moonOf_52 ?_
          refine tv_iload (pc := 53) 0 C dX8_moonOf_53 rfl ?_
          refine tv_bipush (pc := 55) C dX8_moonOf_55 (by decide) ?_
          refine tv_iushr (pc := 57) (z := mo_s ((1103515245 * lt) + 12345)) C dX8_moonOf_57 (by unfold mo_s; exact (Int32.ofInt_toInt _).symm) ?_
          refine tv_bipush (pc := 58) C dX8_moonOf_58 (by decide) ?_
          have hmr := mo_r ((1103515245 * lt) + 12345)
          refine tv_irem (pc := 60) C dX8_moonOf_60 (by omega) (by omega) ?_
          refine tv_imul (pc := 61) C dX8_moonOf_61 ?_
          refine tv_goto (pc := 62) 66 C dX8_moonOf_62 (by decide) ?_
          refine tv_iast (pc := 66) (j := h) C rfl dX8_moonOf_66 (by omega) (by omega) ?_
          refine tv_iinc (pc := 67) 1 [(5, tm_i (x + 1)), (4, tm_i ((1103515245 * lt) + 12345)), (0, .ref (E.2.1 74)), (2, tm_i n), (3, tm_i w)] C dX8_moonOf_67 rfl (by decide) rfl ?_
          refine tv_goto (pc := 70) 10 C dX8_moonOf_70 (by decide) ?_
          refine tv_sub (lv1 := [(5, tm_i (x + 1)), (4, tm_i ((1103515245 * lt) + 12345)), (0, .ref (E.2.1 74)), (2, tm_i n), (3, tm_i w)]) [0, 1, 2, 3, 4] rfl ?_
          rw [tm_rowf_s (by unfold mo_f; rw [if_pos (by omega), hl, show min h n.toNat = h by omega]; rfl)]
          exact ih (h + 1) (x + 1) _ (by omega) (by omega) (by omega) (by rw [hl, show min h n.toNat = h by omega, show min (h + 1) n.toNat = h + 1 by omega]; rfl)
theorem k8_moonOf (E : tm_Ev) (l : Launch) (μ : tm_M) (d s : tm_M) (hd : dd_ok d) (hI : rf_I μ d s) (u n w : Int) (hn0 : 0 ≤ n ∧ n ≤ 40) (hw : 0 ≤ w ∧ w ≤ 1) : tm_Met E l yX8_moonOf cX8_moonOf 6 (some .int) 7 [.ref (E.2.1 74), tm_i u, tm_i n, tm_i w] μ (tm_pi (fun z μ' => z = mn_z d u n w ∧ rf_I μ' d s ∧ rf_r μ' d ∧ ∀ a, a < 74 → μ' a = μ a)) := by
  refine tm_intro [(0, .ref (E.2.1 74)), (1, tm_i u), (2, tm_i n), (3, tm_i w)] rfl (by decide +kernel) (Nat.le_of_ble_eq_true rfl) ?_
  intro X hX C
  subst hX
  refine tv_aload_n (pc := 0) 0 C dX8_moonOf_0 rfl rfl ?_
  refine tv_callV (pc := 1) [] [] C (c8_asTold E _ μ d hd hI.1) cv_X8_213 rfl rfl (by decide) rfl (Nat.le_of_ble_eq_true rfl) rfl dX8_moonOf_1 (tm_kv ?_)
  rintro n1 ⟨g1, g2, g3, g4⟩
  have hF0 := rf_F_g g4
  have hT0 := rf_T_t hd g1 g2 g3
  have h12 := g1.2.2.2.2.2.1
  have hn := g2.2.1
  refine tv_iload_n (pc := 4) 1 C dX8_moonOf_4 rfl rfl ?_
  refine tv_istore (pc := 5) [(4, tm_i u), (0, .ref (E.2.1 74)), (1, tm_i u), (2, tm_i n), (3, tm_i w)] C dX8_moonOf_5 (by decide) rfl ?_
  refine tv_iconst (pc := 7) C dX8_moonOf_7 ?_
  refine tv_istore (pc := 8) [(5, tm_i 0), (4, tm_i u), (0, .ref (E.2.1 74)), (1, tm_i u), (2, tm_i n), (3, tm_i w)] C dX8_moonOf_8 (by decide) rfl ?_
  refine tv_sub (lv1 := [(5, tm_i 0), (4, tm_i u), (0, .ref (E.2.1 74)), (2, tm_i n), (3, tm_i w)]) [0, 1, 2, 4, 5] rfl ?_
  refine tv_mem (tm_rowf n1 85 0 (mo_f u n)) (tm_rowf_0 _ _ _).symm ?_
  exact l_moonOf C μ d s hd n1 hT0 hF0 u n w hn0 hw _ (fun n9 q1 q2 q3 => ⟨_, rfl, rfl, rf_I_F hI q1 q3, q2, fun a ha => q3.1 a (Or.inl ha)⟩) 41 0 0 u rfl (by omega) (by omega) (by rw [Nat.zero_min]; rfl)
theorem k8_moon (E : tm_Ev) (l : Launch) (μ : tm_M) (d s : tm_M) (hd : dd_ok d) (hI : rf_I μ d s) (u n w : Int) (hn : -2147483648 ≤ n ∧ n ≤ 2147483647) (hw : -2147483648 ≤ w ∧ w ≤ 2147483647) : tm_Met E l yX8_moon cX8_moon 4 (some .int) 8 [.ref (E.2.1 74), tm_i u, tm_i n, tm_i w] μ (tm_pi (fun z μ' => z = mn_z d u n w ∧ rf_I μ' d s ∧ ∀ a, a < 74 → μ' a = μ a)) := by
  refine tm_intro [(0, .ref (E.2.1 74)), (1, tm_i u), (2, tm_i n), (3, tm_i w)] rfl (by decide +kernel) (Nat.le_of_ble_eq_true rfl) ?_
  intro X hX C
  subst hX
  refine tv_iload_n (pc := 0) 2 C dX8_moon_0 rfl rfl ?_
  refine tv_iconst (pc := 1) C dX8_moon_1 ?_
  refine tv_bipush (pc := 2) C dX8_moon_2 (by decide) ?_
  refine tv_callS (pc := 4) [tm_i n, tm_i 0, tm_i 40] [] C (c8_in E _ μ n 0 40 (by omega) (by omega) (by omega)) cs_X8_94 (by decide) rfl (Nat.le_of_ble_eq_true rfl) rfl dX8_moon_4 (tm_kp ?_)
  refine tv_ifeqB (pc := 7) 29 C dX8_moon_7 (by decide) (fun h7 => ?_) (fun h7 => ?_)
  · skip
    refine tv_bipush (pc := 29) C dX8_moon_29 (by decide) ?_
    refine tv_iret (pc := 31) C dX8_moon_31 ?_
    exact ⟨_, rfl, by unfold mn_z; rw [if_neg (by omega)], hI, fun a _ => rfl⟩
  · skip
    refine tv_iload_n (pc := 10) 3 C dX8_moon_10 rfl rfl ?_
    refine tv_iconst (pc := 11) C dX8_moon_11 ?_
    refine tv_iconst (pc := 12) C dX8_moon_12 ?_
    refine tv_callS (pc := 13) [tm_i w, tm_i 0, tm_i 1] [] C (c8_in E _ μ w 0 1 (by omega) (by omega) (by omega)) cs_X8_94 (by decide) rfl (Nat.le_of_ble_eq_true rfl) rfl dX8_moon_13 (tm_kp ?_)
    refine tv_ifeqB (pc := 16) 29 C dX8_moon_16 (by decide) (fun h16 => ?_) (fun h16 => ?_)
    · skip
      refine tv_bipush (pc := 29) C dX8_moon_29 (by decide) ?_
      refine tv_iret (pc := 31) C dX8_moon_31 ?_
      exact ⟨_, rfl, by unfold mn_z; rw [if_neg (by omega)], hI, fun a _ => rfl⟩
    · skip
      refine tv_aload_n (pc := 19) 0 C dX8_moon_19 rfl rfl ?_
      refine tv_iload_n (pc := 20) 1 C dX8_moon_20 rfl rfl ?_
      refine tv_iload_n (pc := 21) 2 C dX8_moon_21 rfl rfl ?_
      refine tv_iload_n (pc := 22) 3 C dX8_moon_22 rfl rfl ?_
      refine tv_callV (pc := 23) [tm_i u, tm_i n, tm_i w] [] C (k8_moonOf E _ μ d s hd hI u n w (by omega) (by omega)) cv_X8_296 rfl rfl (by decide) rfl (Nat.le_of_ble_eq_true rfl) rfl dX8_moon_23 (tm_ki ?_)
      rintro zz n1 ⟨hz, hI1, g2, fr1⟩
      refine tv_goto (pc := 26) 31 C dX8_moon_26 (by decide) ?_
      refine tv_iret (pc := 31) C dX8_moon_31 ?_
      exact ⟨_, rfl, hz, hI1, fr1⟩
