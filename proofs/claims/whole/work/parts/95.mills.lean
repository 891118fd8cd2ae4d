theorem cl_1 : Cond.methodLink RX7 49 ⟨"[I", "clone", "()Ljava/lang/Object;"⟩ ∈ tm_tbl := tm_mem 161 (by decide +kernel) rfl
theorem cl_2 : Cond.sameMethod "[I" "java/lang/Object" "clone" "()Ljava/lang/Object;" ∈ tm_tbl := tm_mem 162 (by decide +kernel) rfl
theorem cl_3 : Cond.native ⟨"java/lang/Object", "clone", "()Ljava/lang/Object;"⟩ ∈ tm_tbl := tm_mem 163 (by decide +kernel) rfl
theorem cl_4 : Cond.instanceMethod ⟨"java/lang/Object", "clone", "()Ljava/lang/Object;"⟩ ∈ tm_tbl := tm_mem 164 (by decide +kernel) rfl
theorem cl_5 : Cond.selects "[I" ⟨"[I", "clone", "()Ljava/lang/Object;"⟩ ⟨"java/lang/Object", "clone", "()Ljava/lang/Object;"⟩ ∈ tm_tbl := tm_mem 165 (by decide +kernel) rfl
def lp_n (L : List (Nat × Nat)) : Nat → List (Nat × Nat)
  | 0 => L
  | i + 1 => (58, i) :: lp_n L i
theorem pd_q2 : ∀ i, i < 9 → ([some 63, some 64, some 65, some 66, some 67, some 68, some 69, some 70, some 71] : List (Option Nat))[i]? = some (some (63 + i)) := pd_q
theorem tn_d4 {L : List (Nat × Nat)} (h : tn_d L 57 0 = true) : ∀ i, tn_d (lp_n L i) 57 0 = true := by
  intro i
  induction i with
  | zero => exact h
  | succ i ih => show tn_d ((58, i) :: lp_n L i) 57 0 = true; rw [tn_d3 (by decide)]; exact ih
theorem l_ninit {E : tm_Ev} {X : tm_X} (hE : ∀ k, k < 102 → E.2.1 k = E.2.2.2.2 + k) (C : tn_C E X yX3_init.cls cX3_init 2 2 14 2103 58) (hret : X.2.2.2.2.2.2.2.2.1.sig.returnType = none) (hlk : X.2.2.2.2.2.2.2.2.1.locks = false) (μ : tm_M) (L : List (Nat × Nat)) (hL : tn_d L 57 0 = true) (hz : ∀ a, 63 ≤ a → a < 72 → ∀ j, μ a j = 0) : ∀ (f i : Nat) (x : Int), x = i → i ≤ 9 → 9 - i < f → tn_V E X (tn_Q E X μ 72 (lp_n L 9) 14 2103) 2 49 [(1, tm_i x), (0, .ref (E.2.1 57))] [] μ (63 + i) (lp_n L i) (5 + i) (2067 + 4 * i) := by
  intro f
  induction f with
  | zero => intro i x hx hi hf; omega
  | succ f ih =>
    intro i x hx hi hf
    refine tn_iload_n (pc := 49) 0 C dX3_init_49 rfl rfl ?_
    refine tn_aload_n (pc := 50) 1 C dX3_init_50 rfl rfl ?_
    refine tn_getr (pc := 51) (q := 58) C (by omega) rfl rfl (tn_d4 hL i) fl_X3_11 dX3_init_51 ?_
    refine tn_alen (pc := 54) (r := 1) C (by omega) rfl rfl dX3_init_54 ?_
    refine tn_icmp_ge (pc := 55) 77 C dX3_init_55 (by decide) (by omega) (by omega) (fun h55 => ?_) (fun h55 => ?_)
    · have hi9 : i = 9 := by omega
      subst hi9
      exact tn_vret C hret hlk dX3_init_77
    · refine tn_aload_n (pc := 58) 1 C dX3_init_58 rfl rfl ?_
      refine tn_getr (pc := 59) (q := 58) C (by omega) rfl rfl (tn_d4 hL i) fl_X3_11 dX3_init_59 ?_
      refine tn_iload_n (pc := 62) 0 C dX3_init_62 rfl rfl ?_
      refine tn_new (pc := 63) C (by omega) (by omega) (pd_k i (by omega)) cls_4 kk_X3_9 in_4 it_4 (tn_dflt (fun j q hj h => by match j, hj with | 0, _ => exact nomatch (show some (none : Option Nat) = some (some q) from h) | 1, _ => exact nomatch (show some (none : Option Nat) = some (some q) from h) | 2, _ => exact nomatch (show some (none : Option Nat) = some (some q) from h) | 3, _ => exact nomatch (show some (none : Option Nat) = some (some q) from h) | n + 4, h => omega) (hz (63 + i) (by omega) (by omega)) (fun j hj => by match j, hj with | 0, _ => exact ⟨_, rfl, rfl⟩ | 1, _ => exact ⟨_, rfl, rfl⟩ | 2, _ => exact ⟨_, rfl, rfl⟩ | 3, _ => exact ⟨_, rfl, rfl⟩ | n + 4, h => omega)) (by omega) (by omega) dX3_init_63 ?_
      refine tn_dup (pc := 66) C dX3_init_66 rfl ?_
      refine tn_callN (pc := 67) (k := 63 + i) [] [.ref (E.2.1 (63 + i)), tm_i x, .ref (E.2.1 58)] C (n4_init E _ hE _ _ _ _) ci_X3_30 (by omega) (by omega) (by decide) rfl (Nat.le_of_ble_eq_true rfl) rfl rfl rfl (by omega) (by omega) dX3_init_67 ?_
      refine tn_aast (pc := 70) (j := i) (r := 1) C (by omega) (by omega) rfl (by omega) (pd_k i (by omega)) rfl rfl (by omega) (by omega) (pd_q2 i (by omega)) dX3_init_70 ?_
      refine tn_iinc (pc := 71) 0 [(1, tm_i (x + 1)), (0, .ref (E.2.1 57))] C dX3_init_71 rfl (by decide) rfl ?_
      refine tn_goto (pc := 74) 49 C dX3_init_74 (by decide) ?_
      exact tn_eq (by omega) (by omega) (by omega) (ih (i + 1) (x + 1) (by omega) (by omega) (by omega))
theorem n3_init (E : tm_Ev) (l : Launch) (hE : ∀ k, k < 102 → E.2.1 k = E.2.2.2.2 + k) (μ : tm_M) (L : List (Nat × Nat)) (hz : ∀ a, 58 ≤ a → a < 72 → ∀ j, μ a j = 0) (hL : ∀ j, tn_d L 58 j = false) : tn_Met E l yX3_init cX3_init 2 2 14 2103 58 [.ref (E.2.1 57)] μ L 72 μ ((58, 8) :: (58, 7) :: (58, 6) :: (58, 5) :: (58, 4) :: (58, 3) :: (58, 2) :: (58, 1) :: (58, 0) :: (57, 4) :: (57, 3) :: (57, 2) :: (57, 1) :: (57, 0) :: L) := by
  refine tn_intro hE [(0, .ref (E.2.1 57))] rfl (by decide +kernel) rfl (Nat.le_of_ble_eq_true rfl) ?_
  intro X hX C hnm hret hlk
  subst hX
  refine tn_aload_n (pc := 0) 0 C dX3_init_0 rfl rfl ?_
  refine tn_obj (pc := 1) C oi_X3 oi_b oi_c (by decide) (Nat.le_of_ble_eq_true rfl) dX3_init_1 ?_
  refine tn_aload_n (pc := 4) 0 C dX3_init_4 rfl rfl ?_
  refine tn_bipush (pc := 5) C dX3_init_5 (by decide) ?_
  refine tn_newq (pc := 7) (r := 1) C (by decide) (by decide) rfl rfl kk_X3_9 C.2.2.2.2.2.2.2.2.1.2.1.2.1 hL (by decide) (by decide) (by decide) dX3_init_7 ?_
  refine tn_putr (pc := 10) C hnm (by decide) (by decide) rfl rfl fr_X3_11 dX3_init_10 ?_
  refine tn_aload_n (pc := 13) 0 C dX3_init_13 rfl rfl ?_
  refine tn_bipush (pc := 14) C dX3_init_14 (by decide) ?_
  refine tn_newi (pc := 16) C (by decide) (by decide) rfl (hz 59 (by decide) (by decide)) (by decide) (by decide) (by decide) dX3_init_16 ?_
  refine tn_putr (pc := 18) C hnm (by decide) (by decide) rfl rfl fr_X3_17 dX3_init_18 ?_
  refine tn_aload_n (pc := 21) 0 C dX3_init_21 rfl rfl ?_
  refine tn_bipush (pc := 22) C dX3_init_22 (by decide) ?_
  refine tn_newi (pc := 24) C (by decide) (by decide) rfl (hz 60 (by decide) (by decide)) (by decide) (by decide) (by decide) dX3_init_24 ?_
  refine tn_putr (pc := 26) C hnm (by decide) (by decide) rfl rfl fr_X3_21 dX3_init_26 ?_
  refine tn_aload_n (pc := 29) 0 C dX3_init_29 rfl rfl ?_
  refine tn_sipush (pc := 30) C dX3_init_30 (by decide) ?_
  refine tn_newi (pc := 33) C (by decide) (by decide) rfl (hz 61 (by decide) (by decide)) (by decide) (by decide) (by decide) dX3_init_33 ?_
  refine tn_putr (pc := 35) C hnm (by decide) (by decide) rfl rfl fr_X3_24 dX3_init_35 ?_
  refine tn_aload_n (pc := 38) 0 C dX3_init_38 rfl rfl ?_
  refine tn_sipush (pc := 39) C dX3_init_39 (by decide) ?_
  refine tn_newi (pc := 42) C (by decide) (by decide) rfl (hz 62 (by decide) (by decide)) (by decide) (by decide) (by decide) dX3_init_42 ?_
  refine tn_putr (pc := 44) C hnm (by decide) (by decide) rfl rfl fr_X3_27 dX3_init_44 ?_
  refine tn_iconst (pc := 47) C dX3_init_47 ?_
  refine tn_istore_n (pc := 48) [(1, tm_i 0), (0, .ref (E.2.1 57))] C dX3_init_48 rfl (by decide) rfl ?_
  refine tn_sub (lv1 := [(1, tm_i 0), (0, .ref (E.2.1 57))]) [0, 1] rfl ?_
  exact l_ninit hE C hret hlk μ _ rfl (fun a h1 h2 => hz a (by omega) (by omega)) 10 0 0 rfl (by omega) (by omega)
def tn_0 : tm_M := fun a b => if a = 28 then (tm_sv 2).getD b 0 else 0
def tn_1 : tm_M := tm_up (tm_up (tm_up (tm_up tn_0 15 1 (-1)) 17 1 (-1)) 19 1 (-1)) 21 1 (-1)
theorem tn_0z {a : Nat} (h : a ≠ 28) (j : Nat) : tn_0 a j = 0 := if_neg h
theorem tn_up0 {μ : tm_M} {k j a : Nat} {z : Int} (h : a ≠ k) (h2 : ∀ j, μ a j = 0) : ∀ b, tm_up μ k j z a b = 0 := fun b => by rw [tm_uk h]; exact h2 b
def tn_LT : List (Nat × Nat) := [(0, 15), (0, 14), (0, 13), (58, 8), (58, 7), (58, 6), (58, 5), (58, 4), (58, 3), (58, 2), (58, 1), (58, 0), (57, 4), (57, 3), (57, 2), (57, 1), (57, 0), (0, 12), (49, 6), (49, 5), (49, 4), (49, 3), (49, 2), (49, 1), (49, 0), (0, 11), (43, 0), (43, 5), (43, 4), (43, 3), (43, 2), (43, 1), (0, 10), (35, 6), (35, 5), (35, 4), (35, 3), (35, 2), (35, 1), (35, 0), (0, 9), (29, 0), (29, 5), (29, 4), (29, 3), (29, 2), (29, 1), (0, 8), (0, 7), (23, 3), (23, 2), (23, 1), (23, 0), (0, 5), (14, 3), (21, 0), (14, 2), (19, 0), (14, 1), (17, 0), (14, 0), (15, 0), (0, 4), (12, 0), (0, 3), (10, 0), (0, 2), (8, 0), (0, 1), (6, 0), (0, 0), (1, 1), (4, 0), (1, 0), (2, 0)]
def tn_2 : tm_M := (tm_up (tm_up (tm_up (tm_up (tm_up tn_0 15 1 (-1)) 17 1 (-1)) 19 1 (-1)) 21 1 (-1)) 0 18 (-1))
theorem n7_init (E : tm_Ev) (l : Launch) (hE : ∀ k, k < 102 → E.2.1 k = E.2.2.2.2 + k) : tn_Met E l yX7_init cX7_init 1 3 73 4104 1 [.ref (E.2.1 0)] tn_0 [] 74 tn_2 tn_LT := by
  refine tn_intro hE [(0, .ref (E.2.1 0))] rfl (by decide +kernel) rfl (Nat.le_of_ble_eq_true rfl) ?_
  intro X hX C hnm hret hlk
  subst hX
  refine tn_aload_n (pc := 0) 0 C dX7_init_0 rfl rfl ?_
  refine tn_obj (pc := 1) C oi_X7 oi_b oi_c (by decide) (Nat.le_of_ble_eq_true rfl) dX7_init_1 ?_
  refine tn_aload_n (pc := 4) 0 C dX7_init_4 rfl rfl ?_
  refine tn_iconst (pc := 5) C dX7_init_5 ?_
  refine tn_newq (pc := 6) (r := 0) C (by decide) (by decide) rfl rfl kk_X7_7 C.2.2.2.2.2.2.2.2.1.2.1.1 (fun j => rfl) (by decide) (by decide) (by decide) dX7_init_6 ?_
  refine tn_dup (pc := 9) C dX7_init_9 rfl ?_
  refine tn_iconst (pc := 10) C dX7_init_10 ?_
  refine tn_new (pc := 11) C (by decide) (by decide) rfl cls_2 kk_X7_7 in_2 it_2 (tn_dflt (fun j q hj h => by match j, hj with | 0, _ => exact rfl | 1, _ => exact nomatch (show some (none : Option Nat) = some (some q) from h) | n + 2, h => omega) (fun j => tn_0z (by decide) j) (fun j hj => by match j, hj with | 0, _ => exact ⟨_, rfl, rfl⟩ | 1, _ => exact ⟨_, rfl, rfl⟩ | n + 2, h => omega)) (by decide) (by decide) dX7_init_11 ?_
  refine tn_dup (pc := 14) C dX7_init_14 rfl ?_
  refine tn_bipush (pc := 15) C dX7_init_15 (by decide) ?_
  refine tn_callI (pc := 17) [tm_i 40] [.ref (E.2.1 2), tm_i 0, .ref (E.2.1 1), .ref (E.2.1 1), .ref (E.2.1 0)] C (n2_init_2 E _ hE _ _ (fun a h1 h2 => (fun j => tn_0z (by omega) j))) ci_X7_11 (by decide) (by decide) (by decide) rfl (Nat.le_of_ble_eq_true rfl) rfl rfl rfl (by decide) (by decide) dX7_init_17 ?_
  refine tn_aast (pc := 20) (j := 0) (r := 0) C (by decide) (by decide) rfl (by decide) rfl rfl rfl (by decide) rfl rfl dX7_init_20 ?_
  refine tn_dup (pc := 21) C dX7_init_21 rfl ?_
  refine tn_iconst (pc := 22) C dX7_init_22 ?_
  refine tn_new (pc := 23) C (by decide) (by decide) rfl cls_2 kk_X7_7 in_2 it_2 (tn_dflt (fun j q hj h => by match j, hj with | 0, _ => exact rfl | 1, _ => exact nomatch (show some (none : Option Nat) = some (some q) from h) | n + 2, h => omega) (fun j => tn_0z (by decide) j) (fun j hj => by match j, hj with | 0, _ => exact ⟨_, rfl, rfl⟩ | 1, _ => exact ⟨_, rfl, rfl⟩ | n + 2, h => omega)) (by decide) (by decide) dX7_init_23 ?_
  refine tn_dup (pc := 26) C dX7_init_26 rfl ?_
  refine tn_bipush (pc := 27) C dX7_init_27 (by decide) ?_
  refine tn_callI (pc := 29) [tm_i 47] [.ref (E.2.1 4), tm_i 1, .ref (E.2.1 1), .ref (E.2.1 1), .ref (E.2.1 0)] C (n2_init_4 E _ hE _ _ (fun a h1 h2 => (fun j => tn_0z (by omega) j))) ci_X7_11 (by decide) (by decide) (by decide) rfl (Nat.le_of_ble_eq_true rfl) rfl rfl rfl (by decide) (by decide) dX7_init_29 ?_
  refine tn_aast (pc := 32) (j := 1) (r := 0) C (by decide) (by decide) rfl (by decide) rfl rfl rfl (by decide) rfl rfl dX7_init_32 ?_
  refine tn_putr (pc := 33) C hnm (by decide) (by decide) rfl rfl fr_X7_14 dX7_init_33 ?_
  refine tn_aload_n (pc := 36) 0 C dX7_init_36 rfl rfl ?_
  refine tn_new (pc := 37) C (by decide) (by decide) rfl cls_2 kk_X7_7 in_2 it_2 (tn_dflt (fun j q hj h => by match j, hj with | 0, _ => exact rfl | 1, _ => exact nomatch (show some (none : Option Nat) = some (some q) from h) | n + 2, h => omega) (fun j => tn_0z (by decide) j) (fun j hj => by match j, hj with | 0, _ => exact ⟨_, rfl, rfl⟩ | 1, _ => exact ⟨_, rfl, rfl⟩ | n + 2, h => omega)) (by decide) (by decide) dX7_init_37 ?_
  refine tn_dup (pc := 40) C dX7_init_40 rfl ?_
  refine tn_bipush (pc := 41) C dX7_init_41 (by decide) ?_
  refine tn_callI (pc := 43) [tm_i 6] [.ref (E.2.1 6), .ref (E.2.1 0)] C (n2_init_6 E _ hE _ _ (fun a h1 h2 => (fun j => tn_0z (by omega) j))) ci_X7_11 (by decide) (by decide) (by decide) rfl (Nat.le_of_ble_eq_true rfl) rfl rfl rfl (by decide) (by decide) dX7_init_43 ?_
  refine tn_putr (pc := 46) C hnm (by decide) (by decide) rfl rfl fr_X7_18 dX7_init_46 ?_
  refine tn_aload_n (pc := 49) 0 C dX7_init_49 rfl rfl ?_
  refine tn_new (pc := 50) C (by decide) (by decide) rfl cls_2 kk_X7_7 in_2 it_2 (tn_dflt (fun j q hj h => by match j, hj with | 0, _ => exact rfl | 1, _ => exact nomatch (show some (none : Option Nat) = some (some q) from h) | n + 2, h => omega) (fun j => tn_0z (by decide) j) (fun j hj => by match j, hj with | 0, _ => exact ⟨_, rfl, rfl⟩ | 1, _ => exact ⟨_, rfl, rfl⟩ | n + 2, h => omega)) (by decide) (by decide) dX7_init_50 ?_
  refine tn_dup (pc := 53) C dX7_init_53 rfl ?_
  refine tn_bipush (pc := 54) C dX7_init_54 (by decide) ?_
  refine tn_callI (pc := 56) [tm_i 6] [.ref (E.2.1 8), .ref (E.2.1 0)] C (n2_init_8 E _ hE _ _ (fun a h1 h2 => (fun j => tn_0z (by omega) j))) ci_X7_11 (by decide) (by decide) (by decide) rfl (Nat.le_of_ble_eq_true rfl) rfl rfl rfl (by decide) (by decide) dX7_init_56 ?_
  refine tn_putr (pc := 59) C hnm (by decide) (by decide) rfl rfl fr_X7_22 dX7_init_59 ?_
  refine tn_aload_n (pc := 62) 0 C dX7_init_62 rfl rfl ?_
  refine tn_new (pc := 63) C (by decide) (by decide) rfl cls_2 kk_X7_7 in_2 it_2 (tn_dflt (fun j q hj h => by match j, hj with | 0, _ => exact rfl | 1, _ => exact nomatch (show some (none : Option Nat) = some (some q) from h) | n + 2, h => omega) (fun j => tn_0z (by decide) j) (fun j hj => by match j, hj with | 0, _ => exact ⟨_, rfl, rfl⟩ | 1, _ => exact ⟨_, rfl, rfl⟩ | n + 2, h => omega)) (by decide) (by decide) dX7_init_63 ?_
  refine tn_dup (pc := 66) C dX7_init_66 rfl ?_
  refine tn_bipush (pc := 67) C dX7_init_67 (by decide) ?_
  refine tn_callI (pc := 69) [tm_i 8] [.ref (E.2.1 10), .ref (E.2.1 0)] C (n2_init_10 E _ hE _ _ (fun a h1 h2 => (fun j => tn_0z (by omega) j))) ci_X7_11 (by decide) (by decide) (by decide) rfl (Nat.le_of_ble_eq_true rfl) rfl rfl rfl (by decide) (by decide) dX7_init_69 ?_
  refine tn_putr (pc := 72) C hnm (by decide) (by decide) rfl rfl fr_X7_25 dX7_init_72 ?_
  refine tn_aload_n (pc := 75) 0 C dX7_init_75 rfl rfl ?_
  refine tn_new (pc := 76) C (by decide) (by decide) rfl cls_2 kk_X7_7 in_2 it_2 (tn_dflt (fun j q hj h => by match j, hj with | 0, _ => exact rfl | 1, _ => exact nomatch (show some (none : Option Nat) = some (some q) from h) | n + 2, h => omega) (fun j => tn_0z (by decide) j) (fun j hj => by match j, hj with | 0, _ => exact ⟨_, rfl, rfl⟩ | 1, _ => exact ⟨_, rfl, rfl⟩ | n + 2, h => omega)) (by decide) (by decide) dX7_init_76 ?_
  refine tn_dup (pc := 79) C dX7_init_79 rfl ?_
  refine tn_bipush (pc := 80) C dX7_init_80 (by decide) ?_
  refine tn_callI (pc := 82) [tm_i 8] [.ref (E.2.1 12), .ref (E.2.1 0)] C (n2_init_12 E _ hE _ _ (fun a h1 h2 => (fun j => tn_0z (by omega) j))) ci_X7_11 (by decide) (by decide) (by decide) rfl (Nat.le_of_ble_eq_true rfl) rfl rfl rfl (by decide) (by decide) dX7_init_82 ?_
  refine tn_putr (pc := 85) C hnm (by decide) (by decide) rfl rfl fr_X7_28 dX7_init_85 ?_
  refine tn_aload_n (pc := 88) 0 C dX7_init_88 rfl rfl ?_
  refine tn_iconst (pc := 89) C dX7_init_89 ?_
  refine tn_newq (pc := 90) (r := 2) C (by decide) (by decide) rfl rfl kk_X7_31 C.2.2.2.2.2.2.2.2.1.2.1.2.2 (fun j => rfl) (by decide) (by decide) (by decide) dX7_init_90 ?_
  refine tn_dup (pc := 93) C dX7_init_93 rfl ?_
  refine tn_iconst (pc := 94) C dX7_init_94 ?_
  refine tn_new (pc := 95) C (by decide) (by decide) rfl cls_6 kk_X7_31 in_6 it_6 (tn_dflt (fun j q hj h => by match j, hj with | 0, _ => exact rfl | 1, _ => exact nomatch (show some (none : Option Nat) = some (some q) from h) | 2, _ => exact nomatch (show some (none : Option Nat) = some (some q) from h) | n + 3, h => omega) (fun j => tn_0z (by decide) j) (fun j hj => by match j, hj with | 0, _ => exact ⟨_, rfl, rfl⟩ | 1, _ => exact ⟨_, rfl, rfl⟩ | 2, _ => exact ⟨_, rfl, rfl⟩ | n + 3, h => omega)) (by decide) (by decide) dX7_init_95 ?_
  refine tn_dup (pc := 98) C dX7_init_98 rfl ?_
  refine tn_callN (pc := 99) [] [.ref (E.2.1 15), tm_i 0, .ref (E.2.1 14), .ref (E.2.1 14), .ref (E.2.1 0)] C (n6_init_15 E _ hE _ _ (fun a h1 h2 => (fun j => tn_0z (by omega) j))) ci_X7_33 (by decide) (by decide) (by decide) rfl (Nat.le_of_ble_eq_true rfl) rfl rfl rfl (by decide) (by decide) dX7_init_99 ?_
  refine tn_aast (pc := 102) (j := 0) (r := 2) C (by decide) (by decide) rfl (by decide) rfl rfl rfl (by decide) rfl rfl dX7_init_102 ?_
  refine tn_dup (pc := 103) C dX7_init_103 rfl ?_
  refine tn_iconst (pc := 104) C dX7_init_104 ?_
  refine tn_new (pc := 105) C (by decide) (by decide) rfl cls_6 kk_X7_31 in_6 it_6 (tn_dflt (fun j q hj h => by match j, hj with | 0, _ => exact rfl | 1, _ => exact nomatch (show some (none : Option Nat) = some (some q) from h) | 2, _ => exact nomatch (show some (none : Option Nat) = some (some q) from h) | n + 3, h => omega) (tn_up0 (by decide) (fun j => tn_0z (by decide) j)) (fun j hj => by match j, hj with | 0, _ => exact ⟨_, rfl, rfl⟩ | 1, _ => exact ⟨_, rfl, rfl⟩ | 2, _ => exact ⟨_, rfl, rfl⟩ | n + 3, h => omega)) (by decide) (by decide) dX7_init_105 ?_
  refine tn_dup (pc := 108) C dX7_init_108 rfl ?_
  refine tn_callN (pc := 109) [] [.ref (E.2.1 17), tm_i 1, .ref (E.2.1 14), .ref (E.2.1 14), .ref (E.2.1 0)] C (n6_init_17 E _ hE _ _ (fun a h1 h2 => (tn_up0 (by omega) (fun j => tn_0z (by omega) j)))) ci_X7_33 (by decide) (by decide) (by decide) rfl (Nat.le_of_ble_eq_true rfl) rfl rfl rfl (by decide) (by decide) dX7_init_109 ?_
  refine tn_aast (pc := 112) (j := 1) (r := 2) C (by decide) (by decide) rfl (by decide) rfl rfl rfl (by decide) rfl rfl dX7_init_112 ?_
  refine tn_dup (pc := 113) C dX7_init_113 rfl ?_
  refine tn_iconst (pc := 114) C dX7_init_114 ?_
  refine tn_new (pc := 115) C (by decide) (by decide) rfl cls_6 kk_X7_31 in_6 it_6 (tn_dflt (fun j q hj h => by match j, hj with | 0, _ => exact rfl | 1, _ => exact nomatch (show some (none : Option Nat) = some (some q) from h) | 2, _ => exact nomatch (show some (none : Option Nat) = some (some q) from h) | n + 3, h => omega) (tn_up0 (by decide) (tn_up0 (by decide) (fun j => tn_0z (by decide) j))) (fun j hj => by match j, hj with | 0, _ => exact ⟨_, rfl, rfl⟩ | 1, _ => exact ⟨_, rfl, rfl⟩ | 2, _ => exact ⟨_, rfl, rfl⟩ | n + 3, h => omega)) (by decide) (by decide) dX7_init_115 ?_
  refine tn_dup (pc := 118) C dX7_init_118 rfl ?_
  refine tn_callN (pc := 119) [] [.ref (E.2.1 19), tm_i 2, .ref (E.2.1 14), .ref (E.2.1 14), .ref (E.2.1 0)] C (n6_init_19 E _ hE _ _ (fun a h1 h2 => (tn_up0 (by omega) (tn_up0 (by omega) (fun j => tn_0z (by omega) j))))) ci_X7_33 (by decide) (by decide) (by decide) rfl (Nat.le_of_ble_eq_true rfl) rfl rfl rfl (by decide) (by decide) dX7_init_119 ?_
  refine tn_aast (pc := 122) (j := 2) (r := 2) C (by decide) (by decide) rfl (by decide) rfl rfl rfl (by decide) rfl rfl dX7_init_122 ?_
  refine tn_dup (pc := 123) C dX7_init_123 rfl ?_
  refine tn_iconst (pc := 124) C dX7_init_124 ?_
  refine tn_new (pc := 125) C (by decide) (by decide) rfl cls_6 kk_X7_31 in_6 it_6 (tn_dflt (fun j q hj h => by match j, hj with | 0, _ => exact rfl | 1, _ => exact nomatch (show some (none : Option Nat) = some (some q) from h) | 2, _ => exact nomatch (show some (none : Option Nat) = some (some q) from h) | n + 3, h => omega) (tn_up0 (by decide) (tn_up0 (by decide) (tn_up0 (by decide) (fun j => tn_0z (by decide) j)))) (fun j hj => by match j, hj with | 0, _ => exact ⟨_, rfl, rfl⟩ | 1, _ => exact ⟨_, rfl, rfl⟩ | 2, _ => exact ⟨_, rfl, rfl⟩ | n + 3, h => omega)) (by decide) (by decide) dX7_init_125 ?_
  refine tn_dup (pc := 128) C dX7_init_128 rfl ?_
  refine tn_callN (pc := 129) [] [.ref (E.2.1 21), tm_i 3, .ref (E.2.1 14), .ref (E.2.1 14), .ref (E.2.1 0)] C (n6_init_21 E _ hE _ _ (fun a h1 h2 => (tn_up0 (by omega) (tn_up0 (by omega) (tn_up0 (by omega) (fun j => tn_0z (by omega) j)))))) ci_X7_33 (by decide) (by decide) (by decide) rfl (Nat.le_of_ble_eq_true rfl) rfl rfl rfl (by decide) (by decide) dX7_init_129 ?_
  refine tn_aast (pc := 132) (j := 3) (r := 2) C (by decide) (by decide) rfl (by decide) rfl rfl rfl (by decide) rfl rfl dX7_init_132 ?_
  refine tn_putr (pc := 133) C hnm (by decide) (by decide) rfl rfl fr_X7_34 dX7_init_133 ?_
  refine tn_aload_n (pc := 136) 0 C dX7_init_136 rfl rfl ?_
  refine tn_new (pc := 137) C (by decide) (by decide) rfl cls_1 kk_X7_38 in_1 it_1 (tn_dflt (fun j q hj h => by match j, hj with | 0, _ => exact rfl | 1, _ => exact rfl | 2, _ => exact rfl | 3, _ => exact rfl | 4, _ => exact nomatch (show some (none : Option Nat) = some (some q) from h) | n + 5, h => omega) (tn_up0 (by decide) (tn_up0 (by decide) (tn_up0 (by decide) (tn_up0 (by decide) (fun j => tn_0z (by decide) j))))) (fun j hj => by match j, hj with | 0, _ => exact ⟨_, rfl, rfl⟩ | 1, _ => exact ⟨_, rfl, rfl⟩ | 2, _ => exact ⟨_, rfl, rfl⟩ | 3, _ => exact ⟨_, rfl, rfl⟩ | 4, _ => exact ⟨_, rfl, rfl⟩ | n + 5, h => omega)) (by decide) (by decide) dX7_init_137 ?_
  refine tn_dup (pc := 140) C dX7_init_140 rfl ?_
  refine tn_callN (pc := 141) [] [.ref (E.2.1 23), .ref (E.2.1 0)] C (n1_init E _ hE _ _ (fun a h1 h2 => (tn_up0 (by omega) (tn_up0 (by omega) (tn_up0 (by omega) (tn_up0 (by omega) (fun j => tn_0z (by omega) j))))))) ci_X7_40 (by decide) (by decide) (by decide) rfl (Nat.le_of_ble_eq_true rfl) rfl rfl rfl (by decide) (by decide) dX7_init_141 ?_
  refine tn_putr (pc := 144) C hnm (by decide) (by decide) rfl rfl fr_X7_41 dX7_init_144 ?_
  refine tn_aload_n (pc := 147) 0 C dX7_init_147 rfl rfl ?_
  refine tn_gets (pc := 148) 2 C (by decide) gs_X7_45 dX7_init_148 ?_
  refine tn_clone (pc := 151) C (by decide) (by decide) rfl (fun j hj => by rw [tm_uk (by decide), tm_uk (by decide), tm_uk (by decide), tm_uk (by decide)]; rfl) cl_1 cl_2 cl_3 cl_4 cl_5 (by decide) (by decide) (by decide) (Nat.le_of_ble_eq_true rfl) dX7_init_151 ?_
  refine tn_castA (pc := 154) (r := 0) C (by decide) rfl kk_X7_50 dX7_init_154 ?_
  refine tn_putr (pc := 157) C hnm (by decide) (by decide) rfl rfl fr_X7_54 dX7_init_157 ?_
  refine tn_aload_n (pc := 160) 0 C dX7_init_160 rfl rfl ?_
  refine tn_new (pc := 161) C (by decide) (by decide) rfl cls_0 kk_X7_57 in_0 it_0 (tn_dflt (fun j q hj h => by match j, hj with | 0, _ => exact rfl | 1, _ => exact rfl | 2, _ => exact rfl | 3, _ => exact rfl | 4, _ => exact rfl | 5, _ => exact rfl | 6, _ => exact nomatch (show some (none : Option Nat) = some (some q) from h) | n + 7, h => omega) (tn_up0 (by decide) (tn_up0 (by decide) (tn_up0 (by decide) (tn_up0 (by decide) (fun j => tn_0z (by decide) j))))) (fun j hj => by match j, hj with | 0, _ => exact ⟨_, rfl, rfl⟩ | 1, _ => exact ⟨_, rfl, rfl⟩ | 2, _ => exact ⟨_, rfl, rfl⟩ | 3, _ => exact ⟨_, rfl, rfl⟩ | 4, _ => exact ⟨_, rfl, rfl⟩ | 5, _ => exact ⟨_, rfl, rfl⟩ | 6, _ => exact ⟨_, rfl, rfl⟩ | n + 7, h => omega)) (by decide) (by decide) dX7_init_161 ?_
  refine tn_dup (pc := 164) C dX7_init_164 rfl ?_
  refine tn_aload_n (pc := 165) 0 C dX7_init_165 rfl rfl ?_
  refine tn_getr (pc := 166) (q := 23) C (by decide) rfl rfl rfl fl_X7_41 dX7_init_166 ?_
  refine tn_callI (pc := 169) [.ref (E.2.1 23)] [.ref (E.2.1 29), .ref (E.2.1 0)] C (n0_init_29 E _ hE _ _ (fun a h1 h2 => (tn_up0 (by omega) (tn_up0 (by omega) (tn_up0 (by omega) (tn_up0 (by omega) (fun j => tn_0z (by omega) j))))))) ci_X7_59 (by decide) (by decide) (by decide) rfl (Nat.le_of_ble_eq_true rfl) rfl rfl rfl (by decide) (by decide) dX7_init_169 ?_
  refine tn_putr (pc := 172) C hnm (by decide) (by decide) rfl rfl fr_X7_62 dX7_init_172 ?_
  refine tn_aload_n (pc := 175) 0 C dX7_init_175 rfl rfl ?_
  refine tn_new (pc := 176) C (by decide) (by decide) rfl cls_5 kk_X7_66 in_5 it_5 (tn_dflt (fun j q hj h => by match j, hj with | 0, _ => exact rfl | 1, _ => exact rfl | 2, _ => exact rfl | 3, _ => exact rfl | 4, _ => exact rfl | 5, _ => exact rfl | 6, _ => exact rfl | 7, _ => exact nomatch (show some (none : Option Nat) = some (some q) from h) | n + 8, h => omega) (tn_up0 (by decide) (tn_up0 (by decide) (tn_up0 (by decide) (tn_up0 (by decide) (fun j => tn_0z (by decide) j))))) (fun j hj => by match j, hj with | 0, _ => exact ⟨_, rfl, rfl⟩ | 1, _ => exact ⟨_, rfl, rfl⟩ | 2, _ => exact ⟨_, rfl, rfl⟩ | 3, _ => exact ⟨_, rfl, rfl⟩ | 4, _ => exact ⟨_, rfl, rfl⟩ | 5, _ => exact ⟨_, rfl, rfl⟩ | 6, _ => exact ⟨_, rfl, rfl⟩ | 7, _ => exact ⟨_, rfl, rfl⟩ | n + 8, h => omega)) (by decide) (by decide) dX7_init_176 ?_
  refine tn_dup (pc := 179) C dX7_init_179 rfl ?_
  refine tn_callN (pc := 180) [] [.ref (E.2.1 35), .ref (E.2.1 0)] C (n5_init_35 E _ hE _ _ (fun a h1 h2 => (tn_up0 (by omega) (tn_up0 (by omega) (tn_up0 (by omega) (tn_up0 (by omega) (fun j => tn_0z (by omega) j))))))) ci_X7_68 (by decide) (by decide) (by decide) rfl (Nat.le_of_ble_eq_true rfl) rfl rfl rfl (by decide) (by decide) dX7_init_180 ?_
  refine tn_putr (pc := 183) C hnm (by decide) (by decide) rfl rfl fr_X7_69 dX7_init_183 ?_
  refine tn_aload_n (pc := 186) 0 C dX7_init_186 rfl rfl ?_
  refine tn_new (pc := 187) C (by decide) (by decide) rfl cls_0 kk_X7_57 in_0 it_0 (tn_dflt (fun j q hj h => by match j, hj with | 0, _ => exact rfl | 1, _ => exact rfl | 2, _ => exact rfl | 3, _ => exact rfl | 4, _ => exact rfl | 5, _ => exact rfl | 6, _ => exact nomatch (show some (none : Option Nat) = some (some q) from h) | n + 7, h => omega) (tn_up0 (by decide) (tn_up0 (by decide) (tn_up0 (by decide) (tn_up0 (by decide) (fun j => tn_0z (by decide) j))))) (fun j hj => by match j, hj with | 0, _ => exact ⟨_, rfl, rfl⟩ | 1, _ => exact ⟨_, rfl, rfl⟩ | 2, _ => exact ⟨_, rfl, rfl⟩ | 3, _ => exact ⟨_, rfl, rfl⟩ | 4, _ => exact ⟨_, rfl, rfl⟩ | 5, _ => exact ⟨_, rfl, rfl⟩ | 6, _ => exact ⟨_, rfl, rfl⟩ | n + 7, h => omega)) (by decide) (by decide) dX7_init_187 ?_
  refine tn_dup (pc := 190) C dX7_init_190 rfl ?_
  refine tn_aload_n (pc := 191) 0 C dX7_init_191 rfl rfl ?_
  refine tn_getr (pc := 192) (q := 23) C (by decide) rfl rfl rfl fl_X7_41 dX7_init_192 ?_
  refine tn_callI (pc := 195) [.ref (E.2.1 23)] [.ref (E.2.1 43), .ref (E.2.1 0)] C (n0_init_43 E _ hE _ _ (fun a h1 h2 => (tn_up0 (by omega) (tn_up0 (by omega) (tn_up0 (by omega) (tn_up0 (by omega) (fun j => tn_0z (by omega) j))))))) ci_X7_59 (by decide) (by decide) (by decide) rfl (Nat.le_of_ble_eq_true rfl) rfl rfl rfl (by decide) (by decide) dX7_init_195 ?_
  refine tn_putr (pc := 198) C hnm (by decide) (by decide) rfl rfl fr_X7_73 dX7_init_198 ?_
  refine tn_aload_n (pc := 201) 0 C dX7_init_201 rfl rfl ?_
  refine tn_new (pc := 202) C (by decide) (by decide) rfl cls_5 kk_X7_66 in_5 it_5 (tn_dflt (fun j q hj h => by match j, hj with | 0, _ => exact rfl | 1, _ => exact rfl | 2, _ => exact rfl | 3, _ => exact rfl | 4, _ => exact rfl | 5, _ => exact rfl | 6, _ => exact rfl | 7, _ => exact nomatch (show some (none : Option Nat) = some (some q) from h) | n + 8, h => omega) (tn_up0 (by decide) (tn_up0 (by decide) (tn_up0 (by decide) (tn_up0 (by decide) (fun j => tn_0z (by decide) j))))) (fun j hj => by match j, hj with | 0, _ => exact ⟨_, rfl, rfl⟩ | 1, _ => exact ⟨_, rfl, rfl⟩ | 2, _ => exact ⟨_, rfl, rfl⟩ | 3, _ => exact ⟨_, rfl, rfl⟩ | 4, _ => exact ⟨_, rfl, rfl⟩ | 5, _ => exact ⟨_, rfl, rfl⟩ | 6, _ => exact ⟨_, rfl, rfl⟩ | 7, _ => exact ⟨_, rfl, rfl⟩ | n + 8, h => omega)) (by decide) (by decide) dX7_init_202 ?_
  refine tn_dup (pc := 205) C dX7_init_205 rfl ?_
  refine tn_callN (pc := 206) [] [.ref (E.2.1 49), .ref (E.2.1 0)] C (n5_init_49 E _ hE _ _ (fun a h1 h2 => (tn_up0 (by omega) (tn_up0 (by omega) (tn_up0 (by omega) (tn_up0 (by omega) (fun j => tn_0z (by omega) j))))))) ci_X7_68 (by decide) (by decide) (by decide) rfl (Nat.le_of_ble_eq_true rfl) rfl rfl rfl (by decide) (by decide) dX7_init_206 ?_
  refine tn_putr (pc := 209) C hnm (by decide) (by decide) rfl rfl fr_X7_76 dX7_init_209 ?_
  refine tn_aload_n (pc := 212) 0 C dX7_init_212 rfl rfl ?_
  refine tn_new (pc := 213) C (by decide) (by decide) rfl cls_3 kk_X7_79 in_3 it_3 (tn_dflt (fun j q hj h => by match j, hj with | 0, _ => exact rfl | 1, _ => exact rfl | 2, _ => exact rfl | 3, _ => exact rfl | 4, _ => exact rfl | 5, _ => exact nomatch (show some (none : Option Nat) = some (some q) from h) | n + 6, h => omega) (tn_up0 (by decide) (tn_up0 (by decide) (tn_up0 (by decide) (tn_up0 (by decide) (fun j => tn_0z (by decide) j))))) (fun j hj => by match j, hj with | 0, _ => exact ⟨_, rfl, rfl⟩ | 1, _ => exact ⟨_, rfl, rfl⟩ | 2, _ => exact ⟨_, rfl, rfl⟩ | 3, _ => exact ⟨_, rfl, rfl⟩ | 4, _ => exact ⟨_, rfl, rfl⟩ | 5, _ => exact ⟨_, rfl, rfl⟩ | n + 6, h => omega)) (by decide) (by decide) dX7_init_213 ?_
  refine tn_dup (pc := 216) C dX7_init_216 rfl ?_
  refine tn_callI (pc := 217) [] [.ref (E.2.1 57), .ref (E.2.1 0)] C (n3_init E _ hE _ _ (fun a h1 h2 => (tn_up0 (by omega) (tn_up0 (by omega) (tn_up0 (by omega) (tn_up0 (by omega) (fun j => tn_0z (by omega) j)))))) (fun j => rfl)) ci_X7_81 (by decide) (by decide) (by decide) rfl (Nat.le_of_ble_eq_true rfl) rfl rfl rfl (by decide) (by decide) dX7_init_217 ?_
  refine tn_putr (pc := 220) C hnm (by decide) (by decide) rfl rfl fr_X7_82 dX7_init_220 ?_
  refine tn_aload_n (pc := 223) 0 C dX7_init_223 rfl rfl ?_
  refine tn_bipush (pc := 224) C dX7_init_224 (by decide) ?_
  refine tn_newl (pc := 226) C (by decide) (by decide) rfl (tn_up0 (by decide) (tn_up0 (by decide) (tn_up0 (by decide) (tn_up0 (by decide) (fun j => tn_0z (by decide) j))))) (by decide) (by decide) (by decide) dX7_init_226 ?_
  refine tn_putr (pc := 228) C hnm (by decide) (by decide) rfl rfl fr_X7_86 dX7_init_228 ?_
  refine tn_aload_n (pc := 231) 0 C dX7_init_231 rfl rfl ?_
  refine tn_sipush (pc := 232) C dX7_init_232 (by decide) ?_
  refine tn_newi (pc := 235) C (by decide) (by decide) rfl (tn_up0 (by decide) (tn_up0 (by decide) (tn_up0 (by decide) (tn_up0 (by decide) (fun j => tn_0z (by decide) j))))) (by decide) (by decide) (by decide) dX7_init_235 ?_
  refine tn_putr (pc := 237) C hnm (by decide) (by decide) rfl rfl fr_X7_90 dX7_init_237 ?_
  refine tn_aload_n (pc := 240) 0 C dX7_init_240 rfl rfl ?_
  refine tn_iconst (pc := 241) C dX7_init_241 ?_
  refine tn_puti (pc := 242) C (by decide) (by decide) rfl rfl fp_X7_93 dX7_init_242 ?_
  exact tn_vret C hret hlk dX7_init_245
def tn_LM (L : List (Nat × Nat)) : List (Nat × Nat) := (74, 43) :: (74, 42) :: (74, 41) :: (74, 40) :: (74, 39) :: (74, 38) :: (74, 37) :: (74, 36) :: (74, 34) :: (74, 33) :: (74, 32) :: (74, 31) :: (74, 30) :: (74, 29) :: (74, 28) :: (74, 18) :: (74, 14) :: (74, 13) :: (74, 11) :: (74, 9) :: (74, 8) :: (74, 7) :: (74, 6) :: (74, 5) :: (74, 3) :: (74, 1) :: (74, 0) :: L
def tn_3 (μ : tm_M) : tm_M := (tm_up (tm_up (tm_up (tm_up (tm_up μ 82 0 10) 82 1 4) 82 2 0) 82 3 2) 82 4 5)
theorem n8_init (E : tm_Ev) (l : Launch) (hE : ∀ k, k < 102 → E.2.1 k = E.2.2.2.2 + k) (μ : tm_M) (L : List (Nat × Nat)) (hz : ∀ a, 75 ≤ a → ∀ j, μ a j = 0) : tn_Met E l yX8_init cX8_init 1 1 27 1622 75 [.ref (E.2.1 74)] μ L 102 (tn_3 μ) (tn_LM L) := by
  refine tn_intro hE [(0, .ref (E.2.1 74))] rfl (by decide +kernel) rfl (Nat.le_of_ble_eq_true rfl) ?_
  intro X hX C hnm hret hlk
  subst hX
  refine tn_aload_n (pc := 0) 0 C dX8_init_0 rfl rfl ?_
  refine tn_obj (pc := 1) C oi_X8 oi_b oi_c (by decide) (Nat.le_of_ble_eq_true rfl) dX8_init_1 ?_
  refine tn_aload_n (pc := 4) 0 C dX8_init_4 rfl rfl ?_
  refine tn_iconst (pc := 5) C dX8_init_5 ?_
  refine tn_newi (pc := 6) C (by decide) (by decide) rfl (hz 75 (by decide)) (by decide) (by decide) (by decide) dX8_init_6 ?_
  refine tn_putr (pc := 8) C hnm (by decide) (by decide) rfl rfl fr_X8_7 dX8_init_8 ?_
  refine tn_aload_n (pc := 11) 0 C dX8_init_11 rfl rfl ?_
  refine tn_bipush (pc := 12) C dX8_init_12 (by decide) ?_
  refine tn_newi (pc := 14) C (by decide) (by decide) rfl (hz 76 (by decide)) (by decide) (by decide) (by decide) dX8_init_14 ?_
  refine tn_putr (pc := 16) C hnm (by decide) (by decide) rfl rfl fr_X8_13 dX8_init_16 ?_
  refine tn_aload_n (pc := 19) 0 C dX8_init_19 rfl rfl ?_
  refine tn_bipush (pc := 20) C dX8_init_20 (by decide) ?_
  refine tn_newi (pc := 22) C (by decide) (by decide) rfl (hz 77 (by decide)) (by decide) (by decide) (by decide) dX8_init_22 ?_
  refine tn_putr (pc := 24) C hnm (by decide) (by decide) rfl rfl fr_X8_16 dX8_init_24 ?_
  refine tn_aload_n (pc := 27) 0 C dX8_init_27 rfl rfl ?_
  refine tn_bipush (pc := 28) C dX8_init_28 (by decide) ?_
  refine tn_newi (pc := 30) C (by decide) (by decide) rfl (hz 78 (by decide)) (by decide) (by decide) (by decide) dX8_init_30 ?_
  refine tn_putr (pc := 32) C hnm (by decide) (by decide) rfl rfl fr_X8_19 dX8_init_32 ?_
  refine tn_aload_n (pc := 35) 0 C dX8_init_35 rfl rfl ?_
  refine tn_bipush (pc := 36) C dX8_init_36 (by decide) ?_
  refine tn_newi (pc := 38) C (by decide) (by decide) rfl (hz 79 (by decide)) (by decide) (by decide) (by decide) dX8_init_38 ?_
  refine tn_putr (pc := 40) C hnm (by decide) (by decide) rfl rfl fr_X8_22 dX8_init_40 ?_
  refine tn_aload_n (pc := 43) 0 C dX8_init_43 rfl rfl ?_
  refine tn_bipush (pc := 44) C dX8_init_44 (by decide) ?_
  refine tn_newi (pc := 46) C (by decide) (by decide) rfl (hz 80 (by decide)) (by decide) (by decide) (by decide) dX8_init_46 ?_
  refine tn_putr (pc := 48) C hnm (by decide) (by decide) rfl rfl fr_X8_25 dX8_init_48 ?_
  refine tn_aload_n (pc := 51) 0 C dX8_init_51 rfl rfl ?_
  refine tn_bipush (pc := 52) C dX8_init_52 (by decide) ?_
  refine tn_newi (pc := 54) C (by decide) (by decide) rfl (hz 81 (by decide)) (by decide) (by decide) (by decide) dX8_init_54 ?_
  refine tn_putr (pc := 56) C hnm (by decide) (by decide) rfl rfl fr_X8_28 dX8_init_56 ?_
  refine tn_aload_n (pc := 59) 0 C dX8_init_59 rfl rfl ?_
  refine tn_iconst (pc := 60) C dX8_init_60 ?_
  refine tn_newi (pc := 61) C (by decide) (by decide) rfl (hz 82 (by decide)) (by decide) (by decide) (by decide) dX8_init_61 ?_
  refine tn_putr (pc := 63) C hnm (by decide) (by decide) rfl rfl fr_X8_31 dX8_init_63 ?_
  refine tn_aload_n (pc := 66) 0 C dX8_init_66 rfl rfl ?_
  refine tn_bipush (pc := 67) C dX8_init_67 (by decide) ?_
  refine tn_newi (pc := 69) C (by decide) (by decide) rfl (hz 83 (by decide)) (by decide) (by decide) (by decide) dX8_init_69 ?_
  refine tn_putr (pc := 71) C hnm (by decide) (by decide) rfl rfl fr_X8_34 dX8_init_71 ?_
  refine tn_aload_n (pc := 74) 0 C dX8_init_74 rfl rfl ?_
  refine tn_bipush (pc := 75) C dX8_init_75 (by decide) ?_
  refine tn_newi (pc := 77) C (by decide) (by decide) rfl (hz 84 (by decide)) (by decide) (by decide) (by decide) dX8_init_77 ?_
  refine tn_putr (pc := 79) C hnm (by decide) (by decide) rfl rfl fr_X8_37 dX8_init_79 ?_
  refine tn_aload_n (pc := 82) 0 C dX8_init_82 rfl rfl ?_
  refine tn_bipush (pc := 83) C dX8_init_83 (by decide) ?_
  refine tn_newi (pc := 85) C (by decide) (by decide) rfl (hz 85 (by decide)) (by decide) (by decide) (by decide) dX8_init_85 ?_
  refine tn_putr (pc := 87) C hnm (by decide) (by decide) rfl rfl fr_X8_40 dX8_init_87 ?_
  refine tn_aload_n (pc := 90) 0 C dX8_init_90 rfl rfl ?_
  refine tn_bipush (pc := 91) C dX8_init_91 (by decide) ?_
  refine tn_newi (pc := 93) C (by decide) (by decide) rfl (hz 86 (by decide)) (by decide) (by decide) (by decide) dX8_init_93 ?_
  refine tn_putr (pc := 95) C hnm (by decide) (by decide) rfl rfl fr_X8_43 dX8_init_95 ?_
  refine tn_aload_n (pc := 98) 0 C dX8_init_98 rfl rfl ?_
  refine tn_bipush (pc := 99) C dX8_init_99 (by decide) ?_
  refine tn_newi (pc := 101) C (by decide) (by decide) rfl (hz 87 (by decide)) (by decide) (by decide) (by decide) dX8_init_101 ?_
  refine tn_putr (pc := 103) C hnm (by decide) (by decide) rfl rfl fr_X8_46 dX8_init_103 ?_
  refine tn_aload_n (pc := 106) 0 C dX8_init_106 rfl rfl ?_
  refine tn_bipush (pc := 107) C dX8_init_107 (by decide) ?_
  refine tn_newi (pc := 109) C (by decide) (by decide) rfl (hz 88 (by decide)) (by decide) (by decide) (by decide) dX8_init_109 ?_
  refine tn_putr (pc := 111) C hnm (by decide) (by decide) rfl rfl fr_X8_49 dX8_init_111 ?_
  refine tn_aload_n (pc := 114) 0 C dX8_init_114 rfl rfl ?_
  refine tn_bipush (pc := 115) C dX8_init_115 (by decide) ?_
  refine tn_newi (pc := 117) C (by decide) (by decide) rfl (hz 89 (by decide)) (by decide) (by decide) (by decide) dX8_init_117 ?_
  refine tn_putr (pc := 119) C hnm (by decide) (by decide) rfl rfl fr_X8_52 dX8_init_119 ?_
  refine tn_aload_n (pc := 122) 0 C dX8_init_122 rfl rfl ?_
  refine tn_bipush (pc := 123) C dX8_init_123 (by decide) ?_
  refine tn_newi (pc := 125) C (by decide) (by decide) rfl (hz 90 (by decide)) (by decide) (by decide) (by decide) dX8_init_125 ?_
  refine tn_putr (pc := 127) C hnm (by decide) (by decide) rfl rfl fr_X8_55 dX8_init_127 ?_
  refine tn_aload_n (pc := 130) 0 C dX8_init_130 rfl rfl ?_
  refine tn_bipush (pc := 131) C dX8_init_131 (by decide) ?_
  refine tn_newi (pc := 133) C (by decide) (by decide) rfl (hz 91 (by decide)) (by decide) (by decide) (by decide) dX8_init_133 ?_
  refine tn_putr (pc := 135) C hnm (by decide) (by decide) rfl rfl fr_X8_58 dX8_init_135 ?_
  refine tn_aload_n (pc := 138) 0 C dX8_init_138 rfl rfl ?_
  refine tn_bipush (pc := 139) C dX8_init_139 (by decide) ?_
  refine tn_newi (pc := 141) C (by decide) (by decide) rfl (hz 92 (by decide)) (by decide) (by decide) (by decide) dX8_init_141 ?_
  refine tn_putr (pc := 143) C hnm (by decide) (by decide) rfl rfl fr_X8_61 dX8_init_143 ?_
  refine tn_aload_n (pc := 146) 0 C dX8_init_146 rfl rfl ?_
  refine tn_bipush (pc := 147) C dX8_init_147 (by decide) ?_
  refine tn_newi (pc := 149) C (by decide) (by decide) rfl (hz 93 (by decide)) (by decide) (by decide) (by decide) dX8_init_149 ?_
  refine tn_putr (pc := 151) C hnm (by decide) (by decide) rfl rfl fr_X8_64 dX8_init_151 ?_
  refine tn_aload_n (pc := 154) 0 C dX8_init_154 rfl rfl ?_
  refine tn_bipush (pc := 155) C dX8_init_155 (by decide) ?_
  refine tn_newi (pc := 157) C (by decide) (by decide) rfl (hz 94 (by decide)) (by decide) (by decide) (by decide) dX8_init_157 ?_
  refine tn_putr (pc := 159) C hnm (by decide) (by decide) rfl rfl fr_X8_67 dX8_init_159 ?_
  refine tn_aload_n (pc := 162) 0 C dX8_init_162 rfl rfl ?_
  refine tn_bipush (pc := 163) C dX8_init_163 (by decide) ?_
  refine tn_newi (pc := 165) C (by decide) (by decide) rfl (hz 95 (by decide)) (by decide) (by decide) (by decide) dX8_init_165 ?_
  refine tn_putr (pc := 167) C hnm (by decide) (by decide) rfl rfl fr_X8_70 dX8_init_167 ?_
  refine tn_aload_n (pc := 170) 0 C dX8_init_170 rfl rfl ?_
  refine tn_sipush (pc := 171) C dX8_init_171 (by decide) ?_
  refine tn_newi (pc := 174) C (by decide) (by decide) rfl (hz 96 (by decide)) (by decide) (by decide) (by decide) dX8_init_174 ?_
  refine tn_putr (pc := 176) C hnm (by decide) (by decide) rfl rfl fr_X8_73 dX8_init_176 ?_
  refine tn_aload_n (pc := 179) 0 C dX8_init_179 rfl rfl ?_
  refine tn_iconst (pc := 180) C dX8_init_180 ?_
  refine tn_newz (pc := 181) C (by decide) (by decide) rfl (hz 97 (by decide)) (by decide) (by decide) (by decide) dX8_init_181 ?_
  refine tn_putr (pc := 183) C hnm (by decide) (by decide) rfl rfl fr_X8_76 dX8_init_183 ?_
  refine tn_aload_n (pc := 186) 0 C dX8_init_186 rfl rfl ?_
  refine tn_iconst (pc := 187) C dX8_init_187 ?_
  refine tn_newi (pc := 188) C (by decide) (by decide) rfl (hz 98 (by decide)) (by decide) (by decide) (by decide) dX8_init_188 ?_
  refine tn_putr (pc := 190) C hnm (by decide) (by decide) rfl rfl fr_X8_80 dX8_init_190 ?_
  refine tn_aload_n (pc := 193) 0 C dX8_init_193 rfl rfl ?_
  refine tn_iconst (pc := 194) C dX8_init_194 ?_
  refine tn_newi (pc := 195) C (by decide) (by decide) rfl (hz 99 (by decide)) (by decide) (by decide) (by decide) dX8_init_195 ?_
  refine tn_putr (pc := 197) C hnm (by decide) (by decide) rfl rfl fr_X8_83 dX8_init_197 ?_
  refine tn_aload_n (pc := 200) 0 C dX8_init_200 rfl rfl ?_
  refine tn_sipush (pc := 201) C dX8_init_201 (by decide) ?_
  refine tn_newi (pc := 204) C (by decide) (by decide) rfl (hz 100 (by decide)) (by decide) (by decide) (by decide) dX8_init_204 ?_
  refine tn_putr (pc := 206) C hnm (by decide) (by decide) rfl rfl fr_X8_86 dX8_init_206 ?_
  refine tn_aload_n (pc := 209) 0 C dX8_init_209 rfl rfl ?_
  refine tn_bipush (pc := 210) C dX8_init_210 (by decide) ?_
  refine tn_newi (pc := 212) C (by decide) (by decide) rfl (hz 101 (by decide)) (by decide) (by decide) (by decide) dX8_init_212 ?_
  refine tn_putr (pc := 214) C hnm (by decide) (by decide) rfl rfl fr_X8_89 dX8_init_214 ?_
  refine tn_aload_n (pc := 217) 0 C dX8_init_217 rfl rfl ?_
  refine tn_getr (pc := 218) (q := 82) C (by decide) rfl rfl rfl fl_X8_31 dX8_init_218 ?_
  refine tn_iconst (pc := 221) C dX8_init_221 ?_
  refine tn_bipush (pc := 222) C dX8_init_222 (by decide) ?_
  refine tn_iast (pc := 224) (j := 0) C (by decide) (by decide) rfl dX8_init_224 (by decide) rfl ?_
  refine tn_aload_n (pc := 225) 0 C dX8_init_225 rfl rfl ?_
  refine tn_getr (pc := 226) (q := 82) C (by decide) rfl rfl rfl fl_X8_31 dX8_init_226 ?_
  refine tn_iconst (pc := 229) C dX8_init_229 ?_
  refine tn_iconst (pc := 230) C dX8_init_230 ?_
  refine tn_iast (pc := 231) (j := 1) C (by decide) (by decide) rfl dX8_init_231 (by decide) rfl ?_
  refine tn_aload_n (pc := 232) 0 C dX8_init_232 rfl rfl ?_
  refine tn_getr (pc := 233) (q := 82) C (by decide) rfl rfl rfl fl_X8_31 dX8_init_233 ?_
  refine tn_iconst (pc := 236) C dX8_init_236 ?_
  refine tn_iconst (pc := 237) C dX8_init_237 ?_
  refine tn_iast (pc := 238) (j := 2) C (by decide) (by decide) rfl dX8_init_238 (by decide) rfl ?_
  refine tn_aload_n (pc := 239) 0 C dX8_init_239 rfl rfl ?_
  refine tn_getr (pc := 240) (q := 82) C (by decide) rfl rfl rfl fl_X8_31 dX8_init_240 ?_
  refine tn_iconst (pc := 243) C dX8_init_243 ?_
  refine tn_iconst (pc := 244) C dX8_init_244 ?_
  refine tn_iast (pc := 245) (j := 3) C (by decide) (by decide) rfl dX8_init_245 (by decide) rfl ?_
  refine tn_aload_n (pc := 246) 0 C dX8_init_246 rfl rfl ?_
  refine tn_getr (pc := 247) (q := 82) C (by decide) rfl rfl rfl fl_X8_31 dX8_init_247 ?_
  refine tn_iconst (pc := 250) C dX8_init_250 ?_
  refine tn_iconst (pc := 251) C dX8_init_251 ?_
  refine tn_iast (pc := 252) (j := 4) C (by decide) (by decide) rfl dX8_init_252 (by decide) rfl ?_
  exact tn_vret C hret hlk dX8_init_253
