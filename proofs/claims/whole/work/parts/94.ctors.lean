theorem n4_init (E : tm_Ev) (l : Launch) (hE : ∀ k, k < 102 → E.2.1 k = E.2.2.2.2 + k) (μ : tm_M) (L : List (Nat × Nat)) (n k : Nat) : tn_Met E l yX4_init cX4_init 1 1 0 0 n [.ref (E.2.1 k)] μ L n μ L := by
  refine tn_intro hE [(0, .ref (E.2.1 k))] rfl (by decide +kernel) rfl (Nat.le_of_ble_eq_true rfl) ?_
  intro X hX C hnm hret hlk
  subst hX
  refine tn_aload_n (pc := 0) 0 C dX4_init_0 rfl rfl ?_
  refine tn_obj (pc := 1) C oi_X4 oi_b oi_c (by decide) (Nat.le_of_ble_eq_true rfl) dX4_init_1 ?_
  exact tn_vret C hret hlk dX4_init_4
theorem n2_init_2 (E : tm_Ev) (l : Launch) (hE : ∀ k, k < 102 → E.2.1 k = E.2.2.2.2 + k) (μ : tm_M) (L : List (Nat × Nat)) (hz : ∀ a, 3 ≤ a → a < 4 → ∀ j, μ a j = 0) : tn_Met E l yX2_init cX2_init 2 1 1 40 3 [.ref (E.2.1 2), tm_i 40] μ L 4 μ ((2, 0) :: L) := by
  refine tn_intro hE [(0, .ref (E.2.1 2)), (1, tm_i 40)] rfl (by decide +kernel) rfl (Nat.le_of_ble_eq_true rfl) ?_
  intro X hX C hnm hret hlk
  subst hX
  refine tn_aload_n (pc := 0) 0 C dX2_init_0 rfl rfl ?_
  refine tn_obj (pc := 1) C oi_X2 oi_b oi_c (by decide) (Nat.le_of_ble_eq_true rfl) dX2_init_1 ?_
  refine tn_aload_n (pc := 4) 0 C dX2_init_4 rfl rfl ?_
  refine tn_iload_n (pc := 5) 1 C dX2_init_5 rfl rfl ?_
  refine tn_iconst (pc := 6) C dX2_init_6 ?_
  refine tn_mmax (pc := 7) C mx_X2_7 (by decide) (by decide) (by decide) (by decide) (by decide) dX2_init_7 (Nat.le_of_ble_eq_true rfl) ?_
  refine tn_newi (pc := 10) C (by decide) (by decide) rfl (hz 3 (by decide) (by decide)) (by decide) (by decide) (by decide) dX2_init_10 ?_
  refine tn_putr (pc := 12) C hnm (by decide) (by decide) rfl rfl fr_X2_13 dX2_init_12 ?_
  exact tn_vret C hret hlk dX2_init_15
theorem n2_init_4 (E : tm_Ev) (l : Launch) (hE : ∀ k, k < 102 → E.2.1 k = E.2.2.2.2 + k) (μ : tm_M) (L : List (Nat × Nat)) (hz : ∀ a, 5 ≤ a → a < 6 → ∀ j, μ a j = 0) : tn_Met E l yX2_init cX2_init 2 1 1 47 5 [.ref (E.2.1 4), tm_i 47] μ L 6 μ ((4, 0) :: L) := by
  refine tn_intro hE [(0, .ref (E.2.1 4)), (1, tm_i 47)] rfl (by decide +kernel) rfl (Nat.le_of_ble_eq_true rfl) ?_
  intro X hX C hnm hret hlk
  subst hX
  refine tn_aload_n (pc := 0) 0 C dX2_init_0 rfl rfl ?_
  refine tn_obj (pc := 1) C oi_X2 oi_b oi_c (by decide) (Nat.le_of_ble_eq_true rfl) dX2_init_1 ?_
  refine tn_aload_n (pc := 4) 0 C dX2_init_4 rfl rfl ?_
  refine tn_iload_n (pc := 5) 1 C dX2_init_5 rfl rfl ?_
  refine tn_iconst (pc := 6) C dX2_init_6 ?_
  refine tn_mmax (pc := 7) C mx_X2_7 (by decide) (by decide) (by decide) (by decide) (by decide) dX2_init_7 (Nat.le_of_ble_eq_true rfl) ?_
  refine tn_newi (pc := 10) C (by decide) (by decide) rfl (hz 5 (by decide) (by decide)) (by decide) (by decide) (by decide) dX2_init_10 ?_
  refine tn_putr (pc := 12) C hnm (by decide) (by decide) rfl rfl fr_X2_13 dX2_init_12 ?_
  exact tn_vret C hret hlk dX2_init_15
theorem n2_init_6 (E : tm_Ev) (l : Launch) (hE : ∀ k, k < 102 → E.2.1 k = E.2.2.2.2 + k) (μ : tm_M) (L : List (Nat × Nat)) (hz : ∀ a, 7 ≤ a → a < 8 → ∀ j, μ a j = 0) : tn_Met E l yX2_init cX2_init 2 1 1 6 7 [.ref (E.2.1 6), tm_i 6] μ L 8 μ ((6, 0) :: L) := by
  refine tn_intro hE [(0, .ref (E.2.1 6)), (1, tm_i 6)] rfl (by decide +kernel) rfl (Nat.le_of_ble_eq_true rfl) ?_
  intro X hX C hnm hret hlk
  subst hX
  refine tn_aload_n (pc := 0) 0 C dX2_init_0 rfl rfl ?_
  refine tn_obj (pc := 1) C oi_X2 oi_b oi_c (by decide) (Nat.le_of_ble_eq_true rfl) dX2_init_1 ?_
  refine tn_aload_n (pc := 4) 0 C dX2_init_4 rfl rfl ?_
  refine tn_iload_n (pc := 5) 1 C dX2_init_5 rfl rfl ?_
  refine tn_iconst (pc := 6) C dX2_init_6 ?_
  refine tn_mmax (pc := 7) C mx_X2_7 (by decide) (by decide) (by decide) (by decide) (by decide) dX2_init_7 (Nat.le_of_ble_eq_true rfl) ?_
  refine tn_newi (pc := 10) C (by decide) (by decide) rfl (hz 7 (by decide) (by decide)) (by decide) (by decide) (by decide) dX2_init_10 ?_
  refine tn_putr (pc := 12) C hnm (by decide) (by decide) rfl rfl fr_X2_13 dX2_init_12 ?_
  exact tn_vret C hret hlk dX2_init_15
theorem n2_init_8 (E : tm_Ev) (l : Launch) (hE : ∀ k, k < 102 → E.2.1 k = E.2.2.2.2 + k) (μ : tm_M) (L : List (Nat × Nat)) (hz : ∀ a, 9 ≤ a → a < 10 → ∀ j, μ a j = 0) : tn_Met E l yX2_init cX2_init 2 1 1 6 9 [.ref (E.2.1 8), tm_i 6] μ L 10 μ ((8, 0) :: L) := by
  refine tn_intro hE [(0, .ref (E.2.1 8)), (1, tm_i 6)] rfl (by decide +kernel) rfl (Nat.le_of_ble_eq_true rfl) ?_
  intro X hX C hnm hret hlk
  subst hX
  refine tn_aload_n (pc := 0) 0 C dX2_init_0 rfl rfl ?_
  refine tn_obj (pc := 1) C oi_X2 oi_b oi_c (by decide) (Nat.le_of_ble_eq_true rfl) dX2_init_1 ?_
  refine tn_aload_n (pc := 4) 0 C dX2_init_4 rfl rfl ?_
  refine tn_iload_n (pc := 5) 1 C dX2_init_5 rfl rfl ?_
  refine tn_iconst (pc := 6) C dX2_init_6 ?_
  refine tn_mmax (pc := 7) C mx_X2_7 (by decide) (by decide) (by decide) (by decide) (by decide) dX2_init_7 (Nat.le_of_ble_eq_true rfl) ?_
  refine tn_newi (pc := 10) C (by decide) (by decide) rfl (hz 9 (by decide) (by decide)) (by decide) (by decide) (by decide) dX2_init_10 ?_
  refine tn_putr (pc := 12) C hnm (by decide) (by decide) rfl rfl fr_X2_13 dX2_init_12 ?_
  exact tn_vret C hret hlk dX2_init_15
theorem n2_init_10 (E : tm_Ev) (l : Launch) (hE : ∀ k, k < 102 → E.2.1 k = E.2.2.2.2 + k) (μ : tm_M) (L : List (Nat × Nat)) (hz : ∀ a, 11 ≤ a → a < 12 → ∀ j, μ a j = 0) : tn_Met E l yX2_init cX2_init 2 1 1 8 11 [.ref (E.2.1 10), tm_i 8] μ L 12 μ ((10, 0) :: L) := by
  refine tn_intro hE [(0, .ref (E.2.1 10)), (1, tm_i 8)] rfl (by decide +kernel) rfl (Nat.le_of_ble_eq_true rfl) ?_
  intro X hX C hnm hret hlk
  subst hX
  refine tn_aload_n (pc := 0) 0 C dX2_init_0 rfl rfl ?_
  refine tn_obj (pc := 1) C oi_X2 oi_b oi_c (by decide) (Nat.le_of_ble_eq_true rfl) dX2_init_1 ?_
  refine tn_aload_n (pc := 4) 0 C dX2_init_4 rfl rfl ?_
  refine tn_iload_n (pc := 5) 1 C dX2_init_5 rfl rfl ?_
  refine tn_iconst (pc := 6) C dX2_init_6 ?_
  refine tn_mmax (pc := 7) C mx_X2_7 (by decide) (by decide) (by decide) (by decide) (by decide) dX2_init_7 (Nat.le_of_ble_eq_true rfl) ?_
  refine tn_newi (pc := 10) C (by decide) (by decide) rfl (hz 11 (by decide) (by decide)) (by decide) (by decide) (by decide) dX2_init_10 ?_
  refine tn_putr (pc := 12) C hnm (by decide) (by decide) rfl rfl fr_X2_13 dX2_init_12 ?_
  exact tn_vret C hret hlk dX2_init_15
theorem n2_init_12 (E : tm_Ev) (l : Launch) (hE : ∀ k, k < 102 → E.2.1 k = E.2.2.2.2 + k) (μ : tm_M) (L : List (Nat × Nat)) (hz : ∀ a, 13 ≤ a → a < 14 → ∀ j, μ a j = 0) : tn_Met E l yX2_init cX2_init 2 1 1 8 13 [.ref (E.2.1 12), tm_i 8] μ L 14 μ ((12, 0) :: L) := by
  refine tn_intro hE [(0, .ref (E.2.1 12)), (1, tm_i 8)] rfl (by decide +kernel) rfl (Nat.le_of_ble_eq_true rfl) ?_
  intro X hX C hnm hret hlk
  subst hX
  refine tn_aload_n (pc := 0) 0 C dX2_init_0 rfl rfl ?_
  refine tn_obj (pc := 1) C oi_X2 oi_b oi_c (by decide) (Nat.le_of_ble_eq_true rfl) dX2_init_1 ?_
  refine tn_aload_n (pc := 4) 0 C dX2_init_4 rfl rfl ?_
  refine tn_iload_n (pc := 5) 1 C dX2_init_5 rfl rfl ?_
  refine tn_iconst (pc := 6) C dX2_init_6 ?_
  refine tn_mmax (pc := 7) C mx_X2_7 (by decide) (by decide) (by decide) (by decide) (by decide) dX2_init_7 (Nat.le_of_ble_eq_true rfl) ?_
  refine tn_newi (pc := 10) C (by decide) (by decide) rfl (hz 13 (by decide) (by decide)) (by decide) (by decide) (by decide) dX2_init_10 ?_
  refine tn_putr (pc := 12) C hnm (by decide) (by decide) rfl rfl fr_X2_13 dX2_init_12 ?_
  exact tn_vret C hret hlk dX2_init_15
theorem n6_init_15 (E : tm_Ev) (l : Launch) (hE : ∀ k, k < 102 → E.2.1 k = E.2.2.2.2 + k) (μ : tm_M) (L : List (Nat × Nat)) (hz : ∀ a, 16 ≤ a → a < 17 → ∀ j, μ a j = 0) : tn_Met E l yX6_init cX6_init 1 1 1 60 16 [.ref (E.2.1 15)] μ L 17 (tm_up μ 15 1 (-1)) ((15, 0) :: L) := by
  refine tn_intro hE [(0, .ref (E.2.1 15))] rfl (by decide +kernel) rfl (Nat.le_of_ble_eq_true rfl) ?_
  intro X hX C hnm hret hlk
  subst hX
  refine tn_aload_n (pc := 0) 0 C dX6_init_0 rfl rfl ?_
  refine tn_obj (pc := 1) C oi_X6 oi_b oi_c (by decide) (Nat.le_of_ble_eq_true rfl) dX6_init_1 ?_
  refine tn_aload_n (pc := 4) 0 C dX6_init_4 rfl rfl ?_
  refine tn_bipush (pc := 5) C dX6_init_5 (by decide) ?_
  refine tn_newi (pc := 7) C (by decide) (by decide) rfl (hz 16 (by decide) (by decide)) (by decide) (by decide) (by decide) dX6_init_7 ?_
  refine tn_putr (pc := 9) C hnm (by decide) (by decide) rfl rfl fr_X6_9 dX6_init_9 ?_
  refine tn_aload_n (pc := 12) 0 C dX6_init_12 rfl rfl ?_
  refine tn_iconst (pc := 13) C dX6_init_13 ?_
  refine tn_puti (pc := 14) C (by decide) (by decide) rfl rfl fp_X6_15 dX6_init_14 ?_
  exact tn_vret C hret hlk dX6_init_17
theorem n6_init_17 (E : tm_Ev) (l : Launch) (hE : ∀ k, k < 102 → E.2.1 k = E.2.2.2.2 + k) (μ : tm_M) (L : List (Nat × Nat)) (hz : ∀ a, 18 ≤ a → a < 19 → ∀ j, μ a j = 0) : tn_Met E l yX6_init cX6_init 1 1 1 60 18 [.ref (E.2.1 17)] μ L 19 (tm_up μ 17 1 (-1)) ((17, 0) :: L) := by
  refine tn_intro hE [(0, .ref (E.2.1 17))] rfl (by decide +kernel) rfl (Nat.le_of_ble_eq_true rfl) ?_
  intro X hX C hnm hret hlk
  subst hX
  refine tn_aload_n (pc := 0) 0 C dX6_init_0 rfl rfl ?_
  refine tn_obj (pc := 1) C oi_X6 oi_b oi_c (by decide) (Nat.le_of_ble_eq_true rfl) dX6_init_1 ?_
  refine tn_aload_n (pc := 4) 0 C dX6_init_4 rfl rfl ?_
  refine tn_bipush (pc := 5) C dX6_init_5 (by decide) ?_
  refine tn_newi (pc := 7) C (by decide) (by decide) rfl (hz 18 (by decide) (by decide)) (by decide) (by decide) (by decide) dX6_init_7 ?_
  refine tn_putr (pc := 9) C hnm (by decide) (by decide) rfl rfl fr_X6_9 dX6_init_9 ?_
  refine tn_aload_n (pc := 12) 0 C dX6_init_12 rfl rfl ?_
  refine tn_iconst (pc := 13) C dX6_init_13 ?_
  refine tn_puti (pc := 14) C (by decide) (by decide) rfl rfl fp_X6_15 dX6_init_14 ?_
  exact tn_vret C hret hlk dX6_init_17
theorem n6_init_19 (E : tm_Ev) (l : Launch) (hE : ∀ k, k < 102 → E.2.1 k = E.2.2.2.2 + k) (μ : tm_M) (L : List (Nat × Nat)) (hz : ∀ a, 20 ≤ a → a < 21 → ∀ j, μ a j = 0) : tn_Met E l yX6_init cX6_init 1 1 1 60 20 [.ref (E.2.1 19)] μ L 21 (tm_up μ 19 1 (-1)) ((19, 0) :: L) := by
  refine tn_intro hE [(0, .ref (E.2.1 19))] rfl (by decide +kernel) rfl (Nat.le_of_ble_eq_true rfl) ?_
  intro X hX C hnm hret hlk
  subst hX
  refine tn_aload_n (pc := 0) 0 C dX6_init_0 rfl rfl ?_
  refine tn_obj (pc := 1) C oi_X6 oi_b oi_c (by decide) (Nat.le_of_ble_eq_true rfl) dX6_init_1 ?_
  refine tn_aload_n (pc := 4) 0 C dX6_init_4 rfl rfl ?_
  refine tn_bipush (pc := 5) C dX6_init_5 (by decide) ?_
  refine tn_newi (pc := 7) C (by decide) (by decide) rfl (hz 20 (by decide) (by decide)) (by decide) (by decide) (by decide) dX6_init_7 ?_
  refine tn_putr (pc := 9) C hnm (by decide) (by decide) rfl rfl fr_X6_9 dX6_init_9 ?_
  refine tn_aload_n (pc := 12) 0 C dX6_init_12 rfl rfl ?_
  refine tn_iconst (pc := 13) C dX6_init_13 ?_
  refine tn_puti (pc := 14) C (by decide) (by decide) rfl rfl fp_X6_15 dX6_init_14 ?_
  exact tn_vret C hret hlk dX6_init_17
theorem n6_init_21 (E : tm_Ev) (l : Launch) (hE : ∀ k, k < 102 → E.2.1 k = E.2.2.2.2 + k) (μ : tm_M) (L : List (Nat × Nat)) (hz : ∀ a, 22 ≤ a → a < 23 → ∀ j, μ a j = 0) : tn_Met E l yX6_init cX6_init 1 1 1 60 22 [.ref (E.2.1 21)] μ L 23 (tm_up μ 21 1 (-1)) ((21, 0) :: L) := by
  refine tn_intro hE [(0, .ref (E.2.1 21))] rfl (by decide +kernel) rfl (Nat.le_of_ble_eq_true rfl) ?_
  intro X hX C hnm hret hlk
  subst hX
  refine tn_aload_n (pc := 0) 0 C dX6_init_0 rfl rfl ?_
  refine tn_obj (pc := 1) C oi_X6 oi_b oi_c (by decide) (Nat.le_of_ble_eq_true rfl) dX6_init_1 ?_
  refine tn_aload_n (pc := 4) 0 C dX6_init_4 rfl rfl ?_
  refine tn_bipush (pc := 5) C dX6_init_5 (by decide) ?_
  refine tn_newi (pc := 7) C (by decide) (by decide) rfl (hz 22 (by decide) (by decide)) (by decide) (by decide) (by decide) dX6_init_7 ?_
  refine tn_putr (pc := 9) C hnm (by decide) (by decide) rfl rfl fr_X6_9 dX6_init_9 ?_
  refine tn_aload_n (pc := 12) 0 C dX6_init_12 rfl rfl ?_
  refine tn_iconst (pc := 13) C dX6_init_13 ?_
  refine tn_puti (pc := 14) C (by decide) (by decide) rfl rfl fp_X6_15 dX6_init_14 ?_
  exact tn_vret C hret hlk dX6_init_17
theorem n1_init (E : tm_Ev) (l : Launch) (hE : ∀ k, k < 102 → E.2.1 k = E.2.2.2.2 + k) (μ : tm_M) (L : List (Nat × Nat)) (hz : ∀ a, 24 ≤ a → a < 28 → ∀ j, μ a j = 0) : tn_Met E l yX1_init cX1_init 1 1 4 32 24 [.ref (E.2.1 23)] μ L 28 μ ((23, 3) :: (23, 2) :: (23, 1) :: (23, 0) :: L) := by
  refine tn_intro hE [(0, .ref (E.2.1 23))] rfl (by decide +kernel) rfl (Nat.le_of_ble_eq_true rfl) ?_
  intro X hX C hnm hret hlk
  subst hX
  refine tn_aload_n (pc := 0) 0 C dX1_init_0 rfl rfl ?_
  refine tn_obj (pc := 1) C oi_X1 oi_b oi_c (by decide) (Nat.le_of_ble_eq_true rfl) dX1_init_1 ?_
  refine tn_aload_n (pc := 4) 0 C dX1_init_4 rfl rfl ?_
  refine tn_bipush (pc := 5) C dX1_init_5 (by decide) ?_
  refine tn_newi (pc := 7) C (by decide) (by decide) rfl (hz 24 (by decide) (by decide)) (by decide) (by decide) (by decide) dX1_init_7 ?_
  refine tn_putr (pc := 9) C hnm (by decide) (by decide) rfl rfl fr_X1_9 dX1_init_9 ?_
  refine tn_aload_n (pc := 12) 0 C dX1_init_12 rfl rfl ?_
  refine tn_bipush (pc := 13) C dX1_init_13 (by decide) ?_
  refine tn_newi (pc := 15) C (by decide) (by decide) rfl (hz 25 (by decide) (by decide)) (by decide) (by decide) (by decide) dX1_init_15 ?_
  refine tn_putr (pc := 17) C hnm (by decide) (by decide) rfl rfl fr_X1_15 dX1_init_17 ?_
  refine tn_aload_n (pc := 20) 0 C dX1_init_20 rfl rfl ?_
  refine tn_bipush (pc := 21) C dX1_init_21 (by decide) ?_
  refine tn_newi (pc := 23) C (by decide) (by decide) rfl (hz 26 (by decide) (by decide)) (by decide) (by decide) (by decide) dX1_init_23 ?_
  refine tn_putr (pc := 25) C hnm (by decide) (by decide) rfl rfl fr_X1_18 dX1_init_25 ?_
  refine tn_aload_n (pc := 28) 0 C dX1_init_28 rfl rfl ?_
  refine tn_bipush (pc := 29) C dX1_init_29 (by decide) ?_
  refine tn_newi (pc := 31) C (by decide) (by decide) rfl (hz 27 (by decide) (by decide)) (by decide) (by decide) (by decide) dX1_init_31 ?_
  refine tn_putr (pc := 33) C hnm (by decide) (by decide) rfl rfl fr_X1_21 dX1_init_33 ?_
  exact tn_vret C hret hlk dX1_init_36
theorem n0_init_29 (E : tm_Ev) (l : Launch) (hE : ∀ k, k < 102 → E.2.1 k = E.2.2.2.2 + k) (μ : tm_M) (L : List (Nat × Nat)) (hz : ∀ a, 30 ≤ a → a < 35 → ∀ j, μ a j = 0) : tn_Met E l yX0_init cX0_init 2 1 5 133 30 [.ref (E.2.1 29), .ref (E.2.1 23)] μ L 35 μ ((29, 0) :: (29, 5) :: (29, 4) :: (29, 3) :: (29, 2) :: (29, 1) :: L) := by
  refine tn_intro hE [(0, .ref (E.2.1 29)), (1, .ref (E.2.1 23))] rfl (by decide +kernel) rfl (Nat.le_of_ble_eq_true rfl) ?_
  intro X hX C hnm hret hlk
  subst hX
  refine tn_aload_n (pc := 0) 0 C dX0_init_0 rfl rfl ?_
  refine tn_obj (pc := 1) C oi_X0 oi_b oi_c (by decide) (Nat.le_of_ble_eq_true rfl) dX0_init_1 ?_
  refine tn_aload_n (pc := 4) 0 C dX0_init_4 rfl rfl ?_
  refine tn_iconst (pc := 5) C dX0_init_5 ?_
  refine tn_newi (pc := 6) C (by decide) (by decide) rfl (hz 30 (by decide) (by decide)) (by decide) (by decide) (by decide) dX0_init_6 ?_
  refine tn_putr (pc := 8) C hnm (by decide) (by decide) rfl rfl fr_X0_9 dX0_init_8 ?_
  refine tn_aload_n (pc := 11) 0 C dX0_init_11 rfl rfl ?_
  refine tn_bipush (pc := 12) C dX0_init_12 (by decide) ?_
  refine tn_newi (pc := 14) C (by decide) (by decide) rfl (hz 31 (by decide) (by decide)) (by decide) (by decide) (by decide) dX0_init_14 ?_
  refine tn_putr (pc := 16) C hnm (by decide) (by decide) rfl rfl fr_X0_15 dX0_init_16 ?_
  refine tn_aload_n (pc := 19) 0 C dX0_init_19 rfl rfl ?_
  refine tn_bipush (pc := 20) C dX0_init_20 (by decide) ?_
  refine tn_newi (pc := 22) C (by decide) (by decide) rfl (hz 32 (by decide) (by decide)) (by decide) (by decide) (by decide) dX0_init_22 ?_
  refine tn_putr (pc := 24) C hnm (by decide) (by decide) rfl rfl fr_X0_18 dX0_init_24 ?_
  refine tn_aload_n (pc := 27) 0 C dX0_init_27 rfl rfl ?_
  refine tn_bipush (pc := 28) C dX0_init_28 (by decide) ?_
  refine tn_newi (pc := 30) C (by decide) (by decide) rfl (hz 33 (by decide) (by decide)) (by decide) (by decide) (by decide) dX0_init_30 ?_
  refine tn_putr (pc := 32) C hnm (by decide) (by decide) rfl rfl fr_X0_21 dX0_init_32 ?_
  refine tn_aload_n (pc := 35) 0 C dX0_init_35 rfl rfl ?_
  refine tn_bipush (pc := 36) C dX0_init_36 (by decide) ?_
  refine tn_newi (pc := 38) C (by decide) (by decide) rfl (hz 34 (by decide) (by decide)) (by decide) (by decide) (by decide) dX0_init_38 ?_
  refine tn_putr (pc := 40) C hnm (by decide) (by decide) rfl rfl fr_X0_24 dX0_init_40 ?_
  refine tn_aload_n (pc := 43) 0 C dX0_init_43 rfl rfl ?_
  refine tn_aload_n (pc := 44) 1 C dX0_init_44 rfl rfl ?_
  refine tn_putr (pc := 45) C hnm (by decide) (by decide) rfl rfl fr_X0_27 dX0_init_45 ?_
  exact tn_vret C hret hlk dX0_init_48
theorem n0_init_43 (E : tm_Ev) (l : Launch) (hE : ∀ k, k < 102 → E.2.1 k = E.2.2.2.2 + k) (μ : tm_M) (L : List (Nat × Nat)) (hz : ∀ a, 44 ≤ a → a < 49 → ∀ j, μ a j = 0) : tn_Met E l yX0_init cX0_init 2 1 5 133 44 [.ref (E.2.1 43), .ref (E.2.1 23)] μ L 49 μ ((43, 0) :: (43, 5) :: (43, 4) :: (43, 3) :: (43, 2) :: (43, 1) :: L) := by
  refine tn_intro hE [(0, .ref (E.2.1 43)), (1, .ref (E.2.1 23))] rfl (by decide +kernel) rfl (Nat.le_of_ble_eq_true rfl) ?_
  intro X hX C hnm hret hlk
  subst hX
  refine tn_aload_n (pc := 0) 0 C dX0_init_0 rfl rfl ?_
  refine tn_obj (pc := 1) C oi_X0 oi_b oi_c (by decide) (Nat.le_of_ble_eq_true rfl) dX0_init_1 ?_
  refine tn_aload_n (pc := 4) 0 C dX0_init_4 rfl rfl ?_
  refine tn_iconst (pc := 5) C dX0_init_5 ?_
  refine tn_newi (pc := 6) C (by decide) (by decide) rfl (hz 44 (by decide) (by decide)) (by decide) (by decide) (by decide) dX0_init_6 ?_
  refine tn_putr (pc := 8) C hnm (by decide) (by decide) rfl rfl fr_X0_9 dX0_init_8 ?_
  refine tn_aload_n (pc := 11) 0 C dX0_init_11 rfl rfl ?_
  refine tn_bipush (pc := 12) C dX0_init_12 (by decide) ?_
  refine tn_newi (pc := 14) C (by decide) (by decide) rfl (hz 45 (by decide) (by decide)) (by decide) (by decide) (by decide) dX0_init_14 ?_
  refine tn_putr (pc := 16) C hnm (by decide) (by decide) rfl rfl fr_X0_15 dX0_init_16 ?_
  refine tn_aload_n (pc := 19) 0 C dX0_init_19 rfl rfl ?_
  refine tn_bipush (pc := 20) C dX0_init_20 (by decide) ?_
  refine tn_newi (pc := 22) C (by decide) (by decide) rfl (hz 46 (by decide) (by decide)) (by decide) (by decide) (by decide) dX0_init_22 ?_
  refine tn_putr (pc := 24) C hnm (by decide) (by decide) rfl rfl fr_X0_18 dX0_init_24 ?_
  refine tn_aload_n (pc := 27) 0 C dX0_init_27 rfl rfl ?_
  refine tn_bipush (pc := 28) C dX0_init_28 (by decide) ?_
  refine tn_newi (pc := 30) C (by decide) (by decide) rfl (hz 47 (by decide) (by decide)) (by decide) (by decide) (by decide) dX0_init_30 ?_
  refine tn_putr (pc := 32) C hnm (by decide) (by decide) rfl rfl fr_X0_21 dX0_init_32 ?_
  refine tn_aload_n (pc := 35) 0 C dX0_init_35 rfl rfl ?_
  refine tn_bipush (pc := 36) C dX0_init_36 (by decide) ?_
  refine tn_newi (pc := 38) C (by decide) (by decide) rfl (hz 48 (by decide) (by decide)) (by decide) (by decide) (by decide) dX0_init_38 ?_
  refine tn_putr (pc := 40) C hnm (by decide) (by decide) rfl rfl fr_X0_24 dX0_init_40 ?_
  refine tn_aload_n (pc := 43) 0 C dX0_init_43 rfl rfl ?_
  refine tn_aload_n (pc := 44) 1 C dX0_init_44 rfl rfl ?_
  refine tn_putr (pc := 45) C hnm (by decide) (by decide) rfl rfl fr_X0_27 dX0_init_45 ?_
  exact tn_vret C hret hlk dX0_init_48
theorem n5_init_35 (E : tm_Ev) (l : Launch) (hE : ∀ k, k < 102 → E.2.1 k = E.2.2.2.2 + k) (μ : tm_M) (L : List (Nat × Nat)) (hz : ∀ a, 36 ≤ a → a < 43 → ∀ j, μ a j = 0) : tn_Met E l yX5_init cX5_init 1 2 7 212 36 [.ref (E.2.1 35)] μ L 43 μ ((35, 6) :: (35, 5) :: (35, 4) :: (35, 3) :: (35, 2) :: (35, 1) :: (35, 0) :: L) := by
  refine tn_intro hE [(0, .ref (E.2.1 35))] rfl (by decide +kernel) rfl (Nat.le_of_ble_eq_true rfl) ?_
  intro X hX C hnm hret hlk
  subst hX
  refine tn_aload_n (pc := 0) 0 C dX5_init_0 rfl rfl ?_
  refine tn_obj (pc := 1) C oi_X5 oi_b oi_c (by decide) (Nat.le_of_ble_eq_true rfl) dX5_init_1 ?_
  refine tn_aload_n (pc := 4) 0 C dX5_init_4 rfl rfl ?_
  refine tn_new (pc := 5) C (by decide) (by decide) rfl cls_4 kk_X5_9 in_4 it_4 (tn_dflt (fun j q hj h => by match j, hj with | 0, _ => exact nomatch (show some (none : Option Nat) = some (some q) from h) | 1, _ => exact nomatch (show some (none : Option Nat) = some (some q) from h) | 2, _ => exact nomatch (show some (none : Option Nat) = some (some q) from h) | 3, _ => exact nomatch (show some (none : Option Nat) = some (some q) from h) | n + 4, h => omega) (hz 36 (by decide) (by decide)) (fun j hj => by match j, hj with | 0, _ => exact ⟨_, rfl, rfl⟩ | 1, _ => exact ⟨_, rfl, rfl⟩ | 2, _ => exact ⟨_, rfl, rfl⟩ | 3, _ => exact ⟨_, rfl, rfl⟩ | n + 4, h => omega)) (by decide) (by decide) dX5_init_5 ?_
  refine tn_dup (pc := 8) C dX5_init_8 rfl ?_
  refine tn_callN (pc := 9) [] [.ref (E.2.1 36), .ref (E.2.1 35)] C (n4_init E _ hE _ _ _ _) ci_X5_11 (by decide) (by decide) (by decide) rfl (Nat.le_of_ble_eq_true rfl) rfl rfl rfl (by decide) (by decide) dX5_init_9 ?_
  refine tn_putr (pc := 12) C hnm (by decide) (by decide) rfl rfl fr_X5_12 dX5_init_12 ?_
  refine tn_aload_n (pc := 15) 0 C dX5_init_15 rfl rfl ?_
  refine tn_bipush (pc := 16) C dX5_init_16 (by decide) ?_
  refine tn_newi (pc := 18) C (by decide) (by decide) rfl (hz 37 (by decide) (by decide)) (by decide) (by decide) (by decide) dX5_init_18 ?_
  refine tn_putr (pc := 20) C hnm (by decide) (by decide) rfl rfl fr_X5_18 dX5_init_20 ?_
  refine tn_aload_n (pc := 23) 0 C dX5_init_23 rfl rfl ?_
  refine tn_bipush (pc := 24) C dX5_init_24 (by decide) ?_
  refine tn_newi (pc := 26) C (by decide) (by decide) rfl (hz 38 (by decide) (by decide)) (by decide) (by decide) (by decide) dX5_init_26 ?_
  refine tn_putr (pc := 28) C hnm (by decide) (by decide) rfl rfl fr_X5_22 dX5_init_28 ?_
  refine tn_aload_n (pc := 31) 0 C dX5_init_31 rfl rfl ?_
  refine tn_bipush (pc := 32) C dX5_init_32 (by decide) ?_
  refine tn_newi (pc := 34) C (by decide) (by decide) rfl (hz 39 (by decide) (by decide)) (by decide) (by decide) (by decide) dX5_init_34 ?_
  refine tn_putr (pc := 36) C hnm (by decide) (by decide) rfl rfl fr_X5_25 dX5_init_36 ?_
  refine tn_aload_n (pc := 39) 0 C dX5_init_39 rfl rfl ?_
  refine tn_bipush (pc := 40) C dX5_init_40 (by decide) ?_
  refine tn_newi (pc := 42) C (by decide) (by decide) rfl (hz 40 (by decide) (by decide)) (by decide) (by decide) (by decide) dX5_init_42 ?_
  refine tn_putr (pc := 44) C hnm (by decide) (by decide) rfl rfl fr_X5_28 dX5_init_44 ?_
  refine tn_aload_n (pc := 47) 0 C dX5_init_47 rfl rfl ?_
  refine tn_bipush (pc := 48) C dX5_init_48 (by decide) ?_
  refine tn_newi (pc := 50) C (by decide) (by decide) rfl (hz 41 (by decide) (by decide)) (by decide) (by decide) (by decide) dX5_init_50 ?_
  refine tn_putr (pc := 52) C hnm (by decide) (by decide) rfl rfl fr_X5_31 dX5_init_52 ?_
  refine tn_aload_n (pc := 55) 0 C dX5_init_55 rfl rfl ?_
  refine tn_bipush (pc := 56) C dX5_init_56 (by decide) ?_
  refine tn_newi (pc := 58) C (by decide) (by decide) rfl (hz 42 (by decide) (by decide)) (by decide) (by decide) (by decide) dX5_init_58 ?_
  refine tn_putr (pc := 60) C hnm (by decide) (by decide) rfl rfl fr_X5_34 dX5_init_60 ?_
  exact tn_vret C hret hlk dX5_init_63
theorem n5_init_49 (E : tm_Ev) (l : Launch) (hE : ∀ k, k < 102 → E.2.1 k = E.2.2.2.2 + k) (μ : tm_M) (L : List (Nat × Nat)) (hz : ∀ a, 50 ≤ a → a < 57 → ∀ j, μ a j = 0) : tn_Met E l yX5_init cX5_init 1 2 7 212 50 [.ref (E.2.1 49)] μ L 57 μ ((49, 6) :: (49, 5) :: (49, 4) :: (49, 3) :: (49, 2) :: (49, 1) :: (49, 0) :: L) := by
  refine tn_intro hE [(0, .ref (E.2.1 49))] rfl (by decide +kernel) rfl (Nat.le_of_ble_eq_true rfl) ?_
  intro X hX C hnm hret hlk
  subst hX
  refine tn_aload_n (pc := 0) 0 C dX5_init_0 rfl rfl ?_
  refine tn_obj (pc := 1) C oi_X5 oi_b oi_c (by decide) (Nat.le_of_ble_eq_true rfl) dX5_init_1 ?_
  refine tn_aload_n (pc := 4) 0 C dX5_init_4 rfl rfl ?_
  refine tn_new (pc := 5) C (by decide) (by decide) rfl cls_4 kk_X5_9 in_4 it_4 (tn_dflt (fun j q hj h => by match j, hj with | 0, _ => exact nomatch (show some (none : Option Nat) = some (some q) from h) | 1, _ => exact nomatch (show some (none : Option Nat) = some (some q) from h) | 2, _ => exact nomatch (show some (none : Option Nat) = some (some q) from h) | 3, _ => exact nomatch (show some (none : Option Nat) = some (some q) from h) | n + 4, h => omega) (hz 50 (by decide) (by decide)) (fun j hj => by match j, hj with | 0, _ => exact ⟨_, rfl, rfl⟩ | 1, _ => exact ⟨_, rfl, rfl⟩ | 2, _ => exact ⟨_, rfl, rfl⟩ | 3, _ => exact ⟨_, rfl, rfl⟩ | n + 4, h => omega)) (by decide) (by decide) dX5_init_5 ?_
  refine tn_dup (pc := 8) C dX5_init_8 rfl ?_
  refine tn_callN (pc := 9) [] [.ref (E.2.1 50), .ref (E.2.1 49)] C (n4_init E _ hE _ _ _ _) ci_X5_11 (by decide) (by decide) (by decide) rfl (Nat.le_of_ble_eq_true rfl) rfl rfl rfl (by decide) (by decide) dX5_init_9 ?_
  refine tn_putr (pc := 12) C hnm (by decide) (by decide) rfl rfl fr_X5_12 dX5_init_12 ?_
  refine tn_aload_n (pc := 15) 0 C dX5_init_15 rfl rfl ?_
  refine tn_bipush (pc := 16) C dX5_init_16 (by decide) ?_
  refine tn_newi (pc := 18) C (by decide) (by decide) rfl (hz 51 (by decide) (by decide)) (by decide) (by decide) (by decide) dX5_init_18 ?_
  refine tn_putr (pc := 20) C hnm (by decide) (by decide) rfl rfl fr_X5_18 dX5_init_20 ?_
  refine tn_aload_n (pc := 23) 0 C dX5_init_23 rfl rfl ?_
  refine tn_bipush (pc := 24) C dX5_init_24 (by decide) ?_
  refine tn_newi (pc := 26) C (by decide) (by decide) rfl (hz 52 (by decide) (by decide)) (by decide) (by decide) (by decide) dX5_init_26 ?_
  refine tn_putr (pc := 28) C hnm (by decide) (by decide) rfl rfl fr_X5_22 dX5_init_28 ?_
  refine tn_aload_n (pc := 31) 0 C dX5_init_31 rfl rfl ?_
  refine tn_bipush (pc := 32) C dX5_init_32 (by decide) ?_
  refine tn_newi (pc := 34) C (by decide) (by decide) rfl (hz 53 (by decide) (by decide)) (by decide) (by decide) (by decide) dX5_init_34 ?_
  refine tn_putr (pc := 36) C hnm (by decide) (by decide) rfl rfl fr_X5_25 dX5_init_36 ?_
  refine tn_aload_n (pc := 39) 0 C dX5_init_39 rfl rfl ?_
  refine tn_bipush (pc := 40) C dX5_init_40 (by decide) ?_
  refine tn_newi (pc := 42) C (by decide) (by decide) rfl (hz 54 (by decide) (by decide)) (by decide) (by decide) (by decide) dX5_init_42 ?_
  refine tn_putr (pc := 44) C hnm (by decide) (by decide) rfl rfl fr_X5_28 dX5_init_44 ?_
  refine tn_aload_n (pc := 47) 0 C dX5_init_47 rfl rfl ?_
  refine tn_bipush (pc := 48) C dX5_init_48 (by decide) ?_
  refine tn_newi (pc := 50) C (by decide) (by decide) rfl (hz 55 (by decide) (by decide)) (by decide) (by decide) (by decide) dX5_init_50 ?_
  refine tn_putr (pc := 52) C hnm (by decide) (by decide) rfl rfl fr_X5_31 dX5_init_52 ?_
  refine tn_aload_n (pc := 55) 0 C dX5_init_55 rfl rfl ?_
  refine tn_bipush (pc := 56) C dX5_init_56 (by decide) ?_
  refine tn_newi (pc := 58) C (by decide) (by decide) rfl (hz 56 (by decide) (by decide)) (by decide) (by decide) (by decide) dX5_init_58 ?_
  refine tn_putr (pc := 60) C hnm (by decide) (by decide) rfl rfl fr_X5_34 dX5_init_60 ?_
  exact tn_vret C hret hlk dX5_init_63
