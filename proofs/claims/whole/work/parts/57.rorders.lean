theorem sp_of_bad {f : Nat → Int} {n i : Nat} (h : ∀ j, j < i → ok_o f j = true) (hi : i < n) (hb : ¬ ok_o f i = true) : sp_of f n = (i : Int) := by
  unfold sp_of
  rcases fi_spec (ok := ok_o f) n 0 with ⟨h1, h2⟩ | ⟨j, h1, h2, h3, h4, h5⟩
  · exact absurd (h2 i (by omega) (by omega)) hb
  · have : j = i := by
      rcases Nat.lt_trichotomy j i with q | q | q
      · exact absurd (h j q) h4
      · exact q
      · exact absurd (h5 i (by omega) q) hb
    subst this
    rw [h3, if_neg (by omega)]
theorem sp_of_end {f : Nat → Int} {n : Nat} (h : ∀ j, j < n → ok_o f j = true) : sp_of f n = if n = 0 ∨ n % 6 = 5 then -1 else (n : Int) := by
  unfold sp_of
  rcases fi_spec (ok := ok_o f) n 0 with ⟨h1, h2⟩ | ⟨j, h1, h2, h3, h4, h5⟩
  · rw [if_pos h1]
  · exact absurd (h j (by omega)) h4
theorem ok_o_at {f : Nat → Int} {n a : Nat} (ha : a < 6) : ok_o f (6 * n + a) = sp_fit (f (6 * n + a)) a := by
  unfold ok_o
  rw [show (6 * n + a) % 6 = a by omega]
theorem rg_same {μ ν : tm_M} (e5 : ν 75 = μ 75) (e6 : ν 76 = μ 76) (n : Nat) : rg_n ν n = rg_n μ n := by
  have e : rg_w ν n = rg_w μ n := by
    funext q
    unfold rg_w
    rw [rb_same e5 e6]
  unfold rg_n
  rw [e]
/-- where the text ends or goes wrong within the order n -/
theorem rg_of {μ : tm_M} {n : Nat} (hs : 0 ≤ μ 75 1 ∧ μ 75 1 ≤ 47) (hok : ∀ j, j < 6 * n → ok_o (fun j => μ 76 (47 + j)) j = true) (hn : ((6 * n : Nat) : Int) ≤ μ 75 1) (h0 : 0 < μ 75 1) (h : rg_n μ n < 5) : sp_of (fun j => μ 76 (47 + j)) (μ 75 1).toNat = ((6 * n : Nat) : Int) + rg_n μ n := by
  obtain ⟨q, hq, he, hp, hc⟩ := rg_lt h
  rw [he]
  have hok2 : ∀ j, j < 6 * n + q → ok_o (fun j => μ 76 (47 + j)) j = true := by
    intro j hj
    by_cases hj2 : j < 6 * n
    · exact hok j hj2
    · obtain ⟨a, rfl⟩ : ∃ a, j = 6 * n + a := ⟨j - 6 * n, by omega⟩
      rw [ok_o_at (by omega)]
      exact (hp a (by omega)).2
  rcases hc with hc | ⟨hc, hb⟩
  · have hN : (μ 75 1).toNat = 6 * n + q := by
      rcases Nat.eq_zero_or_pos q with z | z
      · subst z; omega
      · have := (hp (q - 1) (by omega)).1; omega
    rw [sp_of_end (by rw [hN]; exact hok2), hN, if_neg (by omega)]
    omega
  · rw [sp_of_bad hok2 (by omega) (by rw [ok_o_at (by omega)]; exact hb)]
    omega
theorem rg_ok5 {μ : tm_M} {n : Nat} (hok : ∀ j, j < 6 * n → ok_o (fun j => μ 76 (47 + j)) j = true) (h : rg_n μ n = 5) : (∀ j, j < 6 * n + 5 → ok_o (fun j => μ 76 (47 + j)) j = true) ∧ ((6 * n + 4 : Nat) : Int) < μ 75 1 := by
  have g := rg_5 h
  refine ⟨fun j hj => ?_, (g 4 (by omega)).1⟩
  by_cases hj2 : j < 6 * n
  · exact hok j hj2
  · obtain ⟨a, rfl⟩ : ∃ a, j = 6 * n + a := ⟨j - 6 * n, by omega⟩
    rw [ok_o_at (by omega)]
    exact (g a (by omega)).2.2
def rr_o (μ M : tm_M) (n : Nat) : Prop := M 74 4 = 0 ∧ (∀ b, b ≠ 4 → M 74 b = μ 74 b) ∧ (∀ a, a ≠ 74 → (a < 78 ∨ 81 < a) → M a = μ a) ∧ ∀ k, k < n → M 78 k = od_g (fun j => μ 76 (47 + j)) k ∧ M 79 k = od_s (fun j => μ 76 (47 + j)) k ∧ M 80 k = od_d (fun j => μ 76 (47 + j)) k ∧ M 81 k = od_p (fun j => μ 76 (47 + j)) k
theorem rr_o_s {μ M : tm_M} {n : Nat} (h : rr_o μ M n) : rr_o μ (tm_up (tm_up (tm_up (tm_up M 78 n (od_g (fun j => M 76 (47 + j)) n)) 79 n (od_s (fun j => M 76 (47 + j)) n)) 80 n (od_d (fun j => M 76 (47 + j)) n)) 81 n (od_p (fun j => M 76 (47 + j)) n)) (n + 1) := by
  obtain ⟨h1, h2, h3, h4⟩ := h
  have e : (fun j => M 76 (47 + j)) = (fun j => μ 76 (47 + j)) := by rw [h3 76 (by omega) (by omega)]
  rw [e]
  refine ⟨?_, fun b hb => ?_, fun a ha hb => ?_, fun k hk => ?_⟩
  · rw [tm_uk (by decide), tm_uk (by decide), tm_uk (by decide), tm_uk (by decide)]; exact h1
  · rw [tm_uk (by decide), tm_uk (by decide), tm_uk (by decide), tm_uk (by decide)]; exact h2 b hb
  · rw [tm_uf (by omega), tm_uf (by omega), tm_uf (by omega), tm_uf (by omega)]; exact h3 a ha hb
  · by_cases hkn : k = n
    · subst hkn
      refine ⟨?_, ?_, ?_, ?_⟩
      · rw [tm_uk (by decide), tm_uk (by decide), tm_uk (by decide), tm_us]
      · rw [tm_uk (by decide), tm_uk (by decide), tm_us]
      · rw [tm_uk (by decide), tm_us]
      · rw [tm_us]
    · simp only [tm_uj hkn]
      exact h4 k (by omega)
set_option maxHeartbeats 2000000 in
theorem l_readsOrders {E : tm_Ev} {X : tm_X} (C : tm_C E X yX8_readsOrders.cls cX8_readsOrders 4 (some .int) 3) (μ : tm_M) (hs : 0 ≤ μ 75 1 ∧ μ 75 1 ≤ 47) (hby : ∀ j : Nat, (j : Int) < μ 75 1 → 0 ≤ μ 76 (47 + j) ∧ μ 76 (47 + j) ≤ 255) (post : Option Value → tm_M → Prop) (hpost : ∀ (z : Int) (μ' : tm_M), z = sp_of (fun j => μ 76 (47 + j)) (μ 75 1).toNat → μ' 74 4 = (sp_no (fun j => μ 76 (47 + j)) (μ 75 1).toNat : Int) → (∀ b, b ≠ 4 → μ' 74 b = μ 74 b) → (∀ a, a ≠ 74 → (a < 78 ∨ 81 < a) → μ' a = μ a) → (∀ k, k < sp_no (fun j => μ 76 (47 + j)) (μ 75 1).toNat → μ' 78 k = od_g (fun j => μ 76 (47 + j)) k ∧ μ' 79 k = od_s (fun j => μ 76 (47 + j)) k ∧ μ' 80 k = od_d (fun j => μ 76 (47 + j)) k ∧ μ' 81 k = od_p (fun j => μ 76 (47 + j)) k) → post (some (tm_i z)) μ') : ∀ (f n : Nat) (x1 x2 : Int) (M : tm_M), x1 = n → x2 = ((6 * n : Nat) : Int) → 9 - n < f → rr_o μ M n → (∀ j, j < 6 * n → ok_o (fun j => μ 76 (47 + j)) j = true) → ((6 * n : Nat) : Int) ≤ μ 75 1 → tm_V E X (tm_Q E X post) 4 9 [(2, tm_i x2), (1, tm_i x1), (0, .ref (E.2.1 74))] [] M := by
  intro f
  induction f with
  | zero => intro n x1 x2 M hx1 hx2 hf ro hok hn; omega
  | succ f ih =>
    intro n x1 x2 M hx1 hx2 hf ro hok hn
    have r75 : M 75 = μ 75 := ro.2.2.1 75 (by omega) (by omega)
    have r76 : M 76 = μ 76 := ro.2.2.1 76 (by omega) (by omega)
    refine tv_iload_n (pc := 9) 0 C dX8_readsOrders_9 rfl rfl ?_
    refine tv_aload_n (pc := 10) 2 C dX8_readsOrders_10 rfl rfl ?_
    refine tv_getr (pc := 11) (q := 75) C rfl rfl fl_X8_7 dX8_readsOrders_11 ?_
    refine tv_iconst (pc := 14) C dX8_readsOrders_14 ?_
    refine tv_iald (pc := 15) (j := 1) (z := μ 75 1) C rfl dX8_readsOrders_15 (by omega) rfl (by rw [r75]) ?_
    refine tv_icmp_lt (pc := 16) 23 C dX8_readsOrders_16 (by decide) (by omega) (by omega) (fun h16 => ?_) (fun h16 => ?_)
    · skip
      refine tv_aload_n (pc := 23) 2 C dX8_readsOrders_23 rfl rfl ?_
      refine tv_iload_n (pc := 24) 1 C dX8_readsOrders_24 rfl rfl ?_
      refine tv_iload_n (pc := 25) 0 C dX8_readsOrders_25 rfl rfl ?_
      refine tv_callV (pc := 26) [tm_i x1, tm_i x2] [] C (c8_readsOrder E _ M (by rw [r75]; exact hs) (by rw [r75, r76]; exact hby) n (by omega) _ _ hx1 hx2) cv_X8_117 rfl rfl (by decide) rfl (Nat.le_of_ble_eq_true rfl) rfl dX8_readsOrders_26 (tm_ki ?_)
      rintro zg M' ⟨hzg, hA, hB⟩
      rw [rg_same r75 r76] at hzg hA hB
      have hgb := rg_bd μ n
      rcases (show rg_n μ n = 5 ∨ rg_n μ n < 5 by omega) with hc | hc
      · skip
        obtain rfl := hA hc
        have k5 := rg_ok5 hok hc
        have ro2 := rr_o_s ro
        refine tv_istore_n (pc := 29) [(3, tm_i zg), (2, tm_i x2), (1, tm_i x1), (0, .ref (E.2.1 74))] C dX8_readsOrders_29 rfl (by decide) rfl ?_
        refine tv_iload_n (pc := 30) 0 C dX8_readsOrders_30 rfl rfl ?_
        refine tv_iconst (pc := 31) C dX8_readsOrders_31 ?_
        refine tv_icmp_ge (pc := 32) 39 C dX8_readsOrders_32 (by decide) (by omega) (by omega) (fun h32 => ?_) (fun h32 => ?_)
        · skip
          refine tv_iinc (pc := 39) 2 [(1, tm_i (x1 + 1)), (3, tm_i zg), (2, tm_i x2), (0, .ref (E.2.1 74))] C dX8_readsOrders_39 rfl (by decide) rfl ?_
          refine tv_iinc (pc := 42) 2 [(2, tm_i (x2 + 5)), (1, tm_i (x1 + 1)), (3, tm_i zg), (0, .ref (E.2.1 74))] C dX8_readsOrders_42 rfl (by decide) rfl ?_
          refine tv_iload_n (pc := 45) 0 C dX8_readsOrders_45 rfl rfl ?_
          refine tv_aload_n (pc := 46) 3 C dX8_readsOrders_46 rfl rfl ?_
          refine tv_getr (pc := 47) (q := 75) C rfl rfl fl_X8_7 dX8_readsOrders_47 ?_
          refine tv_iconst (pc := 50) C dX8_readsOrders_50 ?_
          refine tv_iald (pc := 51) (j := 1) (z := μ 75 1) C rfl dX8_readsOrders_51 (by omega) rfl ((tm_uk (by decide)).trans ((tm_uk (by decide)).trans ((tm_uk (by decide)).trans ((tm_uk (by decide)).trans ((by rw [r75])))))) ?_
          refine tv_icmp_ne (pc := 52) 62 C dX8_readsOrders_52 (by decide) (by omega) (by omega) (fun h52 => ?_) (fun h52 => ?_)
          · skip
            refine tv_aload_n (pc := 62) 3 C dX8_readsOrders_62 rfl rfl ?_
            refine tv_iload_n (pc := 63) 0 C dX8_readsOrders_63 rfl rfl ?_
            refine tv_callV (pc := 64) [tm_i (x2 + 5)] [] C (c8_byteAt2 E _ (tm_up (tm_up (tm_up (tm_up M 78 n (od_g (fun j => M 76 (47 + j)) n)) 79 n (od_s (fun j => M 76 (47 + j)) n)) 80 n (od_d (fun j => M 76 (47 + j)) n)) 81 n (od_p (fun j => M 76 (47 + j)) n)) μ (by rw [tm_uf (by decide), tm_uf (by decide), tm_uf (by decide), tm_uf (by decide), r75]) (by rw [tm_uf (by decide), tm_uf (by decide), tm_uf (by decide), tm_uf (by decide), r76]) hs hby (6 * n + 5) _ (by omega) (by omega)) cv_X8_106 rfl rfl (by decide) rfl (Nat.le_of_ble_eq_true rfl) rfl dX8_readsOrders_64 (tm_kp ?_)
            refine tv_bipush (pc := 67) C dX8_readsOrders_67 (by decide) ?_
            have hrb0 := rb_bd hby (6 * n + 5)
            refine tv_icmp_eq (pc := 69) 74 C dX8_readsOrders_69 (by decide) (by omega) (by omega) (fun h69 => ?_) (fun h69 => ?_)
            · skip
              refine tv_iinc (pc := 74) 0 [(2, tm_i ((x2 + 5) + 1)), (1, tm_i (x1 + 1)), (3, tm_i zg), (0, .ref (E.2.1 74))] C dX8_readsOrders_74 rfl (by decide) rfl ?_
              refine tv_goto (pc := 77) 9 C dX8_readsOrders_77 (by decide) ?_
              refine tv_sub (lv1 := [(2, tm_i ((x2 + 5) + 1)), (1, tm_i (x1 + 1)), (0, .ref (E.2.1 74))]) [0, 1, 3] rfl ?_
              have hrb := rb_bd hby (6 * n + 5)
              have hlt : ((6 * n + 5 : Nat) : Int) < μ 75 1 := by omega
              have hrb2 : rb_b μ (6 * n + 5) = μ 76 (47 + (6 * n + 5)) := by unfold rb_b; rw [if_pos hlt]
              refine ih (n + 1) _ _ _ (by omega) (by omega) (by omega) ro2 (fun j hj => ?_) (by omega)
              by_cases hj2 : j < 6 * n + 5
              · exact k5.1 j hj2
              · have hj3 : j = 6 * n + 5 := by omega
                subst hj3
                rw [ok_o_at (by omega)]
                simp only [sp_fit, decide_eq_true_eq]
                omega
            · skip
              refine tv_iload_n (pc := 72) 0 C dX8_readsOrders_72 rfl rfl ?_
              refine tv_iret (pc := 73) C dX8_readsOrders_73 ?_
              have hrb : rb_b μ (6 * n + 5) = μ 76 (47 + (6 * n + 5)) := by unfold rb_b; rw [if_pos (by omega)]
              have e : sp_of (fun j => μ 76 (47 + j)) (μ 75 1).toNat = ((6 * n + 5 : Nat) : Int) := sp_of_bad k5.1 (by omega) (by rw [ok_o_at (by omega)]; simp only [sp_fit, decide_eq_true_eq]; omega)
              refine hpost _ _ (by rw [e]; omega) ?_ ro2.2.1 ro2.2.2.1 (fun k hk => ?_)
              · rw [ro2.1]; unfold sp_no; rw [if_neg (by omega)]; rfl
              · exfalso; unfold sp_no at hk; rw [if_neg (by omega)] at hk; omega
          · skip
            refine tv_aload_n (pc := 55) 3 C dX8_readsOrders_55 rfl rfl ?_
            refine tv_iload_n (pc := 56) 1 C dX8_readsOrders_56 rfl rfl ?_
            refine tv_puti (pc := 57) C rfl rfl fp_X8_114 dX8_readsOrders_57 ?_
            refine tv_iconst (pc := 60) C dX8_readsOrders_60 ?_
            refine tv_iret (pc := 61) C dX8_readsOrders_61 ?_
            have hN : (μ 75 1).toNat = 6 * n + 5 := by omega
            have e : sp_of (fun j => μ 76 (47 + j)) (μ 75 1).toNat = -1 := by rw [sp_of_end (by rw [hN]; exact k5.1), if_pos (by omega)]
            have en : sp_no (fun j => μ 76 (47 + j)) (μ 75 1).toNat = n + 1 := by unfold sp_no; rw [if_pos e]; omega
            refine hpost _ _ e.symm ?_ (fun b hb => ?_) (fun a h1 h2 => ?_) (fun k hk => ?_)
            · rw [en, tm_us]; omega
            · rw [tm_uj hb]; exact ro2.2.1 b hb
            · rw [tm_uf h1]; exact ro2.2.2.1 a h1 h2
            · rw [en] at hk
              simp only [tm_uk (show (78 : Nat) ≠ 74 by decide), tm_uk (show (79 : Nat) ≠ 74 by decide), tm_uk (show (80 : Nat) ≠ 74 by decide), tm_uk (show (81 : Nat) ≠ 74 by decide)]
              exact ro2.2.2.2 k hk
        · skip
          exfalso; omega
      · skip
        have hq := (hB (by omega)).symm
        subst hq
        refine tv_istore_n (pc := 29) [(3, tm_i zg), (2, tm_i x2), (1, tm_i x1), (0, .ref (E.2.1 74))] C dX8_readsOrders_29 rfl (by decide) rfl ?_
        refine tv_iload_n (pc := 30) 0 C dX8_readsOrders_30 rfl rfl ?_
        refine tv_iconst (pc := 31) C dX8_readsOrders_31 ?_
        refine tv_icmp_ge (pc := 32) 39 C dX8_readsOrders_32 (by decide) (by omega) (by omega) (fun h32 => ?_) (fun h32 => ?_)
        · skip
          exfalso; omega
        · skip
          refine tv_iload_n (pc := 35) 1 C dX8_readsOrders_35 rfl rfl ?_
          refine tv_iload_n (pc := 36) 0 C dX8_readsOrders_36 rfl rfl ?_
          refine tv_iadd (pc := 37) C dX8_readsOrders_37 ?_
          refine tv_iret (pc := 38) C dX8_readsOrders_38 ?_
          have e := rg_of hs hok (by omega) (by omega) hc
          refine hpost _ M (by rw [e]; omega) ?_ ro.2.1 ro.2.2.1 (fun k hk => ?_)
          · rw [ro.1]; unfold sp_no; rw [if_neg (by omega)]; rfl
          · exfalso; unfold sp_no at hk; rw [if_neg (by omega)] at hk; omega
    · skip
      refine tv_iload_n (pc := 19) 0 C dX8_readsOrders_19 rfl rfl ?_
      refine tv_if_le (pc := 20) 80 C dX8_readsOrders_20 (by decide) (by omega) (fun h20 => ?_) (fun h20 => ?_)
      · skip
        refine tv_iconst (pc := 80) C dX8_readsOrders_80 ?_
        refine tv_iret (pc := 81) C dX8_readsOrders_81 ?_
        have hN : (μ 75 1).toNat = 0 := by omega
        have e : sp_of (fun j => μ 76 (47 + j)) (μ 75 1).toNat = -1 := by rw [hN]; rfl
        refine hpost _ M e.symm ?_ ro.2.1 ro.2.2.1 (fun k hk => ?_)
        · rw [ro.1]; unfold sp_no; rw [if_pos e, hN]; rfl
        · exfalso; unfold sp_no at hk; rw [if_pos e, hN] at hk; omega
      · skip
        refine tv_aload_n (pc := 23) 2 C dX8_readsOrders_23 rfl rfl ?_
        refine tv_iload_n (pc := 24) 1 C dX8_readsOrders_24 rfl rfl ?_
        refine tv_iload_n (pc := 25) 0 C dX8_readsOrders_25 rfl rfl ?_
        refine tv_callV (pc := 26) [tm_i x1, tm_i x2] [] C (c8_readsOrder E _ M (by rw [r75]; exact hs) (by rw [r75, r76]; exact hby) n (by omega) _ _ hx1 hx2) cv_X8_117 rfl rfl (by decide) rfl (Nat.le_of_ble_eq_true rfl) rfl dX8_readsOrders_26 (tm_ki ?_)
        rintro zg M' ⟨hzg, hA, hB⟩
        rw [rg_same r75 r76] at hzg hA hB
        have hgb := rg_bd μ n
        rcases (show rg_n μ n = 5 ∨ rg_n μ n < 5 by omega) with hc | hc
        · skip
          obtain rfl := hA hc
          have k5 := rg_ok5 hok hc
          have ro2 := rr_o_s ro
          refine tv_istore_n (pc := 29) [(3, tm_i zg), (2, tm_i x2), (1, tm_i x1), (0, .ref (E.2.1 74))] C dX8_readsOrders_29 rfl (by decide) rfl ?_
          refine tv_iload_n (pc := 30) 0 C dX8_readsOrders_30 rfl rfl ?_
          refine tv_iconst (pc := 31) C dX8_readsOrders_31 ?_
          refine tv_icmp_ge (pc := 32) 39 C dX8_readsOrders_32 (by decide) (by omega) (by omega) (fun h32 => ?_) (fun h32 => ?_)
          · skip
            refine tv_iinc (pc := 39) 2 [(1, tm_i (x1 + 1)), (3, tm_i zg), (2, tm_i x2), (0, .ref (E.2.1 74))] C dX8_readsOrders_39 rfl (by decide) rfl ?_
            refine tv_iinc (pc := 42) 2 [(2, tm_i (x2 + 5)), (1, tm_i (x1 + 1)), (3, tm_i zg), (0, .ref (E.2.1 74))] C dX8_readsOrders_42 rfl (by decide) rfl ?_
            refine tv_iload_n (pc := 45) 0 C dX8_readsOrders_45 rfl rfl ?_
            refine tv_aload_n (pc := 46) 3 C dX8_readsOrders_46 rfl rfl ?_
            refine tv_getr (pc := 47) (q := 75) C rfl rfl fl_X8_7 dX8_readsOrders_47 ?_
            refine tv_iconst (pc := 50) C dX8_readsOrders_50 ?_
            refine tv_iald (pc := 51) (j := 1) (z := μ 75 1) C rfl dX8_readsOrders_51 (by omega) rfl ((tm_uk (by decide)).trans ((tm_uk (by decide)).trans ((tm_uk (by decide)).trans ((tm_uk (by decide)).trans ((by rw [r75])))))) ?_
            refine tv_icmp_ne (pc := 52) 62 C dX8_readsOrders_52 (by decide) (by omega) (by omega) (fun h52 => ?_) (fun h52 => ?_)
            · skip
              refine tv_aload_n (pc := 62) 3 C dX8_readsOrders_62 rfl rfl ?_
              refine tv_iload_n (pc := 63) 0 C dX8_readsOrders_63 rfl rfl ?_
              refine tv_callV (pc := 64) [tm_i (x2 + 5)] [] C (c8_byteAt2 E _ (tm_up (tm_up (tm_up (tm_up M 78 n (od_g (fun j => M 76 (47 + j)) n)) 79 n (od_s (fun j => M 76 (47 + j)) n)) 80 n (od_d (fun j => M 76 (47 + j)) n)) 81 n (od_p (fun j => M 76 (47 + j)) n)) μ (by rw [tm_uf (by decide), tm_uf (by decide), tm_uf (by decide), tm_uf (by decide), r75]) (by rw [tm_uf (by decide), tm_uf (by decide), tm_uf (by decide), tm_uf (by decide), r76]) hs hby (6 * n + 5) _ (by omega) (by omega)) cv_X8_106 rfl rfl (by decide) rfl (Nat.le_of_ble_eq_true rfl) rfl dX8_readsOrders_64 (tm_kp ?_)
              refine tv_bipush (pc := 67) C dX8_readsOrders_67 (by decide) ?_
              have hrb0 := rb_bd hby (6 * n + 5)
              refine tv_icmp_eq (pc := 69) 74 C dX8_readsOrders_69 (by decide) (by omega) (by omega) (fun h69 => ?_) (fun h69 => ?_)
              · skip
                refine tv_iinc (pc := 74) 0 [(2, tm_i ((x2 + 5) + 1)), (1, tm_i (x1 + 1)), (3, tm_i zg), (0, .ref (E.2.1 74))] C dX8_readsOrders_74 rfl (by decide) rfl ?_
                refine tv_goto (pc := 77) 9 C dX8_readsOrders_77 (by decide) ?_
                refine tv_sub (lv1 := [(2, tm_i ((x2 + 5) + 1)), (1, tm_i (x1 + 1)), (0, .ref (E.2.1 74))]) [0, 1, 3] rfl ?_
                have hrb := rb_bd hby (6 * n + 5)
                have hlt : ((6 * n + 5 : Nat) : Int) < μ 75 1 := by omega
                have hrb2 : rb_b μ (6 * n + 5) = μ 76 (47 + (6 * n + 5)) := by unfold rb_b; rw [if_pos hlt]
                refine ih (n + 1) _ _ _ (by omega) (by omega) (by omega) ro2 (fun j hj => ?_) (by omega)
                by_cases hj2 : j < 6 * n + 5
                · exact k5.1 j hj2
                · have hj3 : j = 6 * n + 5 := by omega
                  subst hj3
                  rw [ok_o_at (by omega)]
                  simp only [sp_fit, decide_eq_true_eq]
                  omega
              · skip
                refine tv_iload_n (pc := 72) 0 C dX8_readsOrders_72 rfl rfl ?_
                refine tv_iret (pc := 73) C dX8_readsOrders_73 ?_
                have hrb : rb_b μ (6 * n + 5) = μ 76 (47 + (6 * n + 5)) := by unfold rb_b; rw [if_pos (by omega)]
                have e : sp_of (fun j => μ 76 (47 + j)) (μ 75 1).toNat = ((6 * n + 5 : Nat) : Int) := sp_of_bad k5.1 (by omega) (by rw [ok_o_at (by omega)]; simp only [sp_fit, decide_eq_true_eq]; omega)
                refine hpost _ _ (by rw [e]; omega) ?_ ro2.2.1 ro2.2.2.1 (fun k hk => ?_)
                · rw [ro2.1]; unfold sp_no; rw [if_neg (by omega)]; rfl
                · exfalso; unfold sp_no at hk; rw [if_neg (by omega)] at hk; omega
            · skip
              refine tv_aload_n (pc := 55) 3 C dX8_readsOrders_55 rfl rfl ?_
              refine tv_iload_n (pc := 56) 1 C dX8_readsOrders_56 rfl rfl ?_
              refine tv_puti (pc := 57) C rfl rfl fp_X8_114 dX8_readsOrders_57 ?_
              refine tv_iconst (pc := 60) C dX8_readsOrders_60 ?_
              refine tv_iret (pc := 61) C dX8_readsOrders_61 ?_
              have hN : (μ 75 1).toNat = 6 * n + 5 := by omega
              have e : sp_of (fun j => μ 76 (47 + j)) (μ 75 1).toNat = -1 := by rw [sp_of_end (by rw [hN]; exact k5.1), if_pos (by omega)]
              have en : sp_no (fun j => μ 76 (47 + j)) (μ 75 1).toNat = n + 1 := by unfold sp_no; rw [if_pos e]; omega
              refine hpost _ _ e.symm ?_ (fun b hb => ?_) (fun a h1 h2 => ?_) (fun k hk => ?_)
              · rw [en, tm_us]; omega
              · rw [tm_uj hb]; exact ro2.2.1 b hb
              · rw [tm_uf h1]; exact ro2.2.2.1 a h1 h2
              · rw [en] at hk
                simp only [tm_uk (show (78 : Nat) ≠ 74 by decide), tm_uk (show (79 : Nat) ≠ 74 by decide), tm_uk (show (80 : Nat) ≠ 74 by decide), tm_uk (show (81 : Nat) ≠ 74 by decide)]
                exact ro2.2.2.2 k hk
          · skip
            exfalso; omega
        · skip
          have hq := (hB (by omega)).symm
          subst hq
          refine tv_istore_n (pc := 29) [(3, tm_i zg), (2, tm_i x2), (1, tm_i x1), (0, .ref (E.2.1 74))] C dX8_readsOrders_29 rfl (by decide) rfl ?_
          refine tv_iload_n (pc := 30) 0 C dX8_readsOrders_30 rfl rfl ?_
          refine tv_iconst (pc := 31) C dX8_readsOrders_31 ?_
          refine tv_icmp_ge (pc := 32) 39 C dX8_readsOrders_32 (by decide) (by omega) (by omega) (fun h32 => ?_) (fun h32 => ?_)
          · skip
            exfalso; omega
          · skip
            refine tv_iload_n (pc := 35) 1 C dX8_readsOrders_35 rfl rfl ?_
            refine tv_iload_n (pc := 36) 0 C dX8_readsOrders_36 rfl rfl ?_
            refine tv_iadd (pc := 37) C dX8_readsOrders_37 ?_
            refine tv_iret (pc := 38) C dX8_readsOrders_38 ?_
            have e := rg_of hs hok (by omega) (by omega) hc
            refine hpost _ M (by rw [e]; omega) ?_ ro.2.1 ro.2.2.1 (fun k hk => ?_)
            · rw [ro.1]; unfold sp_no; rw [if_neg (by omega)]; rfl
            · exfalso; unfold sp_no at hk; rw [if_neg (by omega)] at hk; omega
theorem c8_readsOrders (E : tm_Ev) (l : Launch) (μ : tm_M) (hs : 0 ≤ μ 75 1 ∧ μ 75 1 ≤ 47) (hby : ∀ j : Nat, (j : Int) < μ 75 1 → 0 ≤ μ 76 (47 + j) ∧ μ 76 (47 + j) ≤ 255) : tm_Met E l yX8_readsOrders cX8_readsOrders 4 (some .int) 3 [.ref (E.2.1 74)] μ (tm_pi (fun z μ' => z = sp_of (fun j => μ 76 (47 + j)) (μ 75 1).toNat ∧ μ' 74 4 = (sp_no (fun j => μ 76 (47 + j)) (μ 75 1).toNat : Int) ∧ (∀ b, b ≠ 4 → μ' 74 b = μ 74 b) ∧ (∀ a, a ≠ 74 → (a < 78 ∨ 81 < a) → μ' a = μ a) ∧ (∀ k, k < sp_no (fun j => μ 76 (47 + j)) (μ 75 1).toNat → μ' 78 k = od_g (fun j => μ 76 (47 + j)) k ∧ μ' 79 k = od_s (fun j => μ 76 (47 + j)) k ∧ μ' 80 k = od_d (fun j => μ 76 (47 + j)) k ∧ μ' 81 k = od_p (fun j => μ 76 (47 + j)) k))) := by
  refine tm_intro [(0, .ref (E.2.1 74))] rfl (by decide +kernel) (Nat.le_of_ble_eq_true rfl) ?_
  intro X hX C
  subst hX
  refine tv_iconst (pc := 0) C dX8_readsOrders_0 ?_
  refine tv_istore_n (pc := 1) [(1, tm_i 0), (0, .ref (E.2.1 74))] C dX8_readsOrders_1 rfl (by decide) rfl ?_
  refine tv_iconst (pc := 2) C dX8_readsOrders_2 ?_
  refine tv_istore_n (pc := 3) [(2, tm_i 0), (1, tm_i 0), (0, .ref (E.2.1 74))] C dX8_readsOrders_3 rfl (by decide) rfl ?_
  refine tv_aload_n (pc := 4) 2 C dX8_readsOrders_4 rfl rfl ?_
  refine tv_iconst (pc := 5) C dX8_readsOrders_5 ?_
  refine tv_puti (pc := 6) C rfl rfl fp_X8_114 dX8_readsOrders_6 ?_
  refine tv_sub (lv1 := [(2, tm_i 0), (1, tm_i 0), (0, .ref (E.2.1 74))]) [0, 1, 2] rfl ?_
  exact l_readsOrders C μ hs hby _ (fun z μ' h1 h2 h3 h4 h5 => ⟨z, rfl, h1, h2, h3, h4, h5⟩) 10 0 0 0 _ rfl rfl (by omega) ⟨tm_us, fun b hb => tm_uj hb, fun a ha _ => tm_uf ha, fun k hk => by omega⟩ (fun j hj => by omega) (by omega)
/-- the reference holds the mill's data -/
def rf_m (μ d : tm_M) : Prop := μ 75 0 = d 0 0 ∧ μ 75 1 = d 0 1 ∧ (∀ j : Nat, (j : Int) < d 0 0 → μ 76 j = d 1 j) ∧ (∀ j : Nat, (j : Int) < d 0 1 → μ 76 (47 + j) = d 2 j) ∧ μ 74 10 = d 3 0 ∧ μ 74 12 = d 3 1 ∧ (∀ j : Nat, (j : Int) < d 3 0 → μ 83 j = d 4 j) ∧ (∀ j : Nat, (j : Int) < d 3 1 → μ 84 j = d 5 j) ∧ (∀ j, j < 5 → μ 82 j = d 6 j)
theorem rf_m_same {μ ν d : tm_M} (h : rf_m μ d) (e : ∀ a, a = 75 ∨ a = 76 ∨ (82 ≤ a ∧ a ≤ 84) → ν a = μ a) (e0 : ν 74 10 = μ 74 10) (e2 : ν 74 12 = μ 74 12) : rf_m ν d := by
  obtain ⟨h1, h2, h3, h4, h5, h6, h7, h8, h9⟩ := h
  exact ⟨by rw [e 75 (by omega)]; exact h1, by rw [e 75 (by omega)]; exact h2, by rw [e 76 (by omega)]; exact h3, by rw [e 76 (by omega)]; exact h4, by rw [e0]; exact h5, by rw [e2]; exact h6, by rw [e 83 (by omega)]; exact h7, by rw [e 84 (by omega)]; exact h8, by rw [e 82 (by omega)]; exact h9⟩
/-- what the reference has read of the texts -/
def rf_r (μ d : tm_M) : Prop := μ 74 2 = (if sp_tf (d 1) (d 0 0).toNat = -1 then d 0 0 else 0) ∧ μ 74 4 = (dd_n d : Int) ∧ (∀ h, h < 40 → μ 77 h = sp_sea (d 1) (d 0 0).toNat h) ∧ (∀ k, k < dd_n d → μ 78 k = od_g (d 2) k ∧ μ 79 k = od_s (d 2) k ∧ μ 80 k = od_d (d 2) k ∧ μ 81 k = od_p (d 2) k)
/-- only what reading writes has changed -/
def rf_f (μ ν : tm_M) : Prop := (∀ a, a ≠ 74 → (a < 77 ∨ 81 < a) → ν a = μ a) ∧ (∀ b, b ≠ 2 → b ≠ 4 → ν 74 b = μ 74 b)
theorem rf_reads {μ d M1 M2 : tm_M} (hd : dd_ok d) (hm : rf_m μ d) (a1 : M1 74 2 = (if sp_tf (μ 76) (μ 75 0).toNat = -1 then μ 75 0 else 0)) (a2 : ∀ h, h < 40 → M1 77 h = sp_sea (μ 76) (μ 75 0).toNat h) (a3 : ∀ b, b ≠ 2 → M1 74 b = μ 74 b) (a4 : ∀ a, a ≠ 74 → a ≠ 77 → M1 a = μ a)
    (b1 : M2 74 4 = (sp_no (fun j => M1 76 (47 + j)) (M1 75 1).toNat : Int)) (b2 : ∀ b, b ≠ 4 → M2 74 b = M1 74 b) (b3 : ∀ a, a ≠ 74 → (a < 78 ∨ 81 < a) → M2 a = M1 a) (b4 : ∀ k, k < sp_no (fun j => M1 76 (47 + j)) (M1 75 1).toNat → M2 78 k = od_g (fun j => M1 76 (47 + j)) k ∧ M2 79 k = od_s (fun j => M1 76 (47 + j)) k ∧ M2 80 k = od_d (fun j => M1 76 (47 + j)) k ∧ M2 81 k = od_p (fun j => M1 76 (47 + j)) k) :
    rf_m M2 d ∧ rf_r M2 d ∧ rf_f μ M2 := by
  obtain ⟨h1, h2, h3, h4, -⟩ := id hm
  have c1 : ∀ j, j < (μ 75 0).toNat → μ 76 j = d 1 j := fun j hj => h3 j (by omega)
  have c2 : ∀ j, j < (μ 75 1).toNat → (fun j => μ 76 (47 + j)) j = d 2 j := fun j hj => h4 j (by omega)
  rw [a4 76 (by omega) (by omega), a4 75 (by omega) (by omega)] at b1 b4
  have hno : sp_no (fun j => μ 76 (47 + j)) (μ 75 1).toNat = dd_n d := by unfold dd_n; rw [sp_no_congr c2, h2]
  rw [hno] at b1
  refine ⟨rf_m_same hm (fun a ha => by rw [b3 a (by omega) (by omega), a4 a (by omega) (by omega)]) (by rw [b2 10 (by omega), a3 10 (by omega)]) (by rw [b2 12 (by omega), a3 12 (by omega)]), ⟨?_, b1, fun h hh => ?_, fun k hk => ?_⟩, fun a x y => by rw [b3 a x (by omega), a4 a x (by omega)], fun b x y => by rw [b2 b y, a3 b x]⟩
  · rw [b2 2 (by omega), a1, sp_tf_congr c1, h1]
  · rw [b3 77 (by omega) (by omega), a2 h hh, sp_sea_congr c1, h1]
  · have hk2 : k < sp_no (fun j => μ 76 (47 + j)) (μ 75 1).toNat := by rw [hno]; exact hk
    obtain ⟨q1, q2, q3, q4⟩ := b4 k hk2
    obtain ⟨r1, r2, r3, r4⟩ := od_congr c2 (sp_no_in hk2).2.1
    rw [q1, q2, q3, q4, r1, r2, r3, r4]
    exact ⟨rfl, rfl, rfl, rfl⟩
theorem rf_faults {μ d : tm_M} (hm : rf_m μ d) : sp_tf (μ 76) (μ 75 0).toNat = sp_tf (d 1) (d 0 0).toNat ∧ sp_of (fun j => μ 76 (47 + j)) (μ 75 1).toNat = sp_of (d 2) (d 0 1).toNat := by
  obtain ⟨h1, h2, h3, h4, -⟩ := hm
  refine ⟨?_, ?_⟩
  · rw [sp_tf_congr (g := d 1) (fun j hj => h3 j (by omega)), h1]
  · rw [sp_of_congr (g := d 2) (fun j hj => h4 j (by omega)), h2]
theorem c8_faultOf (E : tm_Ev) (l : Launch) (μ : tm_M) (d : tm_M) (hd : dd_ok d) (hm : rf_m μ d) (t : Int) (ht : t = 0 ∨ t = 1) : tm_Met E l yX8_faultOf cX8_faultOf 4 (some .int) 4 [.ref (E.2.1 74), tm_i t] μ (tm_pi (fun z μ' => z = (if t = 0 then sp_tf (d 1) (d 0 0).toNat else sp_of (d 2) (d 0 1).toNat) ∧ rf_m μ' d ∧ rf_r μ' d ∧ rf_f μ μ')) := by
  refine tm_intro [(0, .ref (E.2.1 74)), (1, tm_i t)] rfl (by decide +kernel) (Nat.le_of_ble_eq_true rfl) ?_
  intro X hX C
  subst hX
  refine tv_aload_n (pc := 0) 0 C dX8_faultOf_0 rfl rfl ?_
  refine tv_callV (pc := 1) [] [] C (c8_readsTides E _ μ (by rw [hm.1]; exact hd.1) (fun j hj => by rw [hm.1] at hj; rw [hm.2.2.1 j hj]; exact hd.2.2.1 j hj)) cv_X8_121 rfl rfl (by decide) rfl (Nat.le_of_ble_eq_true rfl) rfl dX8_faultOf_1 (tm_ki ?_)
  rintro z1 M1 ⟨hz1, a1, a2, a3, a4⟩
  rw [hz1] at a1
  have e75 : M1 75 = μ 75 := a4 75 (by omega) (by omega)
  have e76 : M1 76 = μ 76 := a4 76 (by omega) (by omega)
  refine tv_istore_n (pc := 4) [(2, tm_i z1), (0, .ref (E.2.1 74)), (1, tm_i t)] C dX8_faultOf_4 rfl (by decide) rfl ?_
  refine tv_aload_n (pc := 5) 1 C dX8_faultOf_5 rfl rfl ?_
  refine tv_callV (pc := 6) [] [] C (c8_readsOrders E _ M1 (by rw [e75, hm.2.1]; exact hd.2.1) (fun j hj => by rw [e75, hm.2.1] at hj; rw [e76, hm.2.2.2.1 j hj]; exact hd.2.2.2.1 j hj)) cv_X8_125 rfl rfl (by decide) rfl (Nat.le_of_ble_eq_true rfl) rfl dX8_faultOf_6 (tm_ki ?_)
  rintro z2 M2 ⟨hz2, b1, b2, b3, b4⟩
  have rr := rf_reads hd hm a1 a2 a3 a4 b1 b2 b3 b4
  rw [e75, e76] at hz2
  have ff := rf_faults hm
  refine tv_istore_n (pc := 9) [(3, tm_i z2), (2, tm_i z1), (0, .ref (E.2.1 74)), (1, tm_i t)] C dX8_faultOf_9 rfl (by decide) rfl ?_
  refine tv_iload_n (pc := 10) 3 C dX8_faultOf_10 rfl rfl ?_
  refine tv_if_ne (pc := 11) 18 C dX8_faultOf_11 (by decide) (by omega) (fun h11 => ?_) (fun h11 => ?_)
  · skip
    refine tv_iload_n (pc := 18) 0 C dX8_faultOf_18 rfl rfl ?_
    refine tv_iret (pc := 19) C dX8_faultOf_19 ?_
    exact ⟨_, rfl, by rw [if_neg h11, hz2, ff.2], rr.1, rr.2.1, rr.2.2⟩
  · skip
    refine tv_iload_n (pc := 14) 1 C dX8_faultOf_14 rfl rfl ?_
    refine tv_goto (pc := 15) 19 C dX8_faultOf_15 (by decide) ?_
    refine tv_iret (pc := 19) C dX8_faultOf_19 ?_
    exact ⟨_, rfl, by rw [if_pos h11, hz1, ff.1], rr.1, rr.2.1, rr.2.2⟩
theorem c8_reads (E : tm_Ev) (l : Launch) (μ : tm_M) (d : tm_M) (hd : dd_ok d) (hm : rf_m μ d) : tm_Met E l yX8_reads cX8_reads 2 none 5 [.ref (E.2.1 74)] μ (tm_pv (fun μ' => rf_m μ' d ∧ rf_r μ' d ∧ rf_f μ μ')) := by
  refine tm_intro [(0, .ref (E.2.1 74))] rfl (by decide +kernel) (Nat.le_of_ble_eq_true rfl) ?_
  intro X hX C
  subst hX
  refine tv_aload_n (pc := 0) 0 C dX8_reads_0 rfl rfl ?_
  refine tv_iconst (pc := 1) C dX8_reads_1 ?_
  refine tv_callV (pc := 2) [tm_i 0] [] C (c8_faultOf E _ μ d hd hm 0 (Or.inl rfl)) cv_X8_128 rfl rfl (by decide) rfl (Nat.le_of_ble_eq_true rfl) rfl dX8_reads_2 (tm_ki ?_)
  rintro z M ⟨-, q1, q2, q3⟩
  refine tv_istore_n (pc := 5) [(1, tm_i z), (0, .ref (E.2.1 74))] C dX8_reads_5 rfl (by decide) rfl ?_
  refine tv_vret (pc := 6) C dX8_reads_6 ?_
  exact ⟨rfl, q1, q2, q3⟩
