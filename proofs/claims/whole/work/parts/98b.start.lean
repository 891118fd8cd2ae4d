/-! what stands at the law's entry -/
theorem st_len {args : Array Value} {s : State} {t : Term} {v : Value} (h : (Term.length t).eval args s none [] s = some v) :
    ∃ a cell, t.eval args s none [] s = some (.ref a) ∧ s.arrayAt? a = some cell ∧ v = .int cell.slots.size.toInt32 ∧ cell.slots.size < 2147483648 := by
  simp only [Term.eval, Option.bind_eq_bind] at h
  cases ht : t.eval args s none [] s with
  | none => simp [ht] at h
  | some x =>
    cases x <;> simp [ht] at h
    case ref a =>
      obtain ⟨cell, hcell, h⟩ := Option.bind_eq_some_iff.mp h
      by_cases hn : cell.slots.size < 2147483648
      · rw [if_pos hn] at h; cases h; exact ⟨a, cell, rfl, hcell, rfl, hn⟩
      · rw [if_neg hn] at h; cases h
abbrev st_t (j : Nat) : Term := .static RX7 (tm_sn j) "[I"
theorem st_T0 {args : Array Value} {s : State} (hg : ∀ w ∈ flatC (Jvm.Cond.and given_1 narrow_1), w.before args s = true) : ∃ t : Nat, (st_t 0).eval args s none [] s = some (.ref t) ∧ va_T .int t (tm_sl 0) (fun i => tm_i ((tm_sv 0).getD i 0)) (fun q => s.heap.size ≤ q) s s.heap := by
  have h0 : (Cond.arrayOf (.static "TideMill" "DIAL_LEAST" "[I") .int).before args s = true := hg _ (by decide +kernel)
  have h1 : (Cond.eq (.length (.static "TideMill" "DIAL_LEAST" "[I")) (.int 5)).before args s = true := hg _ (by decide +kernel)
  have e0 : (Cond.eq (.elem (.static "TideMill" "DIAL_LEAST" "[I") (.int 0)) (.int 0)).before args s = true := hg _ (by decide +kernel)
  have e1 : (Cond.eq (.elem (.static "TideMill" "DIAL_LEAST" "[I") (.int 1)) (.int 1)).before args s = true := hg _ (by decide +kernel)
  have e2 : (Cond.eq (.elem (.static "TideMill" "DIAL_LEAST" "[I") (.int 2)) (.int 0)).before args s = true := hg _ (by decide +kernel)
  have e3 : (Cond.eq (.elem (.static "TideMill" "DIAL_LEAST" "[I") (.int 3)) (.int 0)).before args s = true := hg _ (by decide +kernel)
  have e4 : (Cond.eq (.elem (.static "TideMill" "DIAL_LEAST" "[I") (.int 4)) (.int 1)).before args s = true := hg _ (by decide +kernel)
  refine va_Tof (N := 5) (by decide) h0 (va_eqv h1 rfl) (fun j hj => ?_) (fun a ha q => by omega)
  match j, hj with
  | 0, _ => exact va_eqv e0 rfl
  | 1, _ => exact va_eqv e1 rfl
  | 2, _ => exact va_eqv e2 rfl
  | 3, _ => exact va_eqv e3 rfl
  | 4, _ => exact va_eqv e4 rfl
theorem st_Z0 {args : Array Value} {s : State} {t : Nat} (hT : ∀ w ∈ lw_tbl, w.before args s = true) (ht : (st_t 0).eval args s none [] s = some (.ref t)) : va_Z RX7 (tm_sn 0) "[I" (.ref t) (fun q => s.heap.size ≤ q) s s.heap :=
  va_Zof (hT _ (List.mem_of_getElem? (i := 482) (by decide +kernel))) (hT _ (List.mem_of_getElem? (i := 56) (by decide +kernel))) ht (fun a ha q => by omega)
theorem st_T1 {args : Array Value} {s : State} (hg : ∀ w ∈ flatC (Jvm.Cond.and given_1 narrow_1), w.before args s = true) : ∃ t : Nat, (st_t 1).eval args s none [] s = some (.ref t) ∧ va_T .int t (tm_sl 1) (fun i => tm_i ((tm_sv 1).getD i 0)) (fun q => s.heap.size ≤ q) s s.heap := by
  have h0 : (Cond.arrayOf (.static "TideMill" "DIAL_MOST" "[I") .int).before args s = true := hg _ (by decide +kernel)
  have h1 : (Cond.eq (.length (.static "TideMill" "DIAL_MOST" "[I")) (.int 5)).before args s = true := hg _ (by decide +kernel)
  have e0 : (Cond.eq (.elem (.static "TideMill" "DIAL_MOST" "[I") (.int 0)) (.int 20)).before args s = true := hg _ (by decide +kernel)
  have e1 : (Cond.eq (.elem (.static "TideMill" "DIAL_MOST" "[I") (.int 1)) (.int 9)).before args s = true := hg _ (by decide +kernel)
  have e2 : (Cond.eq (.elem (.static "TideMill" "DIAL_MOST" "[I") (.int 2)) (.int 9)).before args s = true := hg _ (by decide +kernel)
  have e3 : (Cond.eq (.elem (.static "TideMill" "DIAL_MOST" "[I") (.int 3)) (.int 9)).before args s = true := hg _ (by decide +kernel)
  have e4 : (Cond.eq (.elem (.static "TideMill" "DIAL_MOST" "[I") (.int 4)) (.int 9)).before args s = true := hg _ (by decide +kernel)
  refine va_Tof (N := 5) (by decide) h0 (va_eqv h1 rfl) (fun j hj => ?_) (fun a ha q => by omega)
  match j, hj with
  | 0, _ => exact va_eqv e0 rfl
  | 1, _ => exact va_eqv e1 rfl
  | 2, _ => exact va_eqv e2 rfl
  | 3, _ => exact va_eqv e3 rfl
  | 4, _ => exact va_eqv e4 rfl
theorem st_Z1 {args : Array Value} {s : State} {t : Nat} (hT : ∀ w ∈ lw_tbl, w.before args s = true) (ht : (st_t 1).eval args s none [] s = some (.ref t)) : va_Z RX7 (tm_sn 1) "[I" (.ref t) (fun q => s.heap.size ≤ q) s s.heap :=
  va_Zof (hT _ (List.mem_of_getElem? (i := 484) (by decide +kernel))) (hT _ (List.mem_of_getElem? (i := 56) (by decide +kernel))) ht (fun a ha q => by omega)
theorem st_T2 {args : Array Value} {s : State} (hg : ∀ w ∈ flatC (Jvm.Cond.and given_1 narrow_1), w.before args s = true) : ∃ t : Nat, (st_t 2).eval args s none [] s = some (.ref t) ∧ va_T .int t (tm_sl 2) (fun i => tm_i ((tm_sv 2).getD i 0)) (fun q => s.heap.size ≤ q) s s.heap := by
  have h0 : (Cond.arrayOf (.static "TideMill" "DIAL_FIRST" "[I") .int).before args s = true := hg _ (by decide +kernel)
  have h1 : (Cond.eq (.length (.static "TideMill" "DIAL_FIRST" "[I")) (.int 5)).before args s = true := hg _ (by decide +kernel)
  have e0 : (Cond.eq (.elem (.static "TideMill" "DIAL_FIRST" "[I") (.int 0)) (.int 10)).before args s = true := hg _ (by decide +kernel)
  have e1 : (Cond.eq (.elem (.static "TideMill" "DIAL_FIRST" "[I") (.int 1)) (.int 4)).before args s = true := hg _ (by decide +kernel)
  have e2 : (Cond.eq (.elem (.static "TideMill" "DIAL_FIRST" "[I") (.int 2)) (.int 0)).before args s = true := hg _ (by decide +kernel)
  have e3 : (Cond.eq (.elem (.static "TideMill" "DIAL_FIRST" "[I") (.int 3)) (.int 2)).before args s = true := hg _ (by decide +kernel)
  have e4 : (Cond.eq (.elem (.static "TideMill" "DIAL_FIRST" "[I") (.int 4)) (.int 5)).before args s = true := hg _ (by decide +kernel)
  refine va_Tof (N := 5) (by decide) h0 (va_eqv h1 rfl) (fun j hj => ?_) (fun a ha q => by omega)
  match j, hj with
  | 0, _ => exact va_eqv e0 rfl
  | 1, _ => exact va_eqv e1 rfl
  | 2, _ => exact va_eqv e2 rfl
  | 3, _ => exact va_eqv e3 rfl
  | 4, _ => exact va_eqv e4 rfl
theorem st_Z2 {args : Array Value} {s : State} {t : Nat} (hT : ∀ w ∈ lw_tbl, w.before args s = true) (ht : (st_t 2).eval args s none [] s = some (.ref t)) : va_Z RX7 (tm_sn 2) "[I" (.ref t) (fun q => s.heap.size ≤ q) s s.heap :=
  va_Zof (hT _ (List.mem_of_getElem? (i := 160) (by decide +kernel))) (hT _ (List.mem_of_getElem? (i := 56) (by decide +kernel))) ht (fun a ha q => by omega)
theorem st_T3 {args : Array Value} {s : State} (hg : ∀ w ∈ flatC (Jvm.Cond.and given_1 narrow_1), w.before args s = true) : ∃ t : Nat, (st_t 3).eval args s none [] s = some (.ref t) ∧ va_T .int t (tm_sl 3) (fun i => tm_i ((tm_sv 3).getD i 0)) (fun q => s.heap.size ≤ q) s s.heap := by
  have h0 : (Cond.arrayOf (.static "TideMill" "GRAIN_WANTS" "[I") .int).before args s = true := hg _ (by decide +kernel)
  have h1 : (Cond.eq (.length (.static "TideMill" "GRAIN_WANTS" "[I")) (.int 3)).before args s = true := hg _ (by decide +kernel)
  have e0 : (Cond.eq (.elem (.static "TideMill" "GRAIN_WANTS" "[I") (.int 0)) (.int 2)).before args s = true := hg _ (by decide +kernel)
  have e1 : (Cond.eq (.elem (.static "TideMill" "GRAIN_WANTS" "[I") (.int 1)) (.int 1)).before args s = true := hg _ (by decide +kernel)
  have e2 : (Cond.eq (.elem (.static "TideMill" "GRAIN_WANTS" "[I") (.int 2)) (.int 0)).before args s = true := hg _ (by decide +kernel)
  refine va_Tof (N := 3) (by decide) h0 (va_eqv h1 rfl) (fun j hj => ?_) (fun a ha q => by omega)
  match j, hj with
  | 0, _ => exact va_eqv e0 rfl
  | 1, _ => exact va_eqv e1 rfl
  | 2, _ => exact va_eqv e2 rfl
theorem st_Z3 {args : Array Value} {s : State} {t : Nat} (hT : ∀ w ∈ lw_tbl, w.before args s = true) (ht : (st_t 3).eval args s none [] s = some (.ref t)) : va_Z RX7 (tm_sn 3) "[I" (.ref t) (fun q => s.heap.size ≤ q) s s.heap :=
  va_Zof (hT _ (List.mem_of_getElem? (i := 461) (by decide +kernel))) (hT _ (List.mem_of_getElem? (i := 56) (by decide +kernel))) ht (fun a ha q => by omega)
theorem st_T4 {args : Array Value} {s : State} (hg : ∀ w ∈ flatC (Jvm.Cond.and given_1 narrow_1), w.before args s = true) : ∃ t : Nat, (st_t 4).eval args s none [] s = some (.ref t) ∧ va_T .int t (tm_sl 4) (fun i => tm_i ((tm_sv 4).getD i 0)) (fun q => s.heap.size ≤ q) s s.heap := by
  have h0 : (Cond.arrayOf (.static "TideMill" "GRAIN_TAKES" "[I") .int).before args s = true := hg _ (by decide +kernel)
  have h1 : (Cond.eq (.length (.static "TideMill" "GRAIN_TAKES" "[I")) (.int 3)).before args s = true := hg _ (by decide +kernel)
  have e0 : (Cond.eq (.elem (.static "TideMill" "GRAIN_TAKES" "[I") (.int 0)) (.int 3)).before args s = true := hg _ (by decide +kernel)
  have e1 : (Cond.eq (.elem (.static "TideMill" "GRAIN_TAKES" "[I") (.int 1)) (.int 2)).before args s = true := hg _ (by decide +kernel)
  have e2 : (Cond.eq (.elem (.static "TideMill" "GRAIN_TAKES" "[I") (.int 2)) (.int 1)).before args s = true := hg _ (by decide +kernel)
  refine va_Tof (N := 3) (by decide) h0 (va_eqv h1 rfl) (fun j hj => ?_) (fun a ha q => by omega)
  match j, hj with
  | 0, _ => exact va_eqv e0 rfl
  | 1, _ => exact va_eqv e1 rfl
  | 2, _ => exact va_eqv e2 rfl
theorem st_Z4 {args : Array Value} {s : State} {t : Nat} (hT : ∀ w ∈ lw_tbl, w.before args s = true) (ht : (st_t 4).eval args s none [] s = some (.ref t)) : va_Z RX7 (tm_sn 4) "[I" (.ref t) (fun q => s.heap.size ≤ q) s s.heap :=
  va_Zof (hT _ (List.mem_of_getElem? (i := 467) (by decide +kernel))) (hT _ (List.mem_of_getElem? (i := 56) (by decide +kernel))) ht (fun a ha q => by omega)
theorem st_F {args : Array Value} {s : State} (hg : ∀ w ∈ flatC (Jvm.Cond.and given_1 narrow_1), w.before args s = true) {t : Nat} (ht : (st_t 2).eval args s none [] s = some (.ref t)) (hv : va_T .int t 5 (fun i => tm_i ((tm_sv 2).getD i 0)) (fun q => s.heap.size ≤ q) s s.heap) :
    ∃ cell : Cell, s.heap[t]? = some cell ∧ s.vm.findClass "[I" = some cell.cls ∧ cell.vm ≠ .unknown ∧ (∀ k, cell.vm ≠ .statics k) ∧ cell.slots.size = 5 ∧ (∀ j, j < 5 → cell.slots[j]? = some (tm_i ((tm_sv 2).getD j 0))) ∧ t < s.heap.size := by
  have h1 : (Cond.eq (.length (.static "TideMill" "DIAL_FIRST" "[I")) (.int 5)).before args s = true := hg _ (by decide +kernel)
  have h2 : (Cond.exactly (.static "TideMill" "DIAL_FIRST" "[I") "[I").before args s = true := hg _ (by decide +kernel)
  obtain ⟨a, cell, e1, e2, e3, e4⟩ := st_len (va_eqv h1 rfl)
  cases ht.symm.trans e1
  obtain ⟨f1, f2, f3, -⟩ := State.arrayAt?_spec e2
  obtain ⟨a2, c, cell2, k, q1, q2, q3, q4, q5, q6, -⟩ := Cond.exactly_spec (args := args) (first := s) (o := none) (s := s) (idx := []) h2
  cases ht.symm.trans q1
  cases f1.symm.trans q3
  obtain ⟨cell3, g1, g2, g3, g4, g5, g6, g7⟩ := hv
  cases f1.symm.trans g1
  have hz : cell.slots.size = 5 := by
    have h5 := congrArg Int32.toNatClampNeg (Value.int.inj e3)
    have h6 : (cell.slots.size.toInt32).toNatClampNeg = cell.slots.size := Int32.toNatClampNeg_ofNat_of_lt (by omega)
    rw [h6] at h5
    exact h5.symm
  refine ⟨cell, f1, by rw [q6]; exact q2, f2, fun k h => ?_, hz, g6, (Array.getElem?_eq_some_iff.mp f1).1⟩
  rw [h] at f3
  cases f3
theorem st_arr {args : Array Value} {s : State} {ty : FieldType} (h : (Cond.arrayClass ty).before args s = true) (hra : ∀ c, s.vm.findClass ("[" ++ ty.toString) = some c → va_RA s c ty) : ∃ c : ClassId, s.vm.findClass ("[" ++ ty.toString) = some c ∧ ArrOfT s c ty ∧ va_RA s c ty := by
  obtain ⟨c, k, comp, h1, h2, h3⟩ := Cond.arrayClass_spec (args := args) (first := s) (o := none) (s := s) (idx := []) h
  exact ⟨c, h1, fun n z => ⟨fun k h => (by cases h), k, h2, comp, h3⟩, hra c h1⟩
theorem st_arq {args : Array Value} {s : State} {n : String} (h : (Cond.arrayOver (.object n)).before args s = true) : ∃ c : ClassId, ArrOfT s c (.object n) ∧ va_RA s c (.object n) := by
  obtain ⟨comp, c, k, h1, -, h2, h3, h4⟩ := Cond.arrayOver_spec (args := args) (first := s) (o := none) (s := s) (idx := []) h
  exact ⟨c, fun n z => ⟨fun k h => (by cases h), k, h2, comp, h3⟩, k, comp, h2, h3, h1, h4⟩
theorem st_cl {args : Array Value} {s : State} (hT : ∀ w ∈ tm_tbl, w.before args s = true) (c : Nat) : ∃ (cC : ClassId) (iS : Nat → Nat), ∀ q : vw_C, vwCl[c]? = some q → u_Kn s q.1 q.2.1 q.2.2 cC iS := by
  match c with
  | 0 =>
    obtain ⟨cC, iS, h⟩ := u_known hT cls_0.2.1 (hT _ in_0)
    exact ⟨cC, iS, fun q hq => by cases hq; exact h⟩
  | 1 =>
    obtain ⟨cC, iS, h⟩ := u_known hT cls_1.2.1 (hT _ in_1)
    exact ⟨cC, iS, fun q hq => by cases hq; exact h⟩
  | 2 =>
    obtain ⟨cC, iS, h⟩ := u_known hT cls_2.2.1 (hT _ in_2)
    exact ⟨cC, iS, fun q hq => by cases hq; exact h⟩
  | 3 =>
    obtain ⟨cC, iS, h⟩ := u_known hT cls_3.2.1 (hT _ in_3)
    exact ⟨cC, iS, fun q hq => by cases hq; exact h⟩
  | 4 =>
    obtain ⟨cC, iS, h⟩ := u_known hT cls_4.2.1 (hT _ in_4)
    exact ⟨cC, iS, fun q hq => by cases hq; exact h⟩
  | 5 =>
    obtain ⟨cC, iS, h⟩ := u_known hT cls_5.2.1 (hT _ in_5)
    exact ⟨cC, iS, fun q hq => by cases hq; exact h⟩
  | 6 =>
    obtain ⟨cC, iS, h⟩ := u_known hT cls_6.2.1 (hT _ in_6)
    exact ⟨cC, iS, fun q hq => by cases hq; exact h⟩
  | 7 =>
    obtain ⟨cC, iS, h⟩ := u_known hT cls_7.2.1 (hT _ in_7)
    exact ⟨cC, iS, fun q hq => by cases hq; exact h⟩
  | 8 =>
    obtain ⟨cC, iS, h⟩ := u_known hT cls_8.2.1 (hT _ in_8)
    exact ⟨cC, iS, fun q hq => by cases hq; exact h⟩
  | n + 9 => exact ⟨0, fun _ => 0, fun q hq => nomatch (show (none : Option vw_C) = some q from hq)⟩
theorem st_E {args : Array Value} {s : State} (hL : ∀ w ∈ lw_tbl, w.before args s = true) (hgv : (Jvm.Cond.and given_1 narrow_1).before args s = true) : ∃ E : tm_Ev, (∀ k, E.2.1 k = s.heap.size + k) ∧ E.2.2.2.2 = s.heap.size ∧ tm_K E s ∧ tn_K E s := by
  have hg := flat_of_before _ hgv
  have hT : ∀ w ∈ tm_tbl, w.before args s = true := fun w hw => hL w (List.mem_filter.mp hw).1
  obtain ⟨t0, ev0, T0⟩ := st_T0 hg
  obtain ⟨t1, ev1, T1⟩ := st_T1 hg
  obtain ⟨t2, ev2, T2⟩ := st_T2 hg
  obtain ⟨t3, ev3, T3⟩ := st_T3 hg
  obtain ⟨t4, ev4, T4⟩ := st_T4 hg
  obtain ⟨c0, f0, a0, r0⟩ := st_arr (ty := .int) (hL _ (List.mem_of_getElem? (i := 100) (by decide +kernel))) (fun c h => h)
  obtain ⟨c1, f1, a1, r1⟩ := st_arr (ty := .long) (hL _ (List.mem_of_getElem? (i := 360) (by decide +kernel))) (fun c h => h)
  obtain ⟨c2, f2, a2, r2⟩ := st_arr (ty := .boolean) (hL _ (List.mem_of_getElem? (i := 883) (by decide +kernel))) (fun c h => h)
  have w3 : (Cond.arrayOver (.object RX2)).before args s = true := hL _ (List.mem_of_getElem? (i := 78) (by decide +kernel))
  obtain ⟨c3, a3, r3⟩ := st_arq w3
  have w4 : (Cond.arrayOver (.object RX4)).before args s = true := hL _ (List.mem_of_getElem? (i := 279) (by decide +kernel))
  obtain ⟨c4, a4, r4⟩ := st_arq w4
  have w5 : (Cond.arrayOver (.object RX6)).before args s = true := hL _ (List.mem_of_getElem? (i := 102) (by decide +kernel))
  obtain ⟨c5, a5, r5⟩ := st_arq w5
  have hc := st_cl hT
  obtain ⟨cell, d1, d2, d3, d4, d5, d6, d7⟩ := st_F hg ev2 T2
  refine ⟨((fun c => Classical.choose (hc c), fun c => Classical.choose (Classical.choose_spec (hc c))), fun k => s.heap.size + k, fun j => match j with | 0 => c0 | 1 => c1 | 2 => c2 | 3 => c3 | 4 => c4 | _ => c5, fun j => match j with | 0 => t0 | 1 => t1 | 2 => t2 | 3 => t3 | _ => t4, s.heap.size), fun k => rfl, rfl, ⟨⟨fun c q hq => Classical.choose_spec (Classical.choose_spec (hc c)) q hq, fun k q hk => ?_⟩, fun k _ => Nat.le_add_right _ _, fun i j _ _ h => Nat.add_left_cancel h, fun j hj => ?_, fun w hw => ?_⟩, fun w hw => ?_, ⟨va_AO.of w3, va_AO.of w4, va_AO.of w5⟩, va_Nw.of rfl (hL (.castable "[I" "java/lang/Cloneable") (List.mem_of_getElem? (i := 166) (by decide +kernel))), cell, d1, ?_, d3, d4, d5, d6, fun h => ?_⟩
  · match k, hk with
    | 0, hk => cases hk; exact ⟨a0, r0⟩
    | 1, hk => cases hk; exact ⟨a1, r1⟩
    | 2, hk => cases hk; exact ⟨a2, r2⟩
    | 3, hk => cases hk; exact ⟨a3, r3⟩
    | 4, hk => cases hk; exact ⟨a4, r4⟩
    | 5, hk => cases hk; exact ⟨a5, r5⟩
    | n + 6, hk => exact nomatch (show (none : Option (ClassId × FieldType)) = some q from hk)
  · match j, hj with
    | 0, _ => exact ⟨st_Z0 hL ev0, T0⟩
    | 1, _ => exact ⟨st_Z1 hL ev1, T1⟩
    | 2, _ => exact ⟨st_Z2 hL ev2, T2⟩
    | 3, _ => exact ⟨st_Z3 hL ev3, T3⟩
    | 4, _ => exact ⟨st_Z4 hL ev4, T4⟩
  · simp only [tm_nst, List.mem_cons, List.not_mem_nil, or_false] at hw
    rcases hw with rfl | rfl | rfl | rfl
    · exact va_Nw.of rfl (hL _ (List.mem_of_getElem? (i := 428) (by decide +kernel)))
    · exact va_Nw.of rfl (hL _ (List.mem_of_getElem? (i := 433) (by decide +kernel)))
    · exact va_Nw.of rfl (hL _ (List.mem_of_getElem? (i := 460) (by decide +kernel)))
    · exact va_Nw.of rfl (hL _ (List.mem_of_getElem? (i := 466) (by decide +kernel)))
  · simp only [tn_nst, List.mem_cons, List.not_mem_nil, or_false] at hw
    rcases hw with rfl | rfl | rfl | rfl | rfl
    · exact va_Nw.of rfl (hL _ (List.mem_of_getElem? (i := 104) (by decide +kernel)))
    · exact va_Nw.of rfl (hL _ (List.mem_of_getElem? (i := 123) (by decide +kernel)))
    · exact va_Nw.of rfl (hL _ (List.mem_of_getElem? (i := 211) (by decide +kernel)))
    · exact va_Nw.of rfl (hL _ (List.mem_of_getElem? (i := 217) (by decide +kernel)))
    · exact va_Nw.of rfl (hL _ (List.mem_of_getElem? (i := 280) (by decide +kernel)))
  · have f0' : s.vm.findClass "[I" = some c0 := f0
    exact Option.some.inj (d2.symm.trans f0')
  · have h : s.heap.size ≤ t2 := h
    omega
