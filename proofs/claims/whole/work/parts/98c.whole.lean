theorem ws_t7 : ∀ j, j < 19 → ∃ o, ([some 1, some 6, some 8, some 10, some 12, some 14, none, some 23, some 28, some 29, some 35, some 43, some 49, some 57, some 72, some 73, none, none, none] : List (Option Nat))[j]? = some o ∧ defaultValue (tyX7 j) = (match o with | none => Value.int 0 | some _ => Value.null) := by
  intro j hj
  match j, hj with
  | 0, _ => exact ⟨_, rfl, rfl⟩
  | 1, _ => exact ⟨_, rfl, rfl⟩
  | 2, _ => exact ⟨_, rfl, rfl⟩
  | 3, _ => exact ⟨_, rfl, rfl⟩
  | 4, _ => exact ⟨_, rfl, rfl⟩
  | 5, _ => exact ⟨_, rfl, rfl⟩
  | 6, _ => exact ⟨_, rfl, rfl⟩
  | 7, _ => exact ⟨_, rfl, rfl⟩
  | 8, _ => exact ⟨_, rfl, rfl⟩
  | 9, _ => exact ⟨_, rfl, rfl⟩
  | 10, _ => exact ⟨_, rfl, rfl⟩
  | 11, _ => exact ⟨_, rfl, rfl⟩
  | 12, _ => exact ⟨_, rfl, rfl⟩
  | 13, _ => exact ⟨_, rfl, rfl⟩
  | 14, _ => exact ⟨_, rfl, rfl⟩
  | 15, _ => exact ⟨_, rfl, rfl⟩
  | 16, _ => exact ⟨_, rfl, rfl⟩
  | 17, _ => exact ⟨_, rfl, rfl⟩
  | 18, _ => exact ⟨_, rfl, rfl⟩
  | n + 19, h => omega
theorem ws_t8 : ∀ j, j < 45 → ∃ o, ([some 75, some 76, none, some 77, none, some 78, some 79, some 80, some 81, some 82, none, some 83, none, some 84, some 85, none, none, none, some 86, none, none, none, none, none, none, none, none, none, some 87, some 88, some 89, some 90, some 91, some 92, some 93, none, some 94, some 95, some 96, some 97, some 98, some 99, some 100, some 101, none] : List (Option Nat))[j]? = some o ∧ defaultValue (tyX8 j) = (match o with | none => Value.int 0 | some _ => Value.null) := by
  intro j hj
  match j, hj with
  | 0, _ => exact ⟨_, rfl, rfl⟩
  | 1, _ => exact ⟨_, rfl, rfl⟩
  | 2, _ => exact ⟨_, rfl, rfl⟩
  | 3, _ => exact ⟨_, rfl, rfl⟩
  | 4, _ => exact ⟨_, rfl, rfl⟩
  | 5, _ => exact ⟨_, rfl, rfl⟩
  | 6, _ => exact ⟨_, rfl, rfl⟩
  | 7, _ => exact ⟨_, rfl, rfl⟩
  | 8, _ => exact ⟨_, rfl, rfl⟩
  | 9, _ => exact ⟨_, rfl, rfl⟩
  | 10, _ => exact ⟨_, rfl, rfl⟩
  | 11, _ => exact ⟨_, rfl, rfl⟩
  | 12, _ => exact ⟨_, rfl, rfl⟩
  | 13, _ => exact ⟨_, rfl, rfl⟩
  | 14, _ => exact ⟨_, rfl, rfl⟩
  | 15, _ => exact ⟨_, rfl, rfl⟩
  | 16, _ => exact ⟨_, rfl, rfl⟩
  | 17, _ => exact ⟨_, rfl, rfl⟩
  | 18, _ => exact ⟨_, rfl, rfl⟩
  | 19, _ => exact ⟨_, rfl, rfl⟩
  | 20, _ => exact ⟨_, rfl, rfl⟩
  | 21, _ => exact ⟨_, rfl, rfl⟩
  | 22, _ => exact ⟨_, rfl, rfl⟩
  | 23, _ => exact ⟨_, rfl, rfl⟩
  | 24, _ => exact ⟨_, rfl, rfl⟩
  | 25, _ => exact ⟨_, rfl, rfl⟩
  | 26, _ => exact ⟨_, rfl, rfl⟩
  | 27, _ => exact ⟨_, rfl, rfl⟩
  | 28, _ => exact ⟨_, rfl, rfl⟩
  | 29, _ => exact ⟨_, rfl, rfl⟩
  | 30, _ => exact ⟨_, rfl, rfl⟩
  | 31, _ => exact ⟨_, rfl, rfl⟩
  | 32, _ => exact ⟨_, rfl, rfl⟩
  | 33, _ => exact ⟨_, rfl, rfl⟩
  | 34, _ => exact ⟨_, rfl, rfl⟩
  | 35, _ => exact ⟨_, rfl, rfl⟩
  | 36, _ => exact ⟨_, rfl, rfl⟩
  | 37, _ => exact ⟨_, rfl, rfl⟩
  | 38, _ => exact ⟨_, rfl, rfl⟩
  | 39, _ => exact ⟨_, rfl, rfl⟩
  | 40, _ => exact ⟨_, rfl, rfl⟩
  | 41, _ => exact ⟨_, rfl, rfl⟩
  | 42, _ => exact ⟨_, rfl, rfl⟩
  | 43, _ => exact ⟨_, rfl, rfl⟩
  | 44, _ => exact ⟨_, rfl, rfl⟩
  | n + 45, h => omega
theorem ws_d8 : ∀ j, j < 45 → tn_d tn_LT 74 j = false := by decide +kernel
theorem ws_m2 (a : Nat) (ha : 74 ≤ a) (j : Nat) : tn_2 a j = 0 := by
  rw [m2_o (by omega) (by omega) (by omega) (by omega) (by omega)]
  exact tn_0z (by omega) j
def ws_oj (k j : Nat) : Bool := match (tm_tm.getD k (0, 0, [])).2.2[j]? with | some (some _) => tn_d (tn_LM tn_LT) k j | _ => true
theorem ws_all : ∀ k, k < 102 → ∀ j, j < 45 → ws_oj k j = true := by decide +kernel
theorem ws_len : ∀ k, k < 102 → (tm_tm.getD k (0, 0, [])).2.2.length ≤ 45 := by decide +kernel
theorem ws_done : ∀ (k j q : Nat), k < 102 → (tm_tm.getD k (0, 0, [])).2.2[j]? = some (some q) → tn_d (tn_LM tn_LT) k j = true := by
  intro k j q hk hj
  have hl := (List.getElem?_eq_some_iff.mp hj).1
  have h1 := ws_all k hk j (Nat.lt_of_lt_of_le hl (ws_len k hk))
  unfold ws_oj at h1
  rw [hj] at h1
  exact h1
theorem ws_walk {E : tm_Ev} {X : tm_X} {Q : State → Prop} {sb : Nat} (C : tn_C E X "TideMillLaw" cL_law 4 20 600000 7302250 0) (k : tl_V E X Q 4 16 [(2, .ref (E.2.1 74)), (1, .ref (E.2.1 0)), (0, .ref sb)] [] (tn_3 tn_2)) : tn_V E X Q 4 0 [(0, .ref sb)] [] tn_0 0 [] 0 0 := by
  have hE := C.2.2.2.2.2.2.2.1
  refine tn_new (pc := 0) C (by decide) (by decide) rfl cls_7 kk_L_7 in_7 it_7 (tn_dflt (fun j q hj h => rfl) (fun j => tn_0z (by decide) j) ws_t7) (by decide) (by decide) dL_law_0 ?_
  refine tn_dup (pc := 3) C dL_law_3 rfl ?_
  refine tn_callI (pc := 4) (k := 0) [] [.ref (E.2.1 0)] C (n7_init E _ hE) ci_L_9 (by decide) (by decide) (by decide) rfl (Nat.le_of_ble_eq_true rfl) rfl rfl rfl (by decide) (by decide) dL_law_4 ?_
  refine tn_astore_n (pc := 7) [(1, .ref (E.2.1 0)), (0, .ref sb)] C dL_law_7 rfl (by decide) rfl ?_
  refine tn_new (pc := 8) C (by decide) (by decide) rfl cls_8 kk_L_10 in_8 it_8 (tn_dflt (fun j q hj h => ws_d8 j hj) (fun j => ws_m2 74 (by decide) j) ws_t8) (by decide) (by decide) dL_law_8 ?_
  refine tn_dup (pc := 11) C dL_law_11 rfl ?_
  refine tn_callI (pc := 12) (k := 74) [] [.ref (E.2.1 74)] C (n8_init E _ hE tn_2 tn_LT (fun a ha j => ws_m2 a (by omega) j)) ci_L_12 (by decide) (by decide) (by decide) rfl (Nat.le_of_ble_eq_true rfl) rfl rfl rfl (by decide) (by decide) dL_law_12 ?_
  refine tn_astore_n (pc := 15) [(2, .ref (E.2.1 74)), (1, .ref (E.2.1 0)), (0, .ref sb)] C dL_law_15 rfl (by decide) rfl ?_
  intro ls H locs hl hP hS
  rw [tn_done ws_done] at hP
  exact W.widen (by decide) (by decide) (k ls H locs hl hP hS)

/-! THE CLAIM OUT OF ONE WALK OF THE LAW'S BODY. Your part is whole_start (and what it stands on); all else here is the same for every law, but numbers. -/
def R_law : String := "TideMillLaw"
def lw_P (b : Addr) (xs : List Int32) (args : Array Value) (s : State) : Prop := args = #[.ref b] ∧ s.IntsAt b xs ∧ xs.length ≤ 384 ∧ (Jvm.Cond.and given_1 narrow_1).before args s = true
def lw_Q (_ : Array Value) (s : State) (o : Outcome) (t : State) : Prop := o = .returned (some (.int 1)) ∧ Framed s o t [] 600000 7302250
def lw_Z (below : List Frame) (a : Array Value) (s : State) : State → Prop := fun t => ∃ o, t.status = .running ∧ Ended t below o ∧ lw_Q a s o t
/-- the law's own end, with 1 on the stack, nothing written that was there before, its room as the claim has it -/
theorem lw_ret {p : Program} {l : Launch} {e : Env} {s : State} {m : MethodId} {below : List Frame} {meth : Method} {c : Code} {b : Nat} (hx : p.tables.exec = Jvm.exec) (hb : c.code = code) (hr : meth.sig.returnType = ret) (hlocks : meth.locks = false) {pc : Nat} {H : Heap} {ls : Array Slot} (hdg : decode code pc = .ok (.ireturn, 1)) : W p l e room_1 s m #[Value.ref b] below meth c H [] 600000 7302250 (lw_Z below #[Value.ref b] s) (F0 m pc ls [.int 1]) := by
  intro T hT X
  obtain ⟨fs, hret, hrun, hended, hW, hframe⟩ := X.leave (v := some (.int 1)) (hlocks := hlocks) (fun h => by rw [hr] at h; cases h)
  have hmeth' : T.vm.method? m = some meth := X.method'
  refine ⟨T.setFrames fs, ?_, .returned (some (.int 1)), hrun, hended, rfl, ⟨_, rfl⟩, hW, hframe⟩
  jvm_step X.here [X.here.top, hx, hb, hdg, hmeth', hr, ret, narrow_b1]
  (try refine ⟨rfl, ?_⟩); (try refine ⟨rfl, ?_⟩)
  first | (intro acts; rw [hret _ acts rfl rfl rfl]) | rw [hret _ _ rfl rfl rfl]
  exact Steps.refl _
/-- what holds at the law's entry: the machine, the code, the tables' words (any of lw_tbl by 'hts w (by decide +kernel)'), the script of L ints xs at the cell b, what the Statement gives of the start (any of its parts by flat_of_before) -/
def lw_At (p : Program) (s : State) (m : MethodId) (meth : Method) (c : Code) (b L : Nat) (xs : Nat → Int32) : Prop :=
  p.tables.exec = Jvm.exec ∧ c.code = code ∧ meth.sig.returnType = ret ∧ c.maxLocals = 4 ∧ s.vm.findClass R_law = some m.cls ∧ (∀ w ∈ lw_tbl, w.before #[Value.ref b] s = true) ∧ va_X b L xs s s.heap ∧ b < s.heap.size ∧ meth.locks = false ∧ (Jvm.Cond.and given_1 narrow_1).before #[Value.ref b] s = true
theorem whole_start {p : Program} {e : Env} {s : State} {m : MethodId} {below : List Frame} {meth : Method} {c : Code} (l : Launch) {b L : Nat} {xs : Nat → Int32} (hL : L ≤ 384) (C0 : lw_At p s m meth c b L xs) : W p l e room_1 s m #[Value.ref b] below meth c s.heap [] 0 0 (lw_Z below #[Value.ref b] s) (entryFrame m ([Value.ref b] : List Value).toArray 4) := by
  obtain ⟨h1, h2, h3, h4, h5, h6, h7, h8, h9, h10⟩ := C0
  obtain ⟨E, eA, eB, K1, K2⟩ := st_E h6 h10
  have hT : ∀ w ∈ tm_tbl, w.before #[Value.ref b] s = true := fun w hw => h6 w (List.mem_filter.mp hw).1
  have CL : tl_C E (p, l, e, room_1, s, m, #[Value.ref b], below, meth, c) RL cL_law 4 b L xs := ⟨h1, h2, h4, h5, hT, K1, rfl, h7, h8, fun q => by
    have q : E.2.2.2.2 ≤ b := q
    omega, hL⟩
  have CN : tn_C E (p, l, e, room_1, s, m, #[Value.ref b], below, meth, c) "TideMillLaw" cL_law 4 20 600000 7302250 0 := ⟨h1, h2, h4, h5, hT, K1, ⟨show 20 ≤ 2048 by decide, show 40 * 20 ≤ 84000 by decide, Nat.le_refl _, Nat.le_refl _⟩, fun k _ => by rw [eA, eB], K2, by rw [eB]; rfl⟩
  have KE : ∀ (lv : List (Nat × Value)) (μ : tm_M), tl_V E (p, l, e, room_1, s, m, #[Value.ref b], below, meth, c) (lw_Z below #[Value.ref b] s) 4 1138 lv [] μ := by
    intro lv μ
    refine tl_iconst CL dL_law_1138 ?_
    intro ls H locs hl hP hS
    refine va_forget (fun q hq => ?_) ?_
    · have h := hS.2.2 q hq
      have h : E.2.2.2.2 ≤ q.base := h
      rw [eB] at h
      exact h
    · exact lw_ret h1 h2 h3 h9 dL_law_1139
  have V := ws_walk (sb := b) (Q := lw_Z below #[Value.ref b] s) CN (by
    refine tl_iconst CL dL_law_16 ?_
    refine tl_istore_n [(3, tm_i ((0 : Nat) : Int)), (2, .ref (E.2.1 74)), (1, .ref (E.2.1 0)), (0, .ref b)] CL dL_law_17 rfl (by decide) rfl ?_
    exact lc_loop CL KE (L + 6) 0 dd_0 ss_0 _ (by omega) (by omega) dd_0k ss_0k cl_0 rf_0)
  rw [lg_entry_eq]
  exact V _ s.heap [] (lv_entry [Value.ref b] (show 1 ≤ 4 by decide)) (fun k q hk => nomatch (show (none : Option (Nat × va_E)) = some q from hk)) va_S.rf
