/-! makers: contracts, calls, the clone -/
def tn_Qc (E : tm_Ev) (μ' : tm_M) (n' : Nat) (L' : List (Nat × Nat)) : Array Value → State → Outcome → State → Prop := fun _ st oc t => (oc = .returned none ∧ va_P E.1 vwCl (tn_ws E μ' n' L') t.heap) ∧ va_F (tm_A E) st t
def tn_Q (E : tm_Ev) (X : tm_X) (μ' : tm_M) (n' : Nat) (L' : List (Nat × Nat)) (mc ms : Nat) : State → Prop := MQ X.2.2.2.2.2.2.2.1 (tn_Qc E μ' n' L') X.2.2.2.2.2.2.1 X.2.2.2.2.1 mc ms (tm_A E)
def tn_B (E : tm_Ev) (μ : tm_M) (n : Nat) (L : List (Nat × Nat)) (U : State) : Prop := va_P E.1 vwCl (tn_ws E μ n L) U.heap ∧ tm_K E U ∧ tn_K E U ∧ U.heap.size = E.2.2.2.2 + n
def tn_Met (E : tm_Ev) (l : Launch) (y : MethodName) (cc : ByteArray) (nL d mc ms n : Nat) (As : List Value) (μ : tm_M) (L : List (Nat × Nat)) (n' : Nat) (μ' : tm_M) (L' : List (Nat × Nat)) : Prop :=
  Met l y (.code y cc nL none :: tm_tbl) (tn_rm d mc ms) (va_Pc As (tn_B E μ n L)) (tn_Qc E μ' n' L') mc ms (tm_A E)
theorem tn_blind {E : tm_Ev} {As : List Value} {μ : tm_M} {n : Nat} {L : List (Nat × Nat)} : FrameBlind (va_Pc As (tn_B E μ n L)) := by
  intro a U g mk h
  exact ⟨h.1, h.2.1, tm_K_call h.2.2.1, tn_K_call h.2.2.2.1, h.2.2.2.2⟩
theorem tn_intro {E : tm_Ev} {l : Launch} {y : MethodName} {cc : ByteArray} {nL d mc ms n : Nat} {As : List Value} {μ : tm_M} {L : List (Nat × Nat)} {n' : Nat} {μ' : tm_M} {L' : List (Nat × Nat)} (hE : ∀ k, k < 102 → E.2.1 k = E.2.2.2.2 + k) (lv : List (Nat × Value)) (hlv : lv_args 0 As = lv) (hy : plainName y.cls = true) (hyn : y.name = "<init>") (hn : (lg_sl As).length ≤ nL)
    (h : ∀ X : tm_X, X.2.1 = l → tn_C E X y.cls cc nL d mc ms n → X.2.2.2.2.2.2.2.2.1.name = "<init>" → X.2.2.2.2.2.2.2.2.1.sig.returnType = none → X.2.2.2.2.2.2.2.2.1.locks = false → tn_V E X (tn_Q E X μ' n' L' mc ms) nL 0 lv [] μ n L 0 0) : tn_Met E l y cc nL d mc ms n As μ L n' μ' L' := by
  subst hlv
  refine Met.ofW (cc := cc) (maxL := nL) (ret := none) hy rfl ?_
  intro p e s m args below meth c s₁ B hml hv
  obtain ⟨rfl, hP, hK, hN, hz⟩ := hv
  have hts := atoms_spec (ws := .code y cc nL none :: tm_tbl) B.pre
  have hC : tn_C E (p, l, e, tn_rm d mc ms, s, m, As.toArray, below, meth, c) y.cls cc nL d mc ms n := ⟨B.exec, B.bytes, hml, findClass_of_methodNamed B.named, fun w h => hts w (List.mem_cons_of_mem _ h), hK, ⟨Nat.le_refl _, Nat.le_refl _, Nat.le_refl _, Nat.le_refl _⟩, hE, hN, hz⟩
  have h2 := h _ rfl hC ((name_of_methodNamed B.named B.method).1.trans hyn) B.returns B.notSynchronized _ s.heap [] (lv_entry As hn) hP va_S.rf
  rw [lg_entry_eq]
  exact h2
theorem tn_vret {E : tm_Ev} {X : tm_X} {own : String} {cc : ByteArray} {nL pc nn : Nat} {LL : List (Nat × Nat)} {c1 s1 d mc ms n0 : Nat} {lv : List (Nat × Value)} {μ : tm_M} (C : tn_C E X own cc nL d mc ms n0) (hr : X.2.2.2.2.2.2.2.2.1.sig.returnType = none) (hk : X.2.2.2.2.2.2.2.2.1.locks = false) (hd : decode cc pc = .ok (.return_, 1)) : tn_V E X (tn_Q E X μ nn LL c1 s1) nL pc lv [] μ nn LL c1 s1 := by
  intro ls H locs hl hP hS
  exact W.vret C.1 C.2.1 hr (fun t ht hW => ⟨⟨rfl, by rw [ht]; exact hP⟩, hS.F ht⟩) hS.2.2 hd hk
theorem tn_mem {E : tm_Ev} {X : tm_X} {Q : State → Prop} {nL pc : Nat} {nn : Nat} {LL : List (Nat × Nat)} {c1 s1 : Nat} {lv : List (Nat × Value)} {st : List Value} {μ : tm_M} (μ1 : tm_M) (h : μ = μ1) (k : tn_V E X Q nL pc lv st μ1 nn LL c1 s1) : tn_V E X Q nL pc lv st μ nn LL c1 s1 := by
  subst h
  exact k
theorem tn_after {E : tm_Ev} {μ' : tm_M} {n' : Nat} {L' : List (Nat × Nat)} {p : Program} {l : Launch} {e : Env} {R : Room} {s : State} {m : MethodId} {args a : Array Value} {below : List Frame} {meth : Method} {c : Code} {H : Heap} {locs : List Loc} {Q : State → Prop} {pc c1 s1 mc ms : Nat} {ls : Array Slot} {rest st0 : List Value}
    (hr : va_Run p l e R s m args below meth c H locs c1 s1 mc ms (F0 m pc ls st0) rest (tn_Qc E μ' n' L' a) (tm_A E)) (hS : va_S (tm_A E) s.heap H locs)
    (kk : ∀ (H1 : Heap) (locs1 : List Loc), va_P E.1 vwCl (tn_ws E μ' n' L') H1 → va_S (tm_A E) s.heap H1 locs1 → W p l e R s m args below meth c H1 locs1 (c1 + mc) (s1 + ms) Q (F0 m (pc + 3) ls rest)) : W p l e R s m args below meth c H locs c1 s1 Q (F0 m pc ls st0) := by
  intro T hT X
  obtain ⟨v, st₀, t, T', L, h0, X', hL, e1, e2, ⟨⟨hv, hb⟩, hz, hk⟩, st⟩ := hr T hT X
  cases hv
  rw [h0] at hz hk
  obtain ⟨t2, a1, b1⟩ := kk T'.heap (locs ++ L) (by rw [e1]; exact hb)
    ⟨Nat.le_trans hS.1 (by rw [e1]; exact hz), fun q h1 h2 => by rw [e1, hk q (Nat.lt_of_lt_of_le h1 hS.1) h2]; exact hS.2.1 q h1 h2, fun q hq => (List.mem_append.mp hq).elim (hS.2.2 q) (fun h => hL q h)⟩ T' rfl X'
  exact ⟨t2, st t2 a1, b1⟩
def tn_ci (own : String) (ix : Nat) (y : MethodName) (cc : ByteArray) (nL na : Nat) : Prop := Cond.methodLink own ix y ∈ tm_tbl ∧ Cond.instanceMethod y ∈ tm_tbl ∧ Cond.initialized y.cls ∈ tm_tbl ∧ Cond.code y cc nL none ∈ tm_tbl ∧ tm_nm y na ∧ nL ≤ 20 ∧ y.name = "<init>"
def tn_cn (own : String) (ix : Nat) (y : MethodName) (cc : ByteArray) (nL na : Nat) : Prop := Cond.methodLinkNest own ix y RX7 ∈ tn_nst ∧ Cond.instanceMethod y ∈ tm_tbl ∧ Cond.initialized y.cls ∈ tm_tbl ∧ Cond.code y cc nL none ∈ tm_tbl ∧ tm_nm y na ∧ nL ≤ 20 ∧ y.name = "<init>"
theorem tn_callI {E : tm_Ev} {X : tm_X} {Q : State → Prop} {own : String} {cc : ByteArray} {nL : Nat} {pc : Nat} {nn : Nat} {LL : List (Nat × Nat)} {c1 s1 d mc ms n0 : Nat} {lv : List (Nat × Value)} {st : List Value} {μ : tm_M} {ix k n' d' mc' ms' nL' na c2 s2 : Nat} {y : MethodName} {cc' : ByteArray} {μ' : tm_M} {L' : List (Nat × Nat)} (As rest : List Value) (C : tn_C E X own cc nL d mc ms n0) (hM : tn_Met E X.2.1 y cc' nL' d' mc' ms' nn (.ref (E.2.1 k) :: As) μ LL n' μ' L') (cw : tn_ci own ix y cc' nL' na) (hn : n0 + c1 = nn) (h102 : nn ≤ 102) (hdd : d' < d) (hna : As.length = na) (hr : (rest.map fun v => v.category).sum ≤ 8) (hst : st = As.reverse ++ .ref (E.2.1 k) :: rest) (hc : c1 + mc' = c2) (hs : s1 + ms' = s2) (hc2 : c2 ≤ mc) (hs2 : s2 ≤ ms) (hd : decode cc pc = .ok (.invokespecial ix, 3)) (kk : tn_V E X Q nL (pc + 3) lv rest μ' n' L' c2 s2) : tn_V E X Q nL pc lv st μ nn LL c1 s1 := by
  intro ls H locs hl hP hS
  subst hst
  subst hc hs
  obtain ⟨w1, w2, w3, w4, w5, w6, w7⟩ := cw
  have hT := C.2.2.2.2.1
  have hRR := C.2.2.2.2.2.2.1
  have hR : (tn_rm d' mc' ms').frames + 1 ≤ X.2.2.2.1.frames ∧ 8 + (nL' + 11) + (tn_rm d' mc' ms').locals ≤ X.2.2.2.1.locals := by
    show d' + 1 ≤ _ ∧ 8 + (nL' + 11) + 40 * d' ≤ _
    omega
  refine tn_ws_size C.2.2.2.2.2.2.2.1 h102 C.2.2.2.2.2.2.2.2.2 hn hP hS (fun hsz => ?_)
  refine tn_after (va_runI (As := As) (rest := rest) ⟨C.1, C.2.1, C.2.2.1, C.2.2.2.1, hT⟩ hM ⟨callB_of na hT (tm_good w4) rfl rfl rfl (hT _ w3) (hT _ w1) w5 hR, w7, hT _ w2⟩ ⟨tn_blind, fun U hU hW => ⟨rfl, by rw [hU]; exact hP, tm_K_step C.2.2.2.2.2.1 hS hU hW, tn_K_step C.2.2.2.2.2.2.2.2.1 hS hU hW, by rw [hU]; exact hsz⟩⟩ rfl hna hl.1 rfl (lv_room hr) hd ⟨by omega, by omega⟩) hS ?_
  intro H1 locs1 hP1 hS1
  exact kk ls H1 locs1 hl hP1 hS1
theorem tn_callN {E : tm_Ev} {X : tm_X} {Q : State → Prop} {own : String} {cc : ByteArray} {nL : Nat} {pc : Nat} {nn : Nat} {LL : List (Nat × Nat)} {c1 s1 d mc ms n0 : Nat} {lv : List (Nat × Value)} {st : List Value} {μ : tm_M} {ix k n' d' mc' ms' nL' na c2 s2 : Nat} {y : MethodName} {cc' : ByteArray} {μ' : tm_M} {L' : List (Nat × Nat)} (As rest : List Value) (C : tn_C E X own cc nL d mc ms n0) (hM : tn_Met E X.2.1 y cc' nL' d' mc' ms' nn (.ref (E.2.1 k) :: As) μ LL n' μ' L') (cw : tn_cn own ix y cc' nL' na) (hn : n0 + c1 = nn) (h102 : nn ≤ 102) (hdd : d' < d) (hna : As.length = na) (hr : (rest.map fun v => v.category).sum ≤ 8) (hst : st = As.reverse ++ .ref (E.2.1 k) :: rest) (hc : c1 + mc' = c2) (hs : s1 + ms' = s2) (hc2 : c2 ≤ mc) (hs2 : s2 ≤ ms) (hd : decode cc pc = .ok (.invokespecial ix, 3)) (kk : tn_V E X Q nL (pc + 3) lv rest μ' n' L' c2 s2) : tn_V E X Q nL pc lv st μ nn LL c1 s1 := by
  intro ls H locs hl hP hS
  subst hst
  subst hc hs
  obtain ⟨w1, w2, w3, w4, w5, w6, w7⟩ := cw
  have hT := C.2.2.2.2.1
  have hRR := C.2.2.2.2.2.2.1
  have hR : (tn_rm d' mc' ms').frames + 1 ≤ X.2.2.2.1.frames ∧ 8 + (nL' + 11) + (tn_rm d' mc' ms').locals ≤ X.2.2.2.1.locals := by
    show d' + 1 ≤ _ ∧ 8 + (nL' + 11) + 40 * d' ≤ _
    omega
  refine tn_ws_size C.2.2.2.2.2.2.2.1 h102 C.2.2.2.2.2.2.2.2.2 hn hP hS (fun hsz => ?_)
  refine tn_after (va_runIN (As := As) (rest := rest) ⟨C.1, C.2.1, C.2.2.1, C.2.2.2.1, hT⟩ hM ⟨va_cnB na hT (tm_good w4) rfl rfl rfl (C.2.2.2.2.2.2.2.2.1.1 _ w1) (hT _ w3) w5 hR, w7, hT _ w2⟩ ⟨tn_blind, fun U hU hW => ⟨rfl, by rw [hU]; exact hP, tm_K_step C.2.2.2.2.2.1 hS hU hW, tn_K_step C.2.2.2.2.2.2.2.2.1 hS hU hW, by rw [hU]; exact hsz⟩⟩ rfl hna hl.1 rfl (lv_room hr) hd ⟨by omega, by omega⟩) hS ?_
  intro H1 locs1 hP1 hS1
  exact kk ls H1 locs1 hl hP1 hS1
theorem tn_clone {E : tm_Ev} {X : tm_X} {Q : State → Prop} {own : String} {cc : ByteArray} {nL : Nat} {pc : Nat} {nn : Nat} {LL : List (Nat × Nat)} {c1 s1 d mc ms n0 : Nat} {lv : List (Nat × Value)} {st : List Value} {μ : tm_M} {ix : Nat} {fs : List (Option Nat)} (C : tn_C E X own cc nL d mc ms n0) (hn : n0 + c1 = nn) (h102 : nn < 102) (ht : tm_tm[nn]? = some (1, 5, fs)) (hμ : ∀ j, j < 5 → μ nn j = (tm_sv 2).getD j 0) (w1 : Cond.methodLink own ix ⟨"[I", "clone", "()Ljava/lang/Object;"⟩ ∈ tm_tbl) (w2 : Cond.sameMethod "[I" "java/lang/Object" "clone" "()Ljava/lang/Object;" ∈ tm_tbl) (w3 : Cond.native ⟨"java/lang/Object", "clone", "()Ljava/lang/Object;"⟩ ∈ tm_tbl) (w4 : Cond.instanceMethod ⟨"java/lang/Object", "clone", "()Ljava/lang/Object;"⟩ ∈ tm_tbl) (w5 : Cond.selects "[I" ⟨"[I", "clone", "()Ljava/lang/Object;"⟩ ⟨"java/lang/Object", "clone", "()Ljava/lang/Object;"⟩ ∈ tm_tbl) (hc : c1 + 1 ≤ mc) (hs : s1 + 5 ≤ ms) (hd1 : 1 ≤ d) (hr : (st.map fun v => v.category).sum ≤ 8) (hd : decode cc pc = .ok (.invokevirtual ix, 3)) (kk : tn_V E X Q nL (pc + 3) lv (.ref (E.2.1 nn) :: st) μ (nn + 1) LL (c1 + 1) (s1 + 5)) : tn_V E X Q nL pc lv (.ref (E.2.2.2.1 2) :: st) μ nn LL c1 s1 := by
  intro ls H locs hl hP hS
  have hE := C.2.2.2.2.2.2.2.1
  refine tn_ws_size hE (by omega) C.2.2.2.2.2.2.2.2.2 hn hP hS (fun hsz => ?_)
  have hT := C.2.2.2.2.1
  have hR := C.2.2.2.2.2.2.1
  have hh : H.size = E.2.1 nn := by rw [hsz, hE nn h102]
  obtain ⟨cell, d1, d2, d3, d4, d5, d6, d7⟩ := C.2.2.2.2.2.2.2.2.1.2.2.2
  have hcH : H[E.2.2.2.1 2]? = some cell := by rw [hS.2.1 _ (Array.getElem?_eq_some_iff.mp d1).1 d7]; exact d1
  have hK0 := C.2.2.2.2.2.1.1.2 0 _ rfl
  have hnm : X.2.2.2.2.1.vm.findClass "[I" = some (E.2.2.1 0) := hK0.2
  obtain ⟨c0, t0', f1, f2, f3⟩ := Cond.castable_spec (va_Nw.use (A := X.2.2.2.2.2.2.1) rfl C.2.2.2.2.2.2.2.2.1.2.2.1)
  have hc0 : c0 = E.2.2.1 0 := Option.some.inj (f1.symm.trans hnm)
  subst hc0
  have hcellE : ({ cls := cell.cls, slots := cell.slots } : Cell) = vp_cell (E.2.2.1 0) (5, .inl (fun j => Int32.ofInt (μ nn j))) := by
    show ({ cls := cell.cls, slots := cell.slots } : Cell) = arrV (E.2.2.1 0) 5 (fun j => .int (Int32.ofInt (μ nn j)))
    have hsl : cell.slots = (arrV (E.2.2.1 0) 5 (fun j => .int (Int32.ofInt (μ nn j)))).slots := by
      apply Array.ext_getElem?
      intro i
      by_cases hi : i < 5
      · rw [d6 i hi, arrV_read _ _ hi, hμ i hi]
        rfl
      · rw [Array.getElem?_eq_none (by omega), Array.getElem?_eq_none (by rw [arrV_size]; omega)]
    rw [d2, hsl]
    rfl
  have key : W X.1 X.2.1 X.2.2.1 X.2.2.2.1 X.2.2.2.2.1 X.2.2.2.2.2.1 X.2.2.2.2.2.2.1 X.2.2.2.2.2.2.2.1 X.2.2.2.2.2.2.2.2.1 X.2.2.2.2.2.2.2.2.2 (H.push (vp_cell (E.2.2.1 0) (5, .inl (fun j => Int32.ofInt (μ nn j))))) locs (c1 + 1) (s1 + 5) Q (F0 X.2.2.2.2.2.1 (pc + 3) ls (.ref (E.2.1 nn) :: st)) := by
    generalize hH1 : H.push (vp_cell (E.2.2.1 0) (5, .inl (fun j => Int32.ofInt (μ nn j)))) = H1
    have z1 : H1.size = H.size + 1 := by rw [← hH1, Array.size_push]
    have e1 : H1[H.size]? = some (vp_cell (E.2.2.1 0) (5, .inl (fun j => Int32.ofInt (μ nn j)))) := by rw [← hH1, Array.getElem?_push_size]
    have o1 : ∀ q : Nat, q < H.size → H1[q]? = H[q]? := fun q hq => by rw [← hH1, Array.getElem?_push, if_neg (Nat.ne_of_lt hq)]
    have hk : ∀ (k : Nat) (x : Nat × va_E), (tn_ws E μ nn LL)[k]? = some x → H1[x.1]? = H[x.1]? := fun k x hx => o1 x.1 ((hP k x hx).lt)
    rw [hh] at e1
    refine kk ls H1 locs hl ?_ ⟨Nat.le_trans hS.1 (by omega), fun x a b => (o1 x (Nat.lt_of_lt_of_le a hS.1)).trans (hS.2.1 x a b), hS.2.2⟩
    rw [← tn_push ht]
    refine (hP.kept hk).app (fun k y hy => ?_)
    have hz : k < 1 := (List.getElem?_eq_some_iff.mp hy).1
    rw [show k = 0 by omega] at hy
    cases hy
    exact e1
  intro T0 hT0 X0
  obtain ⟨-, kA, hkA, comp, hkind⟩ := State.isArrayOf_alike X0.warmed.alike (hK0.1 0 (fun _ => .null))
  obtain ⟨-, kS, hkS, compS, hkindS⟩ := hK0.1 0 (fun _ => .null)
  obtain ⟨vm', X', st'⟩ := X0.cloneArray C.1 C.2.2.2.1 (hT _ w1) (hT _ w2) (hT _ w3) (hT _ w4) (hT _ w5) (a := E.2.2.2.1 2) (cell := cell) (by rw [hT0]; exact hcH) d4 d3 (by rw [d2]; exact hnm) f2 (by rw [d2]; exact f3)
    (fun i v hv => by
      rw [d2]
      have hi : i < 5 := by
        have := (Array.getElem?_eq_some_iff.mp hv).1
        omega
      rw [d6 i hi] at hv
      cases hv
      have hk' : T0.vm.classes[E.2.2.1 0]? = some kA := hkA
      simp [State.fitsSlot, State.slotType?, hk', hkind, tm_i, fits])
    (g := F0 X.2.2.2.2.2.1 pc ls (.ref (E.2.2.2.1 2) :: st)) rfl (hl.1.trans C.2.2.1.symm) rfl (by rw [C.2.1]; exact hd) (by omega) (by show 2 * 0 + _ + 14 ≤ _; omega) (by omega) (by rw [d5]; omega) (hloader := by rw [d2]; exact Vm.clonesLoader_of_array hkS hkindS)
  rw [hcellE, d5] at X'
  obtain ⟨t, b1, b2⟩ := key _ (by rw [← hT0]; rfl) X'
  refine ⟨t, st' t ?_, b2⟩
  rw [hcellE, hT0, hh]
  exact b1
