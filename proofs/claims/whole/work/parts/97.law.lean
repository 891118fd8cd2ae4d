/-! the law's own rows -/
def tl_V (E : tm_Ev) (X : tm_X) (Q : State → Prop) (nL pc : Nat) (lv : List (Nat × Value)) (st : List Value) (μ : tm_M) : Prop :=
  ∀ (ls : Array Slot) (H : Heap) (locs : List Loc), lv_has ls nL lv → va_P E.1 vwCl (tm_ws E μ) H → va_S (tm_A E) X.2.2.2.2.1.heap H locs →
    W X.1 X.2.1 X.2.2.1 X.2.2.2.1 X.2.2.2.2.1 X.2.2.2.2.2.1 X.2.2.2.2.2.2.1 X.2.2.2.2.2.2.2.1 X.2.2.2.2.2.2.2.2.1 X.2.2.2.2.2.2.2.2.2 H locs 600000 7302250 Q (F0 X.2.2.2.2.2.1 pc ls st)
def tl_C (E : tm_Ev) (X : tm_X) (own : String) (cc : ByteArray) (nL : Nat) (b L : Nat) (xs : Nat → Int32) : Prop :=
  X.1.tables.exec = Jvm.exec ∧ X.2.2.2.2.2.2.2.2.2.code = cc ∧ X.2.2.2.2.2.2.2.2.2.maxLocals = nL ∧ X.2.2.2.2.1.vm.findClass own = some X.2.2.2.2.2.1.cls ∧ (∀ w ∈ tm_tbl, w.before X.2.2.2.2.2.2.1 X.2.2.2.2.1 = true) ∧ tm_K E X.2.2.2.2.1 ∧ X.2.2.2.1 = room_1 ∧
  va_X b L xs X.2.2.2.2.1 X.2.2.2.2.1.heap ∧ b < X.2.2.2.2.1.heap.size ∧ ¬ tm_A E b ∧ L ≤ 384
theorem tl_aload_n {E : tm_Ev} {X : tm_X} {Q : State → Prop} {own : String} {cc : ByteArray} {nL : Nat} {pc : Nat} {sb L : Nat} {xs : Nat → Int32} {lv : List (Nat × Value)} {st : List Value} {μ : tm_M} {k : Fin 4} {i : Nat} {z : Nat} (q : Nat) (C : tl_C E X own cc nL sb L xs) (hd : decode cc pc = .ok (.aload_n k, 1)) (hi : (k : Nat) = i) (hq : lv[q]? = some (i, .ref z)) (kk : tl_V E X Q nL (pc + 1) lv (.ref z :: st) μ) : tl_V E X Q nL (pc) lv st μ := by
  intro ls H locs hl hP hS
  exact lv_aload_n C.1 C.2.1 hd hi (lv_at hl q hq) (kk ls H locs hl hP hS)
theorem tl_iload_n {E : tm_Ev} {X : tm_X} {Q : State → Prop} {own : String} {cc : ByteArray} {nL : Nat} {pc : Nat} {sb L : Nat} {xs : Nat → Int32} {lv : List (Nat × Value)} {st : List Value} {μ : tm_M} {k : Fin 4} {i : Nat} {z : Int} (q : Nat) (C : tl_C E X own cc nL sb L xs) (hd : decode cc pc = .ok (.iload_n k, 1)) (hi : (k : Nat) = i) (hq : lv[q]? = some (i, tm_i z)) (kk : tl_V E X Q nL (pc + 1) lv (tm_i z :: st) μ) : tl_V E X Q nL (pc) lv st μ := by
  intro ls H locs hl hP hS
  exact lv_iload_n C.1 C.2.1 hd hi (lv_at hl q hq) (kk ls H locs hl hP hS)
theorem tl_iconst {E : tm_Ev} {X : tm_X} {Q : State → Prop} {own : String} {cc : ByteArray} {nL : Nat} {pc : Nat} {sb L : Nat} {xs : Nat → Int32} {lv : List (Nat × Value)} {st : List Value} {μ : tm_M} {n : Int} (C : tl_C E X own cc nL sb L xs) (hd : decode cc pc = .ok (.iconst n, 1)) (k : tl_V E X Q nL (pc + 1) lv (tm_i n :: st) μ) : tl_V E X Q nL (pc) lv st μ := by
  intro ls H locs hl hP hS
  exact lv_iconst C.1 C.2.1 hd rfl (k ls H locs hl hP hS)
theorem tl_bipush {E : tm_Ev} {X : tm_X} {Q : State → Prop} {own : String} {cc : ByteArray} {nL : Nat} {pc : Nat} {sb L : Nat} {xs : Nat → Int32} {lv : List (Nat × Value)} {st : List Value} {μ : tm_M} {n : Int} (C : tl_C E X own cc nL sb L xs) (hd : decode cc pc = .ok (.bipush n, 2)) (hn : (Int8.ofInt n).toInt32 = Int32.ofInt n) (k : tl_V E X Q nL (pc + 2) lv (tm_i n :: st) μ) : tl_V E X Q nL (pc) lv st μ := by
  intro ls H locs hl hP hS
  exact lv_bipush C.1 C.2.1 hd hn (k ls H locs hl hP hS)
theorem tl_iadd {E : tm_Ev} {X : tm_X} {Q : State → Prop} {own : String} {cc : ByteArray} {nL : Nat} {pc : Nat} {sb L : Nat} {xs : Nat → Int32} {lv : List (Nat × Value)} {st : List Value} {μ : tm_M} {a b : Int} (C : tl_C E X own cc nL sb L xs) (hd : decode cc pc = .ok (.iadd, 1)) (k : tl_V E X Q nL (pc + 1) lv (tm_i (a + b) :: st) μ) : tl_V E X Q nL (pc) lv (tm_i b :: tm_i a :: st) μ := by
  intro ls H locs hl hP hS
  have k := k ls H locs hl hP hS
  unfold tm_i at k ⊢
  rw [Int32.ofInt_add] at k
  exact lv_iadd C.1 C.2.1 hd k
theorem tl_isub {E : tm_Ev} {X : tm_X} {Q : State → Prop} {own : String} {cc : ByteArray} {nL : Nat} {pc : Nat} {sb L : Nat} {xs : Nat → Int32} {lv : List (Nat × Value)} {st : List Value} {μ : tm_M} {a b : Int} (C : tl_C E X own cc nL sb L xs) (hd : decode cc pc = .ok (.isub, 1)) (k : tl_V E X Q nL (pc + 1) lv (tm_i (a - b) :: st) μ) : tl_V E X Q nL (pc) lv (tm_i b :: tm_i a :: st) μ := by
  intro ls H locs hl hP hS
  have k := k ls H locs hl hP hS
  unfold tm_i at k ⊢
  rw [Int32.ofInt_sub] at k
  exact lv_isub C.1 C.2.1 hd k
theorem tl_iand {E : tm_Ev} {X : tm_X} {Q : State → Prop} {own : String} {cc : ByteArray} {nL : Nat} {pc : Nat} {sb L : Nat} {xs : Nat → Int32} {lv : List (Nat × Value)} {st : List Value} {μ : tm_M} {a b z : Int} (C : tl_C E X own cc nL sb L xs) (hd : decode cc pc = .ok (.iand, 1)) (hz : Int32.ofInt a &&& Int32.ofInt b = Int32.ofInt z) (k : tl_V E X Q nL (pc + 1) lv (tm_i z :: st) μ) : tl_V E X Q nL (pc) lv (tm_i b :: tm_i a :: st) μ := by
  intro ls H locs hl hP hS
  have k := k ls H locs hl hP hS
  unfold tm_i at k ⊢
  rw [← hz] at k
  exact lv_iand C.1 C.2.1 hd k
theorem tl_istore_n {E : tm_Ev} {X : tm_X} {Q : State → Prop} {own : String} {cc : ByteArray} {nL : Nat} {pc : Nat} {sb L : Nat} {xs : Nat → Int32} {lv : List (Nat × Value)} {st : List Value} {μ : tm_M} {k : Fin 4} {i : Nat} {z : Int} (lv1 : List (Nat × Value)) (C : tl_C E X own cc nL sb L xs) (hd : decode cc pc = .ok (.istore_n k, 1)) (hi : (k : Nat) = i) (hn : i < nL) (hv : (i, tm_i z) :: lv.filter (fun q => !(q.1 == i) && !(q.1 + 1 == i && q.2.category == 2)) = lv1) (kk : tl_V E X Q nL (pc + 1) lv1 st μ) : tl_V E X Q nL (pc) lv (tm_i z :: st) μ := by
  intro ls H locs hl hP hS
  exact lv_istore_n C.1 C.2.1 hd hi hl hn hv (fun ls hl => kk ls H locs hl hP hS)
theorem tl_icmp_gt {E : tm_Ev} {X : tm_X} {Q : State → Prop} {own : String} {cc : ByteArray} {nL : Nat} {pc : Nat} {sb L : Nat} {xs : Nat → Int32} {lv : List (Nat × Value)} {st : List Value} {μ : tm_M} {a b off : Int} (tgt : Nat) (C : tl_C E X own cc nL sb L xs) (hd : decode cc pc = .ok (.if_icmp .gt off, 3)) (ht : (pc : Int) + off = (tgt : Int)) (ha : -2147483648 ≤ a ∧ a ≤ 2147483647) (hb : -2147483648 ≤ b ∧ b ≤ 2147483647) (kt : b < a → tl_V E X Q nL (tgt) lv st μ) (kf : a ≤ b → tl_V E X Q nL (pc + 3) lv st μ) : tl_V E X Q nL (pc) lv (tm_i b :: tm_i a :: st) μ := by
  intro ls H locs hl hP hS
  exact lv_icmp_gt C.1 C.2.1 hd ht (fun q => kt ((tm_lti hb ha).mp q) ls H locs hl hP hS) (fun q => kf (Int.not_lt.mp fun z => q ((tm_lti hb ha).mpr z)) ls H locs hl hP hS)
theorem tl_goto {E : tm_Ev} {X : tm_X} {Q : State → Prop} {own : String} {cc : ByteArray} {nL : Nat} {pc : Nat} {sb L : Nat} {xs : Nat → Int32} {lv : List (Nat × Value)} {st : List Value} {μ : tm_M} {off : Int} (tgt : Nat) (C : tl_C E X own cc nL sb L xs) (hd : decode cc pc = .ok (.goto off, 3)) (ht : (pc : Int) + off = (tgt : Int)) (k : tl_V E X Q nL (tgt) lv st μ) : tl_V E X Q nL (pc) lv st μ := by
  intro ls H locs hl hP hS
  exact lv_goto C.1 C.2.1 hd ht (k ls H locs hl hP hS)
theorem tl_iinc {E : tm_Ev} {X : tm_X} {Q : State → Prop} {own : String} {cc : ByteArray} {nL : Nat} {pc : Nat} {sb L : Nat} {xs : Nat → Int32} {lv : List (Nat × Value)} {st : List Value} {μ : tm_M} {i : Nat} {n z : Int} (q : Nat) (lv1 : List (Nat × Value)) (C : tl_C E X own cc nL sb L xs) (hd : decode cc pc = .ok (.iinc i n, 3)) (hq : lv[q]? = some (i, tm_i z)) (hn : i < nL) (hv : (i, tm_i (z + n)) :: lv.filter (fun q => !(q.1 == i) && !(q.1 + 1 == i && q.2.category == 2)) = lv1) (kk : tl_V E X Q nL (pc + 3) lv1 st μ) : tl_V E X Q nL (pc) lv st μ := by
  intro ls H locs hl hP hS
  exact lv_iinc C.1 C.2.1 hd hl hq (v := Int32.ofInt (z + n)) (Int32.ofInt_add z n).symm hn hv (fun ls hl => kk ls H locs hl hP hS)
theorem tl_tabI {E : tm_Ev} {X : tm_X} {Q : State → Prop} {own : String} {cc : ByteArray} {nL : Nat} {pc : Nat} {sb L : Nat} {xs : Nat → Int32} {lv : List (Nat × Value)} {st : List Value} {μ : tm_M} {a dflt lo hi off : Int} {offs : Array Int} {len : Nat} (tgt : Nat) (C : tl_C E X own cc nL sb L xs) (hd : decode cc pc = .ok (.tableswitch dflt lo hi offs, len)) (ha : -2147483648 ≤ a ∧ a ≤ 2147483647) (h1 : lo ≤ a ∧ a ≤ hi) (ho : offs[(a - lo).toNat]? = some off) (ht : (pc : Int) + off = (tgt : Int)) (k : tl_V E X Q nL (tgt) lv st μ) : tl_V E X Q nL (pc) lv (tm_i a :: st) μ := by
  intro ls H locs hl hP hS
  exact lv_tableIn C.1 C.2.1 hd (by rw [tm_ti ha]; omega) (by rw [tm_ti ha]; omega) (by rw [tm_ti ha]; exact ho) ht (k ls H locs hl hP hS)
theorem tl_tabO {E : tm_Ev} {X : tm_X} {Q : State → Prop} {own : String} {cc : ByteArray} {nL : Nat} {pc : Nat} {sb L : Nat} {xs : Nat → Int32} {lv : List (Nat × Value)} {st : List Value} {μ : tm_M} {a dflt lo hi : Int} {offs : Array Int} {len : Nat} (tgt : Nat) (C : tl_C E X own cc nL sb L xs) (hd : decode cc pc = .ok (.tableswitch dflt lo hi offs, len)) (ha : -2147483648 ≤ a ∧ a ≤ 2147483647) (h1 : a < lo ∨ hi < a) (ht : (pc : Int) + dflt = (tgt : Int)) (k : tl_V E X Q nL (tgt) lv st μ) : tl_V E X Q nL (pc) lv (tm_i a :: st) μ := by
  intro ls H locs hl hP hS
  exact lv_tableOut C.1 C.2.1 hd (by rw [tm_ti ha]; exact h1) ht (k ls H locs hl hP hS)
theorem tl_sub {E : tm_Ev} {X : tm_X} {Q : State → Prop} {nL pc : Nat} {lv lv1 : List (Nat × Value)} {st : List Value} {μ : tm_M} (ks : List Nat) (hp : lv_pick lv ks = lv1) (k : tl_V E X Q nL pc lv1 st μ) : tl_V E X Q nL pc lv st μ := by
  intro ls H locs hl hP hS
  exact k ls H locs (lv_sub hl ks hp) hP hS
theorem tl_r (x : Int32) : -2147483648 ≤ x.toInt ∧ x.toInt ≤ 2147483647 := ⟨Int32.le_toInt x, by have := Int32.toInt_lt x; omega⟩
theorem tl_sld {E : tm_Ev} {X : tm_X} {Q : State → Prop} {own : String} {cc : ByteArray} {nL : Nat} {pc : Nat} {sb L : Nat} {xs : Nat → Int32} {lv : List (Nat × Value)} {st : List Value} {μ : tm_M} {z : Int} (C : tl_C E X own cc nL sb L xs) (hz : 0 ≤ z ∧ z < (L : Int)) (hd : decode cc pc = .ok (.iaload, 1)) (k : tl_V E X Q nL (pc + 1) lv (tm_i (xs z.toNat).toInt :: st) μ) : tl_V E X Q nL pc lv (tm_i z :: .ref sb :: st) μ := by
  intro ls H locs hl hP hS
  obtain ⟨c1, c2, -, -, -, -, -, h1, h2, h3, h4⟩ := C
  have k := k ls H locs hl hP hS
  rw [← tm_toI] at k
  refine va_sld c1 c2 h1 h2 h3 hS (tm_in (by omega) hz) hd ?_
  rw [tm_cl (by omega)]
  exact k
theorem tl_slen {E : tm_Ev} {X : tm_X} {Q : State → Prop} {own : String} {cc : ByteArray} {nL : Nat} {pc : Nat} {sb L : Nat} {xs : Nat → Int32} {lv : List (Nat × Value)} {st : List Value} {μ : tm_M} (C : tl_C E X own cc nL sb L xs) (hd : decode cc pc = .ok (.arraylength, 1)) (k : tl_V E X Q nL (pc + 1) lv (tm_i (L : Int) :: st) μ) : tl_V E X Q nL pc lv (.ref sb :: st) μ := by
  intro ls H locs hl hP hS
  obtain ⟨c1, c2, -, -, -, -, -, h1, h2, h3, h4⟩ := C
  refine va_slen c1 c2 h1 h2 h3 hS hd ?_
  have k := k ls H locs hl hP hS
  have e : tm_i (L : Int) = .int (Int32.ofNat L) := by
    unfold tm_i
    rw [Int32.ofInt_eq_ofNat]
  rw [e] at k
  exact k
theorem tl_arg {E : tm_Ev} {X : tm_X} {Q : State → Prop} {own : String} {cc : ByteArray} {nL : Nat} {pc : Nat} {sb L : Nat} {xs : Nat → Int32} {lv : List (Nat × Value)} {st : List Value} {μ : tm_M} {i j z : Nat} {n : Int} {k0 k3 : Fin 4} (q0 q3 : Nat) (C : tl_C E X own cc nL sb L xs) (hz : i + j = z) (hzL : z < L) (hn : n = (j : Int)) (h0 : (k0 : Nat) = 0) (h3 : (k3 : Nat) = 3) (hq0 : lv[q0]? = some (0, .ref sb)) (hq3 : lv[q3]? = some (3, tm_i (i : Int))) (d0 : decode cc pc = .ok (.aload_n k0, 1)) (d1 : decode cc (pc + 1) = .ok (.iload_n k3, 1)) (d2 : decode cc (pc + 2) = .ok (.iconst n, 1)) (d3 : decode cc (pc + 3) = .ok (.iadd, 1)) (d4 : decode cc (pc + 4) = .ok (.iaload, 1)) (k : tl_V E X Q nL (pc + 5) lv (tm_i (xs z).toInt :: st) μ) : tl_V E X Q nL pc lv st μ := by
  subst hz hn
  refine tl_aload_n q0 C d0 h0 hq0 ?_
  refine tl_iload_n q3 C d1 h3 hq3 ?_
  refine tl_iconst C d2 ?_
  refine tl_iadd C d3 ?_
  refine tl_sld C (by omega) d4 ?_
  rw [show ((i : Int) + (j : Int)).toNat = i + j by omega]
  exact k
theorem tl_eqi {E : tm_Ev} {X : tm_X} {Q : State → Prop} {own : String} {cc : ByteArray} {nL : Nat} {pc : Nat} {sb L : Nat} {xs : Nat → Int32} {lv : List (Nat × Value)} {st : List Value} {μ : tm_M} {z off : Int} (tgt : Nat) (C : tl_C E X own cc nL sb L xs) (hd : decode cc pc = .ok (.if_icmp .eq off, 3)) (ht : (pc : Int) + off = (tgt : Int)) (k : tl_V E X Q nL tgt lv st μ) : tl_V E X Q nL pc lv (tm_i z :: tm_i z :: st) μ := by
  intro ls H locs hl hP hS
  exact lv_icmp_eq C.1 C.2.1 hd ht (fun _ => k ls H locs hl hP hS) (fun q => absurd rfl q)
theorem tl_eql {E : tm_Ev} {X : tm_X} {Q : State → Prop} {own : String} {cc : ByteArray} {nL : Nat} {pc : Nat} {sb L : Nat} {xs : Nat → Int32} {lv : List (Nat × Value)} {st : List Value} {μ : tm_M} {z off : Int} (tgt : Nat) (C : tl_C E X own cc nL sb L xs) (hd0 : decode cc pc = .ok (.lcmp, 1)) (hd : decode cc (pc + 1) = .ok (.ifCond .eq off, 3)) (ht : ((pc + 1 : Nat) : Int) + off = (tgt : Int)) (k : tl_V E X Q nL tgt lv st μ) : tl_V E X Q nL pc lv (tm_l z :: tm_l z :: st) μ := by
  intro ls H locs hl hP hS
  refine W.lcmp C.1 C.2.1 hd0 ?_
  exact lv_if_eq C.1 C.2.1 hd ht (fun _ => k ls H locs hl hP hS) (fun q => absurd ((lg_cmp_eq _ _).mpr rfl) q)
theorem tl_after {E : tm_Ev} {post : Option Value → tm_M → Prop} {p : Program} {l : Launch} {e : Env} {R : Room} {s : State} {m : MethodId} {args a : Array Value} {below : List Frame} {meth : Method} {c : Code} {H : Heap} {locs : List Loc} {Q : State → Prop} {pc c1 s1 : Nat} {ls : Array Slot} {rest st0 : List Value}
    (hr : va_Run p l e R s m args below meth c H locs c1 s1 0 0 (F0 m pc ls st0) rest (tm_Qc E post a) (tm_A E)) (hS : va_S (tm_A E) s.heap H locs)
    (kk : ∀ (v : Option Value) (μ' : tm_M), post v μ' → ∀ (H1 : Heap) (locs1 : List Loc), va_P E.1 vwCl (tm_ws E μ') H1 → va_S (tm_A E) s.heap H1 locs1 → W p l e R s m args below meth c H1 locs1 c1 s1 Q (F0 m (pc + 3) ls (v.toList ++ rest))) : W p l e R s m args below meth c H locs c1 s1 Q (F0 m pc ls st0) := by
  intro T hT X
  obtain ⟨v, st₀, t, T', L, h0, X', hL, e1, e2, ⟨⟨v', μ', hv, hp, hb⟩, hz, hk⟩, st⟩ := hr T hT X
  cases hv
  rw [h0] at hz hk
  obtain ⟨t2, a1, b1⟩ := kk v μ' hp T'.heap (locs ++ L) (by rw [e1]; exact hb)
    ⟨Nat.le_trans hS.1 (by rw [e1]; exact hz), fun q h1 h2 => by rw [e1, hk q (Nat.lt_of_lt_of_le h1 hS.1) h2]; exact hS.2.1 q h1 h2, fun q hq => (List.mem_append.mp hq).elim (hS.2.2 q) (fun h => hL q h)⟩ T' rfl X'
  exact ⟨t2, st t2 a1, b1⟩
theorem tl_call {E : tm_Ev} {X : tm_X} {Q : State → Prop} {own : String} {cc : ByteArray} {nL : Nat} {pc : Nat} {sb L : Nat} {xs : Nat → Int32} {lv : List (Nat × Value)} {st : List Value} {μ : tm_M} {k ci ix n d' nL' N : Nat} {y : MethodName} {cc' : ByteArray} {ret' : Option FieldType} {T : u_T} {fs : List (Option Nat)} {post : Option Value → tm_M → Prop} (As rest : List Value) (C : tl_C E X own cc nL sb L xs) (hM : tm_Met E X.2.1 y cc' nL' ret' d' (.ref (E.2.1 k) :: As) μ post) (cw : tm_cv own ix y cc' nL' ret' n) (hk : tm_tm[k]? = some (0, ci, fs)) (hc : vwCl[ci]? = some (y.cls, T, N)) (hdd : d' ≤ 100) (hn : As.length = n) (hr : (rest.map fun v => v.category).sum ≤ 8) (hst : st = As.reverse ++ .ref (E.2.1 k) :: rest) (hd : decode cc pc = .ok (.invokevirtual ix, 3))
    (kk : ∀ (v : Option Value) (μ' : tm_M), post v μ' → tl_V E X Q nL (pc + 3) lv (v.toList ++ rest) μ') : tl_V E X Q nL pc lv st μ := by
  intro ls H locs hl hP hS
  subst hst
  obtain ⟨w1, w2, w3, w4, w5, w6, w7⟩ := cw
  have hT := C.2.2.2.2.1
  have hRm := C.2.2.2.2.2.2.1
  have hR : (tm_rm d').frames + 1 ≤ X.2.2.2.1.frames ∧ 8 + (nL' + 11) + (tm_rm d').locals ≤ X.2.2.2.1.locals := by
    rw [hRm]
    exact ⟨show d' + 1 ≤ 2048 by omega, show 8 + (nL' + 11) + 40 * d' ≤ 84000 by omega⟩
  refine tl_after (va_runV (As := As) (rest := rest) ⟨C.1, C.2.1, C.2.2.1, C.2.2.2.1, hT⟩ hM ⟨callB_of n hT (tm_good w5) rfl rfl rfl (hT _ w4) (hT _ w1) w6 hR, hT _ w2, hT _ w3⟩ ⟨tm_blind, va_recv C.2.2.2.2.2.1.1 hP hc (tm_ws_at hk), fun U hU hW => ⟨rfl, by rw [hU]; exact hP, tm_K_step C.2.2.2.2.2.1 hS hU hW⟩⟩ rfl hn hl.1 rfl (lv_room hr) hd ⟨by rw [hRm]; exact Nat.le_refl _, by rw [hRm]; exact Nat.le_refl _⟩) hS ?_
  intro v μ' hp H1 locs1 hP1 hS1
  exact kk v μ' hp ls H1 locs1 hl hP1 hS1
