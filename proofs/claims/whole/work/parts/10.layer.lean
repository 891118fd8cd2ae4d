/-! the system's memory as numbers, and a judgement over it -/
abbrev tm_M : Type := Nat → Nat → Int
def tm_i (z : Int) : Value := .int (Int32.ofInt z)
def tm_l (z : Int) : Value := .long (Int64.ofInt z)
abbrev tm_Ev : Type := va_G × (Nat → Nat) × (Nat → ClassId) × (Nat → Nat) × Nat
/-- what lies at each place: (0, its class in vwCl, its fields: none a number, some q the place q), (1, length, []) a row of ints, 2 of longs, 3 of booleans, 4 on of places -/
def tm_tm : List (Nat × Nat × List (Option Nat)) := [
  (0, 7, [some 1, some 6, some 8, some 10, some 12, some 14, none, some 23, some 28, some 29, some 35, some 43, some 49, some 57, some 72, some 73, none, none, none]),
  (4, 2, [some 2, some 4]),
  (0, 2, [some 3, none]),
  (1, 40, []),
  (0, 2, [some 5, none]),
  (1, 47, []),
  (0, 2, [some 7, none]),
  (1, 6, []),
  (0, 2, [some 9, none]),
  (1, 6, []),
  (0, 2, [some 11, none]),
  (1, 8, []),
  (0, 2, [some 13, none]),
  (1, 8, []),
  (6, 4, [some 15, some 17, some 19, some 21]),
  (0, 6, [some 16, none, none]),
  (1, 60, []),
  (0, 6, [some 18, none, none]),
  (1, 60, []),
  (0, 6, [some 20, none, none]),
  (1, 60, []),
  (0, 6, [some 22, none, none]),
  (1, 60, []),
  (0, 1, [some 24, some 25, some 26, some 27, none]),
  (1, 8, []),
  (1, 8, []),
  (1, 8, []),
  (1, 8, []),
  (1, 5, []),
  (0, 0, [some 23, some 30, some 31, some 32, some 33, some 34, none]),
  (1, 5, []),
  (1, 40, []),
  (1, 40, []),
  (1, 40, []),
  (1, 8, []),
  (0, 5, [some 36, some 37, some 38, some 39, some 40, some 41, some 42, none]),
  (0, 4, [none, none, none, none]),
  (1, 40, []),
  (1, 40, []),
  (1, 40, []),
  (1, 40, []),
  (1, 40, []),
  (1, 8, []),
  (0, 0, [some 23, some 44, some 45, some 46, some 47, some 48, none]),
  (1, 5, []),
  (1, 40, []),
  (1, 40, []),
  (1, 40, []),
  (1, 8, []),
  (0, 5, [some 50, some 51, some 52, some 53, some 54, some 55, some 56, none]),
  (0, 4, [none, none, none, none]),
  (1, 40, []),
  (1, 40, []),
  (1, 40, []),
  (1, 40, []),
  (1, 40, []),
  (1, 8, []),
  (0, 3, [some 58, some 59, some 60, some 61, some 62, none]),
  (5, 9, [some 63, some 64, some 65, some 66, some 67, some 68, some 69, some 70, some 71]),
  (1, 8, []),
  (1, 8, []),
  (1, 1021, []),
  (1, 1021, []),
  (0, 4, [none, none, none, none]),
  (0, 4, [none, none, none, none]),
  (0, 4, [none, none, none, none]),
  (0, 4, [none, none, none, none]),
  (0, 4, [none, none, none, none]),
  (0, 4, [none, none, none, none]),
  (0, 4, [none, none, none, none]),
  (0, 4, [none, none, none, none]),
  (0, 4, [none, none, none, none]),
  (2, 8, []),
  (1, 840, []),
  (0, 8, [some 75, some 76, none, some 77, none, some 78, some 79, some 80, some 81, some 82, none, some 83, none, some 84, some 85, none, none, none, some 86, none, none, none, none, none, none, none, none, none, some 87, some 88, some 89, some 90, some 91, some 92, some 93, none, some 94, some 95, some 96, some 97, some 98, some 99, some 100, some 101, none]),
  (1, 2, []),
  (1, 94, []),
  (1, 40, []),
  (1, 9, []),
  (1, 9, []),
  (1, 9, []),
  (1, 9, []),
  (1, 5, []),
  (1, 6, []),
  (1, 7, []),
  (1, 40, []),
  (1, 8, []),
  (1, 40, []),
  (1, 40, []),
  (1, 40, []),
  (1, 40, []),
  (1, 40, []),
  (1, 8, []),
  (1, 8, []),
  (1, 8, []),
  (1, 8, []),
  (1, 840, []),
  (3, 4, []),
  (1, 4, []),
  (1, 4, []),
  (1, 240, []),
  (1, 60, [])]
def tm_F (ad : Nat → Nat) (f : Nat → Int) : Nat → List (Option Nat) → List Value
  | _, [] => []
  | j, none :: r => tm_i (f j) :: tm_F ad f (j + 1) r
  | j, some q :: r => .ref (ad q) :: tm_F ad f (j + 1) r
def tm_e (ad : Nat → Nat) (cy : Nat → ClassId) (f : Nat → Int) (t : Nat × Nat × List (Option Nat)) : va_E :=
  match t with
  | (0, n, fs) => .inr (n, tm_F ad f 0 fs)
  | (1, n, _) => .inl (cy 0, n, .inl (fun j => Int32.ofInt (f j)))
  | (2, n, _) => .inl (cy 1, n, .inr (.inl (fun j => Int64.ofInt (f j))))
  | (3, n, _) => .inl (cy 2, n, .inl (fun j => Int32.ofInt (f j)))
  | (r + 4, n, fs) => .inl (cy (r + 3), n, .inr (.inr (.inr (.inr (fun j => (fs.getD j none).map ad)))))
def tm_E (E : tm_Ev) (k : Nat) (f : Nat → Int) : va_E := tm_e E.2.1 E.2.2.1 f (tm_tm.getD k (0, 0, []))
def tm_ws (E : tm_Ev) (μ : tm_M) : va_W := (List.range 102).map (fun k => (E.2.1 k, tm_E E k (μ k)))
def tm_A (E : tm_Ev) : Nat → Prop := fun q => E.2.2.2.2 ≤ q
def tm_tys (E : tm_Ev) : List (ClassId × FieldType) := [(E.2.2.1 0, .int), (E.2.2.1 1, .long), (E.2.2.1 2, .boolean), (E.2.2.1 3, .object RX2), (E.2.2.1 4, .object RX4), (E.2.2.1 5, .object RX6)]
def tm_up (μ : tm_M) (k j : Nat) (z : Int) : tm_M := fun a b => if a = k then (if b = j then z else μ a b) else μ a b
theorem tm_us {μ : tm_M} {k j : Nat} {z : Int} : tm_up μ k j z k j = z := by simp [tm_up]
theorem tm_uk {μ : tm_M} {k j a b : Nat} {z : Int} (h : a ≠ k) : tm_up μ k j z a b = μ a b := by simp [tm_up, h]
theorem tm_uj {μ : tm_M} {k j a b : Nat} {z : Int} (h : b ≠ j) : tm_up μ k j z a b = μ a b := by
  unfold tm_up
  by_cases ha : a = k
  · rw [if_pos ha, if_neg h]
  · rw [if_neg ha]
theorem tm_uf {μ : tm_M} {k j a : Nat} {z : Int} (h : a ≠ k) : tm_up μ k j z a = μ a := by funext b; exact tm_uk h
theorem tm_len : tm_tm.length = 102 := by decide +kernel
theorem tm_lt {k : Nat} {t : Nat × Nat × List (Option Nat)} (h : tm_tm[k]? = some t) : k < 102 := by
  have := (List.getElem?_eq_some_iff.mp h).1
  rwa [tm_len] at this
theorem tm_Ek {E : tm_Ev} {k : Nat} {f : Nat → Int} {t : Nat × Nat × List (Option Nat)} (h : tm_tm[k]? = some t) : tm_E E k f = tm_e E.2.1 E.2.2.1 f t := by
  unfold tm_E
  rw [List.getD_eq_getElem?_getD, h]
  rfl
theorem tm_ws_at {E : tm_Ev} {μ : tm_M} {k : Nat} {t : Nat × Nat × List (Option Nat)} (h : tm_tm[k]? = some t) : (tm_ws E μ)[k]? = some (E.2.1 k, tm_e E.2.1 E.2.2.1 (μ k) t) := by
  have hk := tm_lt h
  simp [tm_ws, hk, tm_Ek h]
theorem tm_ws_set {E : tm_Ev} {μ μ' : tm_M} {k : Nat} {e : va_E} {t : Nat × Nat × List (Option Nat)} (h : tm_tm[k]? = some t) (he : tm_e E.2.1 E.2.2.1 (μ' k) t = e) (ho : ∀ a, a ≠ k → μ' a = μ a) : (tm_ws E μ).set k (E.2.1 k, e) = tm_ws E μ' := by
  apply List.ext_getElem?
  intro i
  by_cases hi : i = k
  · subst hi
    rw [List.getElem?_set_self (by simp [tm_ws]; exact tm_lt h), tm_ws_at h, he]
  · rw [List.getElem?_set_ne (Ne.symm hi)]
    simp only [tm_ws, List.getElem?_map]
    cases hr : (List.range 102)[i]? with
    | none => rfl
    | some x =>
      have hx : x = i := by
        have := List.getElem?_eq_some_iff.mp hr
        obtain ⟨h1, h2⟩ := this
        rw [← h2]; simp
      subst hx
      simp only [Option.map_some]
      rw [ho x hi]
theorem tm_F_at {ad : Nat → Nat} {f : Nat → Int} : ∀ (fs : List (Option Nat)) (j0 j : Nat), (tm_F ad f j0 fs)[j]? = (fs[j]?).map (fun o => match o with | none => tm_i (f (j0 + j)) | some q => .ref (ad q)) := by
  intro fs
  induction fs with
  | nil => intro j0 j; simp [tm_F]
  | cons o r ih =>
    intro j0 j
    cases o <;> cases j with
    | zero => simp [tm_F]
    | succ j => simp [tm_F, ih]; congr 1; funext o; cases o <;> simp; congr 1; congr 1; omega
theorem tm_F_len {ad : Nat → Nat} {f : Nat → Int} : ∀ (fs : List (Option Nat)) (j0 : Nat), (tm_F ad f j0 fs).length = fs.length := by
  intro fs
  induction fs with
  | nil => intro j0; rfl
  | cons o r ih => intro j0; cases o <;> simp [tm_F, ih]
theorem tm_F_set {ad : Nat → Nat} {f g : Nat → Int} {fs : List (Option Nat)} {j : Nat} {z : Int} (hj : fs[j]? = some none) (hz : g j = z) (ho : ∀ b, b ≠ j → g b = f b) : (tm_F ad f 0 fs).set j (tm_i z) = tm_F ad g 0 fs := by
  apply List.ext_getElem?
  intro i
  have hl := (List.getElem?_eq_some_iff.mp hj).1
  by_cases hi : i = j
  · subst hi
    rw [List.getElem?_set_self (by rw [tm_F_len]; exact hl), tm_F_at, hj]
    simp [hz]
  · rw [List.getElem?_set_ne (Ne.symm hi), tm_F_at, tm_F_at]
    cases fs[i]? with
    | none => rfl
    | some o => cases o <;> simp [ho i hi]
/-! words -/
def tm_tbl : List Cond := lw_tbl.filter goodWord
theorem tm_mem {w : Cond} (i : Nat) (h : lw_tbl[i]? = some w) (hg : goodWord w = true) : w ∈ tm_tbl := List.mem_filter.mpr ⟨List.mem_of_getElem? h, hg⟩
theorem tm_good {y : MethodName} {cc : ByteArray} {nL : Nat} {ret : Option FieldType} (h : Cond.code y cc nL ret ∈ tm_tbl) : GoodIn tm_tbl (.code y cc nL ret :: tm_tbl) := by
  intro w hw
  have hm : w ∈ tm_tbl := (List.mem_cons.mp hw).elim (fun e => e ▸ h) id
  exact ⟨hm, good_of_word (List.mem_filter.mp hm).2⟩
def tm_nst : List Cond := [.methodLinkNest RX1 28 yX7_orderFault RX7, .methodLinkNest RX0 31 yX7_tideFault RX7, .fieldLinkNest RX4 48 RX7 "GRAIN_WANTS" "[I" RX7, .fieldLinkNest RX4 55 RX7 "GRAIN_TAKES" "[I" RX7]
def tm_sn (j : Nat) : String := match j with | 0 => "DIAL_LEAST" | 1 => "DIAL_MOST" | 2 => "DIAL_FIRST" | 3 => "GRAIN_WANTS" | _ => "GRAIN_TAKES"
def tm_sl (j : Nat) : Nat := match j with | 0 => 5 | 1 => 5 | 2 => 5 | 3 => 3 | _ => 3
def tm_sv (j : Nat) : List Int := match j with | 0 => [0, 1, 0, 0, 1] | 1 => [20, 9, 9, 9, 9] | 2 => [10, 4, 0, 2, 5] | 3 => [2, 1, 0] | _ => [3, 2, 1]
def tm_K (E : tm_Ev) (U : State) : Prop :=
  va_K E.1 vwCl (tm_tys E) U ∧ (∀ k, k < 102 → E.2.2.2.2 ≤ E.2.1 k) ∧ (∀ i j, i < 102 → j < 102 → E.2.1 i = E.2.1 j → i = j) ∧
  (∀ j, j < 5 → va_Z RX7 (tm_sn j) "[I" (.ref (E.2.2.2.1 j)) (tm_A E) U U.heap ∧ va_T .int (E.2.2.2.1 j) (tm_sl j) (fun i => tm_i ((tm_sv j).getD i 0)) (tm_A E) U U.heap) ∧
  ∀ w ∈ tm_nst, va_Nw w U
theorem tm_K_step {E : tm_Ev} {s U : State} {H : Heap} {locs : List Loc} (h : tm_K E s) (hS : va_S (tm_A E) s.heap H locs) (hU : U.heap = H) (hW : s.WarmedH U.vm) : tm_K E U := by
  obtain ⟨h1, h2, h3, h4, h5⟩ := h
  refine ⟨va_K.moved hW.alike h1, h2, h3, fun j hj => ?_, fun w hw => ?_⟩
  · rw [hU]
    exact ⟨(va_Z.moved hW.alike (h4 j hj).1).kept hS.2.1, (va_T.moved hW.alike (h4 j hj).2).kept hS.2.1⟩
  · have h6 := h5 w hw
    simp only [tm_nst, List.mem_cons, List.not_mem_nil, or_false] at hw
    rcases hw with rfl | rfl | rfl | rfl
    · exact va_Nw.warmM hW h6
    · exact va_Nw.warmM hW h6
    · exact va_Nw.warmF hW h6
    · exact va_Nw.warmF hW h6
theorem tm_K_call {E : tm_Ev} {U : State} {g : JFrame} {mk : MethodId} {a : Array Value} (h : tm_K E U) : tm_K E (U.calling g mk a) := by
  obtain ⟨h1, h2, h3, h4, h5⟩ := h
  refine ⟨va_K.moved (u := U) (U := U.calling g mk a) (Vm.Alike.refl U.vm) h1, h2, h3, fun j hj => ?_, fun w hw => ?_⟩
  · exact ⟨va_Z.moved (u := U) (U := U.calling g mk a) (Vm.Alike.refl U.vm) (h4 j hj).1, va_T.moved (u := U) (U := U.calling g mk a) (Vm.Alike.refl U.vm) (h4 j hj).2⟩
  · have h6 := h5 w hw
    simp only [tm_nst, List.mem_cons, List.not_mem_nil, or_false] at hw
    rcases hw with rfl | rfl | rfl | rfl <;> exact va_Nw.same rfl (u := U) (U := U.calling g mk a) rfl h6
theorem tm_D {E : tm_Ev} {s : State} (K : tm_K E s) (μ : tm_M) : va_D (tm_A E) (tm_ws E μ) := by
  obtain ⟨-, h2, h3, -⟩ := K
  have key : ∀ (k : Nat) (q : Nat × va_E), (tm_ws E μ)[k]? = some q → k < 102 ∧ q.1 = E.2.1 k := by
    intro k q hk
    simp only [tm_ws, List.getElem?_map] at hk
    cases hr : (List.range 102)[k]? with
    | none => rw [hr] at hk; cases hk
    | some x =>
      rw [hr] at hk
      obtain ⟨a1, a2⟩ := List.getElem?_eq_some_iff.mp hr
      have hx : x = k := by rw [← a2]; simp
      subst hx
      simp at a1
      cases hk
      exact ⟨a1, rfl⟩
  refine ⟨fun i j p q hi hj hpq => ?_, fun k q hk => ?_⟩
  · obtain ⟨a1, a2⟩ := key i p hi
    obtain ⟨b1, b2⟩ := key j q hj
    exact h3 i j a1 b1 (by rw [← a2, ← b2]; exact hpq)
  · obtain ⟨a1, a2⟩ := key k q hk
    rw [a2]; exact h2 k a1
abbrev tm_X : Type := Program × Launch × Env × Room × State × MethodId × Array Value × List Frame × Method × Code
def tm_V (E : tm_Ev) (X : tm_X) (Q : State → Prop) (nL pc : Nat) (lv : List (Nat × Value)) (st : List Value) (μ : tm_M) : Prop :=
  ∀ (ls : Array Slot) (H : Heap) (locs : List Loc), lv_has ls nL lv → va_P E.1 vwCl (tm_ws E μ) H → va_S (tm_A E) X.2.2.2.2.1.heap H locs →
    W X.1 X.2.1 X.2.2.1 X.2.2.2.1 X.2.2.2.2.1 X.2.2.2.2.2.1 X.2.2.2.2.2.2.1 X.2.2.2.2.2.2.2.1 X.2.2.2.2.2.2.2.2.1 X.2.2.2.2.2.2.2.2.2 H locs 0 0 Q (F0 X.2.2.2.2.2.1 pc ls st)
def tm_rm (d : Nat) : Room := { frames := d, cells := 0, slots := 0, locals := 40 * d }
def tm_C (E : tm_Ev) (X : tm_X) (own : String) (cc : ByteArray) (nL : Nat) (ret : Option FieldType) (d : Nat) : Prop :=
  X.1.tables.exec = Jvm.exec ∧ X.2.2.2.2.2.2.2.2.2.code = cc ∧ X.2.2.2.2.2.2.2.2.2.maxLocals = nL ∧ X.2.2.2.2.1.vm.findClass own = some X.2.2.2.2.2.1.cls ∧ (∀ w ∈ tm_tbl, w.before X.2.2.2.2.2.2.1 X.2.2.2.2.1 = true) ∧ tm_K E X.2.2.2.2.1 ∧ X.2.2.2.1 = tm_rm d ∧ X.2.2.2.2.2.2.2.2.1.sig.returnType = ret ∧ X.2.2.2.2.2.2.2.2.1.locks = false
def tm_Qc (E : tm_Ev) (post : Option Value → tm_M → Prop) : Array Value → State → Outcome → State → Prop := fun _ st oc t => (∃ (v : Option Value) (μ' : tm_M), oc = .returned v ∧ post v μ' ∧ va_P E.1 vwCl (tm_ws E μ') t.heap) ∧ va_F (tm_A E) st t
def tm_Q (E : tm_Ev) (X : tm_X) (post : Option Value → tm_M → Prop) : State → Prop := MQ X.2.2.2.2.2.2.2.1 (tm_Qc E post) X.2.2.2.2.2.2.1 X.2.2.2.2.1 0 0 (tm_A E)
def tm_Met (E : tm_Ev) (l : Launch) (y : MethodName) (cc : ByteArray) (nL : Nat) (ret : Option FieldType) (d : Nat) (As : List Value) (μ : tm_M) (post : Option Value → tm_M → Prop) : Prop :=
  Met l y (.code y cc nL ret :: tm_tbl) (tm_rm d) (va_Pc As (fun U => va_P E.1 vwCl (tm_ws E μ) U.heap ∧ tm_K E U)) (tm_Qc E post) 0 0 (tm_A E)
theorem tm_blind {E : tm_Ev} {As : List Value} {μ : tm_M} : FrameBlind (va_Pc As (fun U => va_P E.1 vwCl (tm_ws E μ) U.heap ∧ tm_K E U)) := by
  intro a U g mk h
  exact ⟨h.1, h.2.1, tm_K_call h.2.2⟩
theorem tm_intro {E : tm_Ev} {l : Launch} {y : MethodName} {cc : ByteArray} {nL : Nat} {ret : Option FieldType} {d : Nat} {As : List Value} {μ : tm_M} {post : Option Value → tm_M → Prop} (lv : List (Nat × Value)) (hlv : lv_args 0 As = lv) (hy : plainName y.cls = true) (hn : (lg_sl As).length ≤ nL)
    (h : ∀ X : tm_X, X.2.1 = l → tm_C E X y.cls cc nL ret d → tm_V E X (tm_Q E X post) nL 0 lv [] μ) : tm_Met E l y cc nL ret d As μ post := by
  subst hlv
  refine Met.ofW (cc := cc) (maxL := nL) (ret := ret) hy rfl ?_
  intro p e s m args below meth c s₁ B hml hv
  obtain ⟨rfl, hP, hK⟩ := hv
  have hts := atoms_spec (ws := .code y cc nL ret :: tm_tbl) B.pre
  have hC : tm_C E (p, l, e, tm_rm d, s, m, As.toArray, below, meth, c) y.cls cc nL ret d := ⟨B.exec, B.bytes, hml, findClass_of_methodNamed B.named, fun w h => hts w (List.mem_cons_of_mem _ h), hK, rfl, B.returns, B.notSynchronized⟩
  have h2 := h _ rfl hC _ s.heap [] (lv_entry As hn) hP va_S.rf
  rw [lg_entry_eq]
  exact h2
/-! numbers -/
theorem tm_lti {a b : Int} (ha : -2147483648 ≤ a ∧ a ≤ 2147483647) (hb : -2147483648 ≤ b ∧ b ≤ 2147483647) : Int32.ofInt a < Int32.ofInt b ↔ a < b := Int32.ofInt_lt_iff_lt ha.1 ha.2 hb.1 hb.2
theorem tm_lei {a b : Int} (ha : -2147483648 ≤ a ∧ a ≤ 2147483647) (hb : -2147483648 ≤ b ∧ b ≤ 2147483647) : Int32.ofInt a ≤ Int32.ofInt b ↔ a ≤ b := Int32.ofInt_le_iff_le ha.1 ha.2 hb.1 hb.2
theorem tm_ti {a : Int} (ha : -2147483648 ≤ a ∧ a ≤ 2147483647) : (Int32.ofInt a).toInt = a := Int32.toInt_ofInt_of_le (by omega) (by omega)
theorem tm_eqi {a b : Int} (ha : -2147483648 ≤ a ∧ a ≤ 2147483647) (hb : -2147483648 ≤ b ∧ b ≤ 2147483647) : Int32.ofInt a = Int32.ofInt b ↔ a = b := by
  constructor
  · intro h
    have h2 := congrArg Int32.toInt h
    rwa [tm_ti ha, tm_ti hb] at h2
  · intro h; rw [h]
theorem tm_cl {a : Int} (ha : 0 ≤ a ∧ a ≤ 2147483647) : (Int32.ofInt a).toNatClampNeg = a.toNat := by
  show (Int32.ofInt a).toInt.toNat = a.toNat
  rw [tm_ti (by omega)]
theorem tm_in {a : Int} {n : Nat} (hn : (n : Int) ≤ 2147483647) (h : 0 ≤ a ∧ a < n) : vp_in (Int32.ofInt a) n := by
  rw [vp_in_iff, tm_ti (by omega)]
  exact h
theorem tm_i0 (z : Int) : tm_i z = .int (Int32.ofInt z) := rfl
theorem tm_toI (x : Int32) : Value.int x = tm_i x.toInt := by unfold tm_i; rw [Int32.ofInt_toInt]
