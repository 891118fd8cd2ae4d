/-! making the cells -/
def tn_F (ad : Nat → Nat) (f : Nat → Int) (dn : Nat → Bool) : Nat → List (Option Nat) → List Value
  | _, [] => []
  | j, none :: r => tm_i (f j) :: tn_F ad f dn (j + 1) r
  | j, some q :: r => (if dn j = true then .ref (ad q) else .null) :: tn_F ad f dn (j + 1) r
def tn_e (ad : Nat → Nat) (cy : Nat → ClassId) (f : Nat → Int) (dn : Nat → Bool) (t : Nat × Nat × List (Option Nat)) : va_E :=
  match t with
  | (0, n, fs) => .inr (n, tn_F ad f dn 0 fs)
  | (1, n, _) => .inl (cy 0, n, .inl (fun j => Int32.ofInt (f j)))
  | (2, n, _) => .inl (cy 1, n, .inr (.inl (fun j => Int64.ofInt (f j))))
  | (3, n, _) => .inl (cy 2, n, .inl (fun j => Int32.ofInt (f j)))
  | (r + 4, n, fs) => .inl (cy (r + 3), n, .inr (.inr (.inr (.inr (fun j => if dn j = true then (fs.getD j none).map ad else none)))))
def tn_d (L : List (Nat × Nat)) (k : Nat) : Nat → Bool := fun j => L.contains (k, j)
theorem tn_d1 {L : List (Nat × Nat)} {k j : Nat} : tn_d ((k, j) :: L) k j = true := by simp [tn_d]
theorem tn_d2 {L : List (Nat × Nat)} {k j b : Nat} (h : b ≠ j) : tn_d ((k, j) :: L) k b = tn_d L k b := by simp [tn_d, h]
theorem tn_d3 {L : List (Nat × Nat)} {k j a : Nat} (h : a ≠ k) : tn_d ((k, j) :: L) a = tn_d L a := by funext b; simp [tn_d, h]
def tn_ws (E : tm_Ev) (μ : tm_M) (n : Nat) (L : List (Nat × Nat)) : va_W := (List.range n).map (fun k => (E.2.1 k, tn_e E.2.1 E.2.2.1 (μ k) (tn_d L k) (tm_tm.getD k (0, 0, []))))
theorem tn_at {E : tm_Ev} {μ : tm_M} {n : Nat} {L : List (Nat × Nat)} {k : Nat} {t : Nat × Nat × List (Option Nat)} (hn : k < n) (h : tm_tm[k]? = some t) : (tn_ws E μ n L)[k]? = some (E.2.1 k, tn_e E.2.1 E.2.2.1 (μ k) (tn_d L k) t) := by
  simp [tn_ws, hn, List.getD_eq_getElem?_getD, h]
theorem tn_key {E : tm_Ev} {μ : tm_M} {n : Nat} {L : List (Nat × Nat)} (k : Nat) (q : Nat × va_E) (hk : (tn_ws E μ n L)[k]? = some q) : k < n ∧ q.1 = E.2.1 k := by
  simp only [tn_ws, List.getElem?_map] at hk
  cases hr : (List.range n)[k]? with
  | none => rw [hr] at hk; cases hk
  | some x =>
    rw [hr] at hk
    obtain ⟨a1, a2⟩ := List.getElem?_eq_some_iff.mp hr
    have hx : x = k := by rw [← a2]; simp
    subst hx
    simp at a1
    cases hk
    exact ⟨a1, rfl⟩
theorem tn_D {E : tm_Ev} (hE : ∀ k, k < 102 → E.2.1 k = E.2.2.2.2 + k) {n : Nat} (hn : n ≤ 102) (μ : tm_M) (L : List (Nat × Nat)) : va_D (tm_A E) (tn_ws E μ n L) := by
  refine ⟨fun i j p q hi hj hpq => ?_, fun k q hk => ?_⟩
  · obtain ⟨a1, a2⟩ := tn_key i p hi
    obtain ⟨b1, b2⟩ := tn_key j q hj
    rw [a2, b2, hE i (by omega), hE j (by omega)] at hpq
    omega
  · obtain ⟨a1, a2⟩ := tn_key k q hk
    show E.2.2.2.2 ≤ q.1
    rw [a2, hE k (by omega)]
    omega
theorem tn_set {E : tm_Ev} {μ μ' : tm_M} {n k : Nat} {e : va_E} {L L' : List (Nat × Nat)} {t : Nat × Nat × List (Option Nat)} (hk : k < n) (h : tm_tm[k]? = some t) (he : tn_e E.2.1 E.2.2.1 (μ' k) (tn_d L' k) t = e) (ho : ∀ a, a ≠ k → μ' a = μ a ∧ tn_d L' a = tn_d L a) : (tn_ws E μ n L).set k (E.2.1 k, e) = tn_ws E μ' n L' := by
  apply List.ext_getElem?
  intro i
  by_cases hi : i = k
  · subst hi
    rw [List.getElem?_set_self (by simp [tn_ws]; exact hk), tn_at hk h, he]
  · rw [List.getElem?_set_ne (Ne.symm hi)]
    simp only [tn_ws, List.getElem?_map]
    cases hr : (List.range n)[i]? with
    | none => rfl
    | some x =>
      have hx : x = i := by
        obtain ⟨h1, h2⟩ := List.getElem?_eq_some_iff.mp hr
        rw [← h2]; simp
      subst hx
      simp only [Option.map_some]
      rw [(ho x hi).1, (ho x hi).2]
theorem tn_push {E : tm_Ev} {μ : tm_M} {n : Nat} {L : List (Nat × Nat)} {t : Nat × Nat × List (Option Nat)} (h : tm_tm[n]? = some t) : tn_ws E μ n L ++ [(E.2.1 n, tn_e E.2.1 E.2.2.1 (μ n) (tn_d L n) t)] = tn_ws E μ (n + 1) L := by
  unfold tn_ws
  rw [List.range_succ, List.map_append]
  simp [List.getD_eq_getElem?_getD, h]
theorem tn_F_at {ad : Nat → Nat} {f : Nat → Int} {dn : Nat → Bool} : ∀ (fs : List (Option Nat)) (j0 j : Nat), (tn_F ad f dn j0 fs)[j]? = (fs[j]?).map (fun o => match o with | none => tm_i (f (j0 + j)) | some q => if dn (j0 + j) = true then .ref (ad q) else .null) := by
  intro fs
  induction fs with
  | nil => intro j0 j; simp [tn_F]
  | cons o r ih =>
    intro j0 j
    have e : ∀ j, j0 + 1 + j = j0 + (j + 1) := fun j => by omega
    cases o <;> cases j with
    | zero => simp [tn_F]
    | succ j => simp only [tn_F, List.getElem?_cons_succ, ih, e]
theorem tn_F_len {ad : Nat → Nat} {f : Nat → Int} {dn : Nat → Bool} : ∀ (fs : List (Option Nat)) (j0 : Nat), (tn_F ad f dn j0 fs).length = fs.length := by
  intro fs
  induction fs with
  | nil => intro j0; rfl
  | cons o r ih => intro j0; cases o <;> simp [tn_F, ih]
theorem tn_F_r {ad : Nat → Nat} {f : Nat → Int} {dn dn' : Nat → Bool} {fs : List (Option Nat)} {j q : Nat} (hj : fs[j]? = some (some q)) (h1 : dn' j = true) (ho : ∀ b, b ≠ j → dn' b = dn b) : (tn_F ad f dn 0 fs).set j (.ref (ad q)) = tn_F ad f dn' 0 fs := by
  apply List.ext_getElem?
  intro i
  have hl := (List.getElem?_eq_some_iff.mp hj).1
  by_cases hi : i = j
  · subst hi
    rw [List.getElem?_set_self (by rw [tn_F_len]; exact hl), tn_F_at, hj]
    simp [h1]
  · rw [List.getElem?_set_ne (Ne.symm hi), tn_F_at, tn_F_at]
    cases fs[i]? with
    | none => rfl
    | some o => cases o <;> simp [ho i hi]
theorem tn_F_i {ad : Nat → Nat} {f g : Nat → Int} {dn : Nat → Bool} {fs : List (Option Nat)} {j : Nat} {z : Int} (hj : fs[j]? = some none) (hz : g j = z) (ho : ∀ b, b ≠ j → g b = f b) : (tn_F ad f dn 0 fs).set j (tm_i z) = tn_F ad g dn 0 fs := by
  apply List.ext_getElem?
  intro i
  have hl := (List.getElem?_eq_some_iff.mp hj).1
  by_cases hi : i = j
  · subst hi
    rw [List.getElem?_set_self (by rw [tn_F_len]; exact hl), tn_F_at, hj]
    simp [hz]
  · rw [List.getElem?_set_ne (Ne.symm hi), tn_F_at, tn_F_at]
    cases fs[i]? with
    | none => rfl
    | some o => cases o <;> simp [ho i hi]
/-- all is made, and stands where it must -/
theorem tn_done {E : tm_Ev} {μ : tm_M} {L : List (Nat × Nat)} (h : ∀ (k j q : Nat), k < 102 → (tm_tm.getD k (0, 0, [])).2.2[j]? = some (some q) → tn_d L k j = true) : tn_ws E μ 102 L = tm_ws E μ := by
  unfold tn_ws tm_ws
  refine List.map_congr_left (fun k hk => ?_)
  have hk2 : k < 102 := List.mem_range.mp hk
  congr 1
  show tn_e _ _ _ _ _ = tm_E E k (μ k)
  unfold tm_E
  have h2 := fun j q => h k j q hk2
  generalize tm_tm.getD k (0, 0, []) = t at h2 ⊢
  obtain ⟨r, n, fs⟩ := t
  have hF : tn_F E.2.1 (μ k) (tn_d L k) 0 fs = tm_F E.2.1 (μ k) 0 fs := by
    apply List.ext_getElem?
    intro i
    rw [tn_F_at, tm_F_at]
    cases hi : fs[i]? with
    | none => rfl
    | some o =>
      cases o with
      | none => simp
      | some q => simp [h2 i q hi]
  match r with
  | 0 => show Sum.inr (n, tn_F E.2.1 (μ k) (tn_d L k) 0 fs) = Sum.inr (n, tm_F E.2.1 (μ k) 0 fs); rw [hF]
  | 1 => rfl
  | 2 => rfl
  | 3 => rfl
  | r + 4 =>
    show Sum.inl (E.2.2.1 (r + 3), n, _) = Sum.inl (E.2.2.1 (r + 3), n, _)
    congr 7
    funext j
    rw [List.getD_eq_getElem?_getD]
    cases hi : fs[j]? with
    | none => simp
    | some o =>
      cases o with
      | none => simp
      | some q => simp [h2 j q hi]
/-! what the makers need besides -/
def tn_nst : List Cond := [.methodLinkNest RX7 33 yX6_init RX7, .methodLinkNest RX7 40 yX1_init RX7, .methodLinkNest RX7 68 yX5_init RX7, .methodLinkNest RX5 11 yX4_init RX7, .methodLinkNest RX3 30 yX4_init RX7]
def tn_DF (E : tm_Ev) (U : State) : Prop := ∃ cell : Cell, U.heap[E.2.2.2.1 2]? = some cell ∧ cell.cls = E.2.2.1 0 ∧ cell.vm ≠ .unknown ∧ (∀ k, cell.vm ≠ .statics k) ∧ cell.slots.size = 5 ∧ (∀ j, j < 5 → cell.slots[j]? = some (tm_i ((tm_sv 2).getD j 0))) ∧ ¬ tm_A E (E.2.2.2.1 2)
def tn_K (E : tm_Ev) (U : State) : Prop := (∀ w ∈ tn_nst, va_Nw w U) ∧ (va_AO RX2 U ∧ va_AO RX4 U ∧ va_AO RX6 U) ∧ va_Nw (.castable "[I" "java/lang/Cloneable") U ∧ tn_DF E U
theorem tn_DF_kept {E : tm_Ev} {u U : State} (h : tn_DF E u) (hq : ∀ q : Nat, q < u.heap.size → ¬ tm_A E q → U.heap[q]? = u.heap[q]?) : tn_DF E U := by
  obtain ⟨cell, h1, h2, h3, h4, h5, h6, h7⟩ := h
  exact ⟨cell, by rw [hq _ (Array.getElem?_eq_some_iff.mp h1).1 h7]; exact h1, h2, h3, h4, h5, h6, h7⟩
theorem tn_K_step {E : tm_Ev} {s U : State} {H : Heap} {locs : List Loc} (h : tn_K E s) (hS : va_S (tm_A E) s.heap H locs) (hU : U.heap = H) (hW : s.WarmedH U.vm) : tn_K E U := by
  obtain ⟨h1, ⟨h2, h3, h4⟩, h5, h6⟩ := h
  refine ⟨fun w hw => ?_, ⟨va_AO.moved hW.alike h2, va_AO.moved hW.alike h3, va_AO.moved hW.alike h4⟩, va_Nw.warmC hW h5, tn_DF_kept h6 (fun q a b => by rw [hU]; exact hS.2.1 q a b)⟩
  have h7 := h1 w hw
  simp only [tn_nst, List.mem_cons, List.not_mem_nil, or_false] at hw
  rcases hw with rfl | rfl | rfl | rfl | rfl <;> exact va_Nw.warmM hW h7
theorem tn_K_call {E : tm_Ev} {U : State} {g : JFrame} {mk : MethodId} {a : Array Value} (h : tn_K E U) : tn_K E (U.calling g mk a) := by
  obtain ⟨h1, ⟨h2, h3, h4⟩, h5, h6⟩ := h
  refine ⟨fun w hw => ?_, ⟨va_AO.moved (u := U) (U := U.calling g mk a) (Vm.Alike.refl U.vm) h2, va_AO.moved (u := U) (U := U.calling g mk a) (Vm.Alike.refl U.vm) h3, va_AO.moved (u := U) (U := U.calling g mk a) (Vm.Alike.refl U.vm) h4⟩, va_Nw.same rfl (u := U) (U := U.calling g mk a) rfl h5, tn_DF_kept (U := U.calling g mk a) h6 (fun q _ _ => rfl)⟩
  have h7 := h1 w hw
  simp only [tn_nst, List.mem_cons, List.not_mem_nil, or_false] at hw
  rcases hw with rfl | rfl | rfl | rfl | rfl <;> exact va_Nw.same rfl (u := U) (U := U.calling g mk a) rfl h7
def tn_rm (d mc ms : Nat) : Room := { frames := d, cells := mc, slots := ms, locals := 40 * d }
def tn_C (E : tm_Ev) (X : tm_X) (own : String) (cc : ByteArray) (nL d mc ms n0 : Nat) : Prop :=
  X.1.tables.exec = Jvm.exec ∧ X.2.2.2.2.2.2.2.2.2.code = cc ∧ X.2.2.2.2.2.2.2.2.2.maxLocals = nL ∧ X.2.2.2.2.1.vm.findClass own = some X.2.2.2.2.2.1.cls ∧ (∀ w ∈ tm_tbl, w.before X.2.2.2.2.2.2.1 X.2.2.2.2.1 = true) ∧ tm_K E X.2.2.2.2.1 ∧
  (d ≤ X.2.2.2.1.frames ∧ 40 * d ≤ X.2.2.2.1.locals ∧ mc ≤ X.2.2.2.1.cells ∧ ms ≤ X.2.2.2.1.slots) ∧ (∀ k, k < 102 → E.2.1 k = E.2.2.2.2 + k) ∧ tn_K E X.2.2.2.2.1 ∧ X.2.2.2.2.1.heap.size = E.2.2.2.2 + n0
def tn_V (E : tm_Ev) (X : tm_X) (Q : State → Prop) (nL pc : Nat) (lv : List (Nat × Value)) (st : List Value) (μ : tm_M) (nn : Nat) (LL : List (Nat × Nat)) (c1 s1 : Nat) : Prop :=
  ∀ (ls : Array Slot) (H : Heap) (locs : List Loc), lv_has ls nL lv → va_P E.1 vwCl (tn_ws E μ nn LL) H → va_S (tm_A E) X.2.2.2.2.1.heap H locs →
    W X.1 X.2.1 X.2.2.1 X.2.2.2.1 X.2.2.2.2.1 X.2.2.2.2.2.1 X.2.2.2.2.2.2.1 X.2.2.2.2.2.2.2.1 X.2.2.2.2.2.2.2.2.1 X.2.2.2.2.2.2.2.2.2 H locs c1 s1 Q (F0 X.2.2.2.2.2.1 pc ls st)
/-- how many cells there are -/
theorem tn_size {E : tm_Ev} {p : Program} {l : Launch} {e : Env} {R : Room} {s T : State} {m : MethodId} {args : Array Value} {below : List Frame} {meth : Method} {c : Code} {locs : List Loc} {c1 s1 nn n0 : Nat} {μ : tm_M} {LL : List (Nat × Nat)} {H : Heap} (hE : ∀ k, k < 102 → E.2.1 k = E.2.2.2.2 + k) (h102 : nn ≤ 102) (hz : s.heap.size = E.2.2.2.2 + n0) (hc : n0 + c1 = nn) (hP : va_P E.1 vwCl (tn_ws E μ nn LL) H) (hS : va_S (tm_A E) s.heap H locs) (hT : T.heap = H) (X : Stand p l e R s m args below meth c T locs c1 s1) : H.size = E.2.2.2.2 + nn := by
  have h1 : T.heap.size ≤ s.heap.size + c1 := X.same.2.2.1
  rw [hT] at h1
  have h2 := hS.1
  by_cases h0 : nn = 0
  · omega
  · obtain ⟨t, ht⟩ : ∃ t, tm_tm[nn - 1]? = some t := by
      have : nn - 1 < tm_tm.length := by rw [tm_len]; omega
      exact ⟨_, List.getElem?_eq_getElem this⟩
    have h3 := (hP (nn - 1) _ (tn_at (by omega) ht)).lt
    have h3 : E.2.1 (nn - 1) < H.size := h3
    rw [hE _ (by omega)] at h3
    omega
theorem tn_ws_size {E : tm_Ev} {p : Program} {l : Launch} {e : Env} {R : Room} {s : State} {m : MethodId} {args : Array Value} {below : List Frame} {meth : Method} {c : Code} {locs : List Loc} {c1 s1 nn n0 : Nat} {μ : tm_M} {LL : List (Nat × Nat)} {H : Heap} {Q : State → Prop} {g : JFrame} (hE : ∀ k, k < 102 → E.2.1 k = E.2.2.2.2 + k) (h102 : nn ≤ 102) (hz : s.heap.size = E.2.2.2.2 + n0) (hc : n0 + c1 = nn) (hP : va_P E.1 vwCl (tn_ws E μ nn LL) H) (hS : va_S (tm_A E) s.heap H locs) (k : H.size = E.2.2.2.2 + nn → W p l e R s m args below meth c H locs c1 s1 Q g) : W p l e R s m args below meth c H locs c1 s1 Q g := fun T hT X => k (tn_size hE h102 hz hc hP hS hT X) T hT X
theorem tn_iconst {E : tm_Ev} {X : tm_X} {Q : State → Prop} {own : String} {cc : ByteArray} {nL : Nat} {pc : Nat} {nn : Nat} {LL : List (Nat × Nat)} {c1 s1 d mc ms n0 : Nat} {lv : List (Nat × Value)} {st : List Value} {μ : tm_M} {n : Int} (C : tn_C E X own cc nL d mc ms n0) (hd : decode cc pc = .ok (.iconst n, 1)) (k : tn_V E X Q nL (pc + 1) lv (tm_i n :: st) μ nn LL c1 s1) : tn_V E X Q nL (pc) lv st μ nn LL c1 s1 := by
  intro ls H locs hl hP hS
  exact lv_iconst C.1 C.2.1 hd rfl (k ls H locs hl hP hS)
theorem tn_bipush {E : tm_Ev} {X : tm_X} {Q : State → Prop} {own : String} {cc : ByteArray} {nL : Nat} {pc : Nat} {nn : Nat} {LL : List (Nat × Nat)} {c1 s1 d mc ms n0 : Nat} {lv : List (Nat × Value)} {st : List Value} {μ : tm_M} {n : Int} (C : tn_C E X own cc nL d mc ms n0) (hd : decode cc pc = .ok (.bipush n, 2)) (hn : (Int8.ofInt n).toInt32 = Int32.ofInt n) (k : tn_V E X Q nL (pc + 2) lv (tm_i n :: st) μ nn LL c1 s1) : tn_V E X Q nL (pc) lv st μ nn LL c1 s1 := by
  intro ls H locs hl hP hS
  exact lv_bipush C.1 C.2.1 hd hn (k ls H locs hl hP hS)
theorem tn_sipush {E : tm_Ev} {X : tm_X} {Q : State → Prop} {own : String} {cc : ByteArray} {nL : Nat} {pc : Nat} {nn : Nat} {LL : List (Nat × Nat)} {c1 s1 d mc ms n0 : Nat} {lv : List (Nat × Value)} {st : List Value} {μ : tm_M} {n : Int} (C : tn_C E X own cc nL d mc ms n0) (hd : decode cc pc = .ok (.sipush n, 3)) (hn : (Int16.ofInt n).toInt32 = Int32.ofInt n) (k : tn_V E X Q nL (pc + 3) lv (tm_i n :: st) μ nn LL c1 s1) : tn_V E X Q nL (pc) lv st μ nn LL c1 s1 := by
  intro ls H locs hl hP hS
  exact lv_sipush C.1 C.2.1 hd hn (k ls H locs hl hP hS)
theorem tn_iload_n {E : tm_Ev} {X : tm_X} {Q : State → Prop} {own : String} {cc : ByteArray} {nL : Nat} {pc : Nat} {nn : Nat} {LL : List (Nat × Nat)} {c1 s1 d mc ms n0 : Nat} {lv : List (Nat × Value)} {st : List Value} {μ : tm_M} {k : Fin 4} {i : Nat} {z : Int} (q : Nat) (C : tn_C E X own cc nL d mc ms n0) (hd : decode cc pc = .ok (.iload_n k, 1)) (hi : (k : Nat) = i) (hq : lv[q]? = some (i, tm_i z)) (kk : tn_V E X Q nL (pc + 1) lv (tm_i z :: st) μ nn LL c1 s1) : tn_V E X Q nL (pc) lv st μ nn LL c1 s1 := by
  intro ls H locs hl hP hS
  exact lv_iload_n C.1 C.2.1 hd hi (lv_at hl q hq) (kk ls H locs hl hP hS)
theorem tn_aload_n {E : tm_Ev} {X : tm_X} {Q : State → Prop} {own : String} {cc : ByteArray} {nL : Nat} {pc : Nat} {nn : Nat} {LL : List (Nat × Nat)} {c1 s1 d mc ms n0 : Nat} {lv : List (Nat × Value)} {st : List Value} {μ : tm_M} {k : Fin 4} {i : Nat} {z : Nat} (q : Nat) (C : tn_C E X own cc nL d mc ms n0) (hd : decode cc pc = .ok (.aload_n k, 1)) (hi : (k : Nat) = i) (hq : lv[q]? = some (i, .ref z)) (kk : tn_V E X Q nL (pc + 1) lv (.ref z :: st) μ nn LL c1 s1) : tn_V E X Q nL (pc) lv st μ nn LL c1 s1 := by
  intro ls H locs hl hP hS
  exact lv_aload_n C.1 C.2.1 hd hi (lv_at hl q hq) (kk ls H locs hl hP hS)
theorem tn_istore_n {E : tm_Ev} {X : tm_X} {Q : State → Prop} {own : String} {cc : ByteArray} {nL : Nat} {pc : Nat} {nn : Nat} {LL : List (Nat × Nat)} {c1 s1 d mc ms n0 : Nat} {lv : List (Nat × Value)} {st : List Value} {μ : tm_M} {k : Fin 4} {i : Nat} {z : Int} (lv1 : List (Nat × Value)) (C : tn_C E X own cc nL d mc ms n0) (hd : decode cc pc = .ok (.istore_n k, 1)) (hi : (k : Nat) = i) (hn : i < nL) (hv : (i, tm_i z) :: lv.filter (fun q => !(q.1 == i) && !(q.1 + 1 == i && q.2.category == 2)) = lv1) (kk : tn_V E X Q nL (pc + 1) lv1 st μ nn LL c1 s1) : tn_V E X Q nL (pc) lv (tm_i z :: st) μ nn LL c1 s1 := by
  intro ls H locs hl hP hS
  exact lv_istore_n C.1 C.2.1 hd hi hl hn hv (fun ls hl => kk ls H locs hl hP hS)
theorem tn_astore_n {E : tm_Ev} {X : tm_X} {Q : State → Prop} {own : String} {cc : ByteArray} {nL : Nat} {pc : Nat} {nn : Nat} {LL : List (Nat × Nat)} {c1 s1 d mc ms n0 : Nat} {lv : List (Nat × Value)} {st : List Value} {μ : tm_M} {k : Fin 4} {i : Nat} {z : Nat} (lv1 : List (Nat × Value)) (C : tn_C E X own cc nL d mc ms n0) (hd : decode cc pc = .ok (.astore_n k, 1)) (hi : (k : Nat) = i) (hn : i < nL) (hv : (i, Value.ref z) :: lv.filter (fun q => !(q.1 == i) && !(q.1 + 1 == i && q.2.category == 2)) = lv1) (kk : tn_V E X Q nL (pc + 1) lv1 st μ nn LL c1 s1) : tn_V E X Q nL (pc) lv (Value.ref z :: st) μ nn LL c1 s1 := by
  intro ls H locs hl hP hS
  exact lv_astore_n C.1 C.2.1 hd hi hl hn hv (fun ls hl => kk ls H locs hl hP hS)
theorem tn_iinc {E : tm_Ev} {X : tm_X} {Q : State → Prop} {own : String} {cc : ByteArray} {nL : Nat} {pc : Nat} {nn : Nat} {LL : List (Nat × Nat)} {c1 s1 d mc ms n0 : Nat} {lv : List (Nat × Value)} {st : List Value} {μ : tm_M} {i : Nat} {n z : Int} (q : Nat) (lv1 : List (Nat × Value)) (C : tn_C E X own cc nL d mc ms n0) (hd : decode cc pc = .ok (.iinc i n, 3)) (hq : lv[q]? = some (i, tm_i z)) (hn : i < nL) (hv : (i, tm_i (z + n)) :: lv.filter (fun q => !(q.1 == i) && !(q.1 + 1 == i && q.2.category == 2)) = lv1) (kk : tn_V E X Q nL (pc + 3) lv1 st μ nn LL c1 s1) : tn_V E X Q nL (pc) lv st μ nn LL c1 s1 := by
  intro ls H locs hl hP hS
  exact lv_iinc C.1 C.2.1 hd hl hq (v := Int32.ofInt (z + n)) (Int32.ofInt_add z n).symm hn hv (fun ls hl => kk ls H locs hl hP hS)
theorem tn_dup {E : tm_Ev} {X : tm_X} {Q : State → Prop} {own : String} {cc : ByteArray} {nL : Nat} {pc : Nat} {nn : Nat} {LL : List (Nat × Nat)} {c1 s1 d mc ms n0 : Nat} {lv : List (Nat × Value)} {st : List Value} {μ : tm_M} {v : Value} (C : tn_C E X own cc nL d mc ms n0) (hd : decode cc pc = .ok (.dup, 1)) (hv : v.category = 1) (k : tn_V E X Q nL (pc + 1) lv (v :: v :: st) μ nn LL c1 s1) : tn_V E X Q nL (pc) lv (v :: st) μ nn LL c1 s1 := by
  intro ls H locs hl hP hS
  exact lv_dup C.1 C.2.1 hd hv (k ls H locs hl hP hS)
theorem tn_icmp_ge {E : tm_Ev} {X : tm_X} {Q : State → Prop} {own : String} {cc : ByteArray} {nL : Nat} {pc : Nat} {nn : Nat} {LL : List (Nat × Nat)} {c1 s1 d mc ms n0 : Nat} {lv : List (Nat × Value)} {st : List Value} {μ : tm_M} {a b off : Int} (tgt : Nat) (C : tn_C E X own cc nL d mc ms n0) (hd : decode cc pc = .ok (.if_icmp .ge off, 3)) (ht : (pc : Int) + off = (tgt : Int)) (ha : -2147483648 ≤ a ∧ a ≤ 2147483647) (hb : -2147483648 ≤ b ∧ b ≤ 2147483647) (kt : b ≤ a → tn_V E X Q nL (tgt) lv st μ nn LL c1 s1) (kf : a < b → tn_V E X Q nL (pc + 3) lv st μ nn LL c1 s1) : tn_V E X Q nL (pc) lv (tm_i b :: tm_i a :: st) μ nn LL c1 s1 := by
  intro ls H locs hl hP hS
  exact lv_icmp_ge C.1 C.2.1 hd ht (fun q => kt ((tm_lei hb ha).mp q) ls H locs hl hP hS) (fun q => kf (Int.not_le.mp fun z => q ((tm_lei hb ha).mpr z)) ls H locs hl hP hS)
theorem tn_goto {E : tm_Ev} {X : tm_X} {Q : State → Prop} {own : String} {cc : ByteArray} {nL : Nat} {pc : Nat} {nn : Nat} {LL : List (Nat × Nat)} {c1 s1 d mc ms n0 : Nat} {lv : List (Nat × Value)} {st : List Value} {μ : tm_M} {off : Int} (tgt : Nat) (C : tn_C E X own cc nL d mc ms n0) (hd : decode cc pc = .ok (.goto off, 3)) (ht : (pc : Int) + off = (tgt : Int)) (k : tn_V E X Q nL (tgt) lv st μ nn LL c1 s1) : tn_V E X Q nL (pc) lv st μ nn LL c1 s1 := by
  intro ls H locs hl hP hS
  exact lv_goto C.1 C.2.1 hd ht (k ls H locs hl hP hS)
theorem tn_sub {E : tm_Ev} {X : tm_X} {Q : State → Prop} {nL : Nat} {pc : Nat} {nn : Nat} {LL : List (Nat × Nat)} {c1 s1 : Nat} {lv : List (Nat × Value)} {st : List Value} {μ : tm_M} {lv1 : List (Nat × Value)} (ks : List Nat) (hp : lv_pick lv ks = lv1) (k : tn_V E X Q nL pc lv1 st μ nn LL c1 s1) : tn_V E X Q nL pc lv st μ nn LL c1 s1 := by
  intro ls H locs hl hP hS
  exact k ls H locs (lv_sub hl ks hp) hP hS
theorem tn_obj {E : tm_Ev} {X : tm_X} {Q : State → Prop} {own : String} {cc : ByteArray} {nL : Nat} {pc : Nat} {nn : Nat} {LL : List (Nat × Nat)} {c1 s1 d mc ms n0 : Nat} {lv : List (Nat × Value)} {st : List Value} {μ : tm_M} {a ix : Nat} (C : tn_C E X own cc nL d mc ms n0) (h1 : Cond.methodLink own ix Lib.objectInit ∈ tm_tbl) (h2 : Cond.instanceMethod Lib.objectInit ∈ tm_tbl) (h3 : Cond.code Lib.objectInit ⟨#[0xb1]⟩ 1 none ∈ tm_tbl) (hd1 : 1 ≤ d) (hr : (st.map fun v => v.category).sum ≤ 8) (hd : decode cc pc = .ok (.invokespecial ix, 3)) (k : tn_V E X Q nL (pc + 3) lv st μ nn LL c1 s1) : tn_V E X Q nL pc lv (.ref a :: st) μ nn LL c1 s1 := by
  intro ls H locs hl hP hS
  have hT := C.2.2.2.2.1
  have hR := C.2.2.2.2.2.2.1
  exact W.objInit C.1 C.2.1 C.2.2.2.1 (hT _ h1) (hT _ h2) (hT _ h3) rfl (hl.1.trans C.2.2.1.symm) rfl hd (by omega) (by show 2 * 0 + _ + 12 ≤ _; omega) (k ls H locs hl hP hS)
theorem tn_mmax {E : tm_Ev} {X : tm_X} {Q : State → Prop} {own : String} {cc : ByteArray} {nL : Nat} {pc : Nat} {nn : Nat} {LL : List (Nat × Nat)} {c1 s1 d mc ms n0 : Nat} {lv : List (Nat × Value)} {st : List Value} {μ : tm_M} {ix : Nat} {a b : Int} (C : tn_C E X own cc nL d mc ms n0) (hf : tm_mmax own ix) (ha : -2147483648 ≤ a ∧ a ≤ 2147483647) (hb : -2147483648 ≤ b ∧ b ≤ 2147483647) (hd1 : 1 ≤ d) (hc : c1 ≤ mc) (hs : s1 ≤ ms) (hd : decode cc pc = .ok (.invokestatic ix, 3)) (hr : (st.map fun v => v.category).sum ≤ 8) (k : tn_V E X Q nL (pc + 3) lv (tm_i (max a b) :: st) μ nn LL c1 s1) : tn_V E X Q nL pc lv (tm_i b :: tm_i a :: st) μ nn LL c1 s1 := by
  intro ls H locs hl hP hS
  have k := k ls H locs hl hP hS
  obtain ⟨f1, f2, f3, f4⟩ := hf
  have hT := C.2.2.2.2.1
  have hR := C.2.2.2.2.2.2.1
  refine va_mmax C.1 C.2.1 (by rw [hl.1]; exact C.2.2.1) C.2.2.2.1 (hT _ f1) (hT _ f2) (hT _ f3) (hT _ f4) (by omega) (by omega) (by omega) (by omega) hd ?_
  have e : (if Int32.ofInt a < Int32.ofInt b then Int32.ofInt b else Int32.ofInt a) = Int32.ofInt (max a b) := by
    by_cases h : a < b
    · rw [if_pos ((tm_lti ha hb).mpr h)]
      congr 1
      omega
    · rw [if_neg (fun z => h ((tm_lti ha hb).mp z))]
      congr 1
      omega
  rw [e]
  exact k
theorem tn_getr {E : tm_Ev} {X : tm_X} {Q : State → Prop} {own : String} {cc : ByteArray} {nL : Nat} {pc : Nat} {nn : Nat} {LL : List (Nat × Nat)} {c1 s1 d mc ms n0 : Nat} {lv : List (Nat × Value)} {st : List Value} {μ : tm_M} {k ci j ix q : Nat} {fs : List (Option Nat)} (C : tn_C E X own cc nL d mc ms n0) (hkn : k < nn) (hk : tm_tm[k]? = some (0, ci, fs)) (hj : fs[j]? = some (some q)) (hdn : tn_d LL k j = true) (hf : tm_fl own ix ci j) (hd : decode cc pc = .ok (.getfield ix, 3)) (kk : tn_V E X Q nL (pc + 3) lv (.ref (E.2.1 q) :: st) μ nn LL c1 s1) : tn_V E X Q nL pc lv (.ref (E.2.1 k) :: st) μ nn LL c1 s1 := by
  intro ls H locs hl hP hS
  obtain ⟨Cn, T, N, ty, ⟨h1, h2, h3, h4⟩, hjN, hlk⟩ := hf
  refine va_get (D := E.1) (ci := ci) (v := .ref (E.2.1 q)) C.1 C.2.1 C.2.2.2.2.1 h2 C.2.2.2.1 C.2.2.2.2.2.1.1 hP k (tn_at hkn hk) h1 j hjN (C.2.2.2.2.1 _ hlk) (fun _ h => h) ?_ hd (kk ls H locs hl hP hS)
  rw [tn_F_at, hj]
  simp [hdn]
def tn_fr (own : String) (ix ci j : Nat) : Prop := ∃ (Cn : String) (T : u_T) (N : Nat) (ty : Nat → FieldType), tm_cls ci Cn T N ty ∧ j < N ∧ Cond.fieldLink own ix (T j).1 (T j).2.1 (T j).2.2.1 ∈ tm_tbl ∧ (T j).2.2.2 = true ∧ (T j).1 = own ∧ ∀ a, narrow (ty j) (.ref a) = .ref a ∧ fits (ty j) (.ref a) = true
theorem tn_putr {E : tm_Ev} {X : tm_X} {Q : State → Prop} {own : String} {cc : ByteArray} {nL : Nat} {pc : Nat} {nn : Nat} {LL : List (Nat × Nat)} {c1 s1 d mc ms n0 : Nat} {lv : List (Nat × Value)} {st : List Value} {μ : tm_M} {k ci j ix q : Nat} {fs : List (Option Nat)} (C : tn_C E X own cc nL d mc ms n0) (hnm : X.2.2.2.2.2.2.2.2.1.name = "<init>") (h102 : nn ≤ 102) (hkn : k < nn) (hk : tm_tm[k]? = some (0, ci, fs)) (hj : fs[j]? = some (some q)) (hf : tn_fr own ix ci j) (hd : decode cc pc = .ok (.putfield ix, 3)) (kk : tn_V E X Q nL (pc + 3) lv st μ nn ((k, j) :: LL) c1 s1) : tn_V E X Q nL pc lv (.ref (E.2.1 q) :: .ref (E.2.1 k) :: st) μ nn LL c1 s1 := by
  intro ls H locs hl hP hS
  obtain ⟨Cn, T, N, ty, ⟨h1, h2, h3, h4⟩, hjN, hlk, hfin, hown, hfit⟩ := hf
  refine va_putF (D := E.1) (ci := ci) (v := .ref (E.2.1 q)) (ty := ty j) C.1 C.2.1 C.2.2.2.2.1 h2 ty h3 h4 C.2.2.2.1 C.2.2.2.2.2.1.1 hP (tn_D C.2.2.2.2.2.2.2.1 h102 μ LL) hS k (tn_at hkn hk) h1 j hjN (C.2.2.2.2.1 _ hlk) (fun _ h => h) hfin hnm hown (h3 j hjN) (hfit _).1 (hfit _).2 (by rw [tn_F_len]; exact (List.getElem?_eq_some_iff.mp hj).1) hd (fun H1 locs1 hP1 _ hS1 => ?_)
  refine kk ls H1 locs1 hl ?_ hS1
  rw [← tn_set (μ := μ) (L := LL) (L' := (k, j) :: LL) hkn hk rfl (fun a ha => ⟨rfl, tn_d3 ha⟩)]
  have e : tn_e E.2.1 E.2.2.1 (μ k) (tn_d ((k, j) :: LL) k) (0, ci, fs) = .inr (ci, (tn_F E.2.1 (μ k) (tn_d LL k) 0 fs).set j (.ref (E.2.1 q))) := by
    rw [tn_F_r hj tn_d1 (fun b hb => tn_d2 hb)]
    rfl
  rw [e]
  exact hP1
theorem tn_puti {E : tm_Ev} {X : tm_X} {Q : State → Prop} {own : String} {cc : ByteArray} {nL : Nat} {pc : Nat} {nn : Nat} {LL : List (Nat × Nat)} {c1 s1 d mc ms n0 : Nat} {lv : List (Nat × Value)} {st : List Value} {μ : tm_M} {k ci j ix : Nat} {fs : List (Option Nat)} {z : Int} (C : tn_C E X own cc nL d mc ms n0) (h102 : nn ≤ 102) (hkn : k < nn) (hk : tm_tm[k]? = some (0, ci, fs)) (hj : fs[j]? = some none) (hf : tm_fp own ix ci j .int) (hd : decode cc pc = .ok (.putfield ix, 3)) (kk : tn_V E X Q nL (pc + 3) lv st (tm_up μ k j z) nn LL c1 s1) : tn_V E X Q nL pc lv (tm_i z :: .ref (E.2.1 k) :: st) μ nn LL c1 s1 := by
  intro ls H locs hl hP hS
  obtain ⟨Cn, T, N, ty, ⟨h1, h2, h3, h4⟩, hjN, hlk, hfin, hde⟩ := hf
  refine va_put (D := E.1) (ci := ci) (v := tm_i z) (ty := .int) C.1 C.2.1 C.2.2.2.2.1 h2 ty h3 h4 C.2.2.2.1 C.2.2.2.2.2.1.1 hP (tn_D C.2.2.2.2.2.2.2.1 h102 μ LL) hS k (tn_at hkn hk) h1 j hjN (C.2.2.2.2.1 _ hlk) (fun _ h => h) hfin hde rfl rfl (by rw [tn_F_len]; exact (List.getElem?_eq_some_iff.mp hj).1) hd (fun H1 locs1 hP1 _ hS1 => ?_)
  refine kk ls H1 locs1 hl ?_ hS1
  rw [← tn_set (μ := μ) (μ' := tm_up μ k j z) (L := LL) (L' := LL) hkn hk rfl (fun a ha => ⟨tm_uf ha, rfl⟩)]
  have e : tn_e E.2.1 E.2.2.1 (tm_up μ k j z k) (tn_d LL k) (0, ci, fs) = .inr (ci, (tn_F E.2.1 (μ k) (tn_d LL k) 0 fs).set j (tm_i z)) := by
    rw [tn_F_i (g := tm_up μ k j z k) hj tm_us (fun b hb => tm_uj hb)]
    rfl
  rw [e]
  exact hP1
theorem tn_iast {E : tm_Ev} {X : tm_X} {Q : State → Prop} {own : String} {cc : ByteArray} {nL : Nat} {pc : Nat} {nn : Nat} {LL : List (Nat × Nat)} {c1 s1 d mc ms n0 : Nat} {lv : List (Nat × Value)} {st : List Value} {μ : tm_M} {k n : Nat} {fs : List (Option Nat)} {i z : Int} {j : Nat} (C : tn_C E X own cc nL d mc ms n0) (h102 : nn ≤ 102) (hkn : k < nn) (hk : tm_tm[k]? = some (1, n, fs)) (hd : decode cc pc = .ok (.iastore, 1)) (hi : 0 ≤ i ∧ i < (n : Int)) (hj : i.toNat = j) (kk : tn_V E X Q nL (pc + 1) lv st (tm_up μ k j z) nn LL c1 s1) : tn_V E X Q nL pc lv (tm_i z :: tm_i i :: .ref (E.2.1 k) :: st) μ nn LL c1 s1 := by
  intro ls H locs hl hP hS
  have hn := tm_n hk
  refine va_iast (D := E.1) C.1 C.2.1 C.2.2.2.2.2.1.1 hP (tn_D C.2.2.2.2.2.2.2.1 h102 μ LL) hS k 0 (tn_at hkn hk) rfl (tm_in (by omega) hi) hd (fun H1 locs1 hP1 _ hS1 => ?_)
  refine kk ls H1 locs1 hl ?_ hS1
  rw [← tn_set (μ := μ) (μ' := tm_up μ k j z) (L := LL) (L' := LL) hkn hk rfl (fun a ha => ⟨tm_uf ha, rfl⟩)]
  have e : tn_e E.2.1 E.2.2.1 (tm_up μ k j z k) (tn_d LL k) (1, n, fs) = .inl (E.2.2.1 0, n, .inl (upd (fun j => Int32.ofInt (μ k j)) (Int32.ofInt i).toNatClampNeg (Int32.ofInt z))) := by
    rw [tm_cl (by omega), hj]
    show Sum.inl (E.2.2.1 0, n, Sum.inl fun b => Int32.ofInt (tm_up μ k j z k b)) = _
    congr 3
    congr 1
    funext b
    by_cases hb : b = j
    · subst hb
      simp [upd, tm_us]
    · simp [upd, tm_uj hb, hb]
  rw [e]
  exact hP1
theorem tn_alen {E : tm_Ev} {X : tm_X} {Q : State → Prop} {own : String} {cc : ByteArray} {nL : Nat} {pc : Nat} {nn : Nat} {LL : List (Nat × Nat)} {c1 s1 d mc ms n0 : Nat} {lv : List (Nat × Value)} {st : List Value} {μ : tm_M} {k n r : Nat} {fs : List (Option Nat)} {cn : String} (C : tn_C E X own cc nL d mc ms n0) (hkn : k < nn) (hk : tm_tm[k]? = some (r + 4, n, fs)) (ht : (tm_tys E)[r + 3]? = some (E.2.2.1 (r + 3), .object cn)) (hd : decode cc pc = .ok (.arraylength, 1)) (kk : tn_V E X Q nL (pc + 1) lv (tm_i (n : Int) :: st) μ nn LL c1 s1) : tn_V E X Q nL pc lv (.ref (E.2.1 k) :: st) μ nn LL c1 s1 := by
  intro ls H locs hl hP hS
  exact va_alen (D := E.1) (v := Int32.ofInt (n : Int)) C.1 C.2.1 C.2.2.2.2.2.1.1 hP k (r + 3) (tn_at hkn hk) ht (by exact Int32.ofInt_eq_ofNat.symm) hd (kk ls H locs hl hP hS)
theorem tn_aast {E : tm_Ev} {X : tm_X} {Q : State → Prop} {own : String} {cc : ByteArray} {nL : Nat} {pc : Nat} {nn : Nat} {LL : List (Nat × Nat)} {c1 s1 d mc ms n0 : Nat} {lv : List (Nat × Value)} {st : List Value} {μ : tm_M} {k q n r ci j : Nat} {fs gs : List (Option Nat)} {i : Int} {rc : vw_C} (C : tn_C E X own cc nL d mc ms n0) (h102 : nn ≤ 102) (hkn : k < nn) (hk : tm_tm[k]? = some (r + 4, n, fs)) (hqn : q < nn) (hq : tm_tm[q]? = some (0, ci, gs)) (hc : vwCl[ci]? = some rc) (ht : (tm_tys E)[r + 3]? = some (E.2.2.1 (r + 3), .object rc.1)) (hi : 0 ≤ i ∧ i < (n : Int)) (hj : i.toNat = j) (hf : fs[j]? = some (some q)) (hd : decode cc pc = .ok (.aastore, 1)) (kk : tn_V E X Q nL (pc + 1) lv st μ nn ((k, j) :: LL) c1 s1) : tn_V E X Q nL pc lv (.ref (E.2.1 q) :: tm_i i :: .ref (E.2.1 k) :: st) μ nn LL c1 s1 := by
  intro ls H locs hl hP hS
  have hn := tm_n hk
  refine va_astq (D := E.1) C.1 C.2.1 C.2.2.2.2.2.1.1 hP (tn_D C.2.2.2.2.2.2.2.1 h102 μ LL) hS k (r + 3) q ci (tn_at hkn hk) ht (tn_at hqn hq) hc (tm_in (by omega) hi) hd (fun H1 locs1 hP1 _ hS1 => ?_)
  refine kk ls H1 locs1 hl ?_ hS1
  rw [← tn_set (μ := μ) (L := LL) (L' := (k, j) :: LL) hkn hk rfl (fun a ha => ⟨rfl, tn_d3 ha⟩)]
  have e : tn_e E.2.1 E.2.2.1 (μ k) (tn_d ((k, j) :: LL) k) (r + 4, n, fs) = .inl (E.2.2.1 (r + 3), n, .inr (.inr (.inr (.inr (va_up (fun j => if tn_d LL k j = true then (fs.getD j none).map E.2.1 else none) (Int32.ofInt i).toNatClampNeg (some (E.2.1 q))))))) := by
    rw [tm_cl (by omega), hj]
    show Sum.inl (E.2.2.1 (r + 3), n, _) = Sum.inl (E.2.2.1 (r + 3), n, _)
    congr 7
    funext b
    by_cases hb : b = j
    · subst hb
      rw [tn_d1, if_pos rfl, List.getD_eq_getElem?_getD, hf]
      simp [va_up]
    · rw [tn_d2 hb]
      simp [va_up, hb]
  rw [e]
  exact hP1
theorem tn_gets {E : tm_Ev} {X : tm_X} {Q : State → Prop} {own : String} {cc : ByteArray} {nL : Nat} {pc : Nat} {nn : Nat} {LL : List (Nat × Nat)} {c1 s1 d mc ms n0 : Nat} {lv : List (Nat × Value)} {st : List Value} {μ : tm_M} {ix : Nat} (j : Nat) (C : tn_C E X own cc nL d mc ms n0) (hj : j < 5) (hf : Cond.fieldLink own ix RX7 (tm_sn j) "[I" ∈ tm_tbl) (hd : decode cc pc = .ok (.getstatic ix, 3)) (kk : tn_V E X Q nL (pc + 3) lv (.ref (E.2.2.2.1 j) :: st) μ nn LL c1 s1) : tn_V E X Q nL pc lv st μ nn LL c1 s1 := by
  intro ls H locs hl hP hS
  exact va_gets C.1 C.2.1 (C.2.2.2.2.2.1.2.2.2.1 j hj).1 hS C.2.2.2.1 (C.2.2.2.2.1 _ hf) (fun _ h => h) hd (kk ls H locs hl hP hS)
theorem tn_castA {E : tm_Ev} {X : tm_X} {Q : State → Prop} {own : String} {cc : ByteArray} {nL : Nat} {pc : Nat} {nn : Nat} {LL : List (Nat × Nat)} {c1 s1 d mc ms n0 : Nat} {lv : List (Nat × Value)} {st : List Value} {μ : tm_M} {k n r ix : Nat} {fs : List (Option Nat)} (C : tn_C E X own cc nL d mc ms n0) (hkn : k < nn) (hk : tm_tm[k]? = some (1, n, fs)) (hcl : Cond.classLink own ix "[I" ∈ tm_tbl) (hd : decode cc pc = .ok (.checkcast ix, 3)) (kk : tn_V E X Q nL (pc + 3) lv (.ref (E.2.1 k) :: st) μ nn LL c1 s1) : tn_V E X Q nL pc lv (.ref (E.2.1 k) :: st) μ nn LL c1 s1 := by
  intro ls H locs hl hP hS
  exact va_castA C.1 C.2.1 C.2.2.2.1 (C.2.2.2.2.1 _ hcl) hP k (tn_at hkn hk) (C.2.2.2.2.2.1.1.2 0 _ rfl).2 hd (kk ls H locs hl hP hS)
/-- a new object -/
theorem tn_new {E : tm_Ev} {X : tm_X} {Q : State → Prop} {own : String} {cc : ByteArray} {nL : Nat} {pc : Nat} {nn : Nat} {LL : List (Nat × Nat)} {c1 s1 d mc ms n0 : Nat} {lv : List (Nat × Value)} {st : List Value} {μ : tm_M} {ci ix N : Nat} {fs : List (Option Nat)} {Cn : String} {T : u_T} {ty : Nat → FieldType} (C : tn_C E X own cc nL d mc ms n0) (hn : n0 + c1 = nn) (h102 : nn < 102) (ht : tm_tm[nn]? = some (0, ci, fs)) (hcls : tm_cls ci Cn T N ty) (w1 : Cond.classLink own ix Cn ∈ tm_tbl) (w2 : Cond.instantiable Cn N ∈ tm_tbl) (w3 : Cond.initialized Cn ∈ tm_tbl) (hfs : ∀ j, j < N → defaultValue (ty j) = vp_V (tn_F E.2.1 (μ nn) (tn_d LL nn) 0 fs) j) (hc : c1 + 1 ≤ mc) (hs : s1 + N ≤ ms) (hd : decode cc pc = .ok (.new ix, 3)) (kk : tn_V E X Q nL (pc + 3) lv (.ref (E.2.1 nn) :: st) μ (nn + 1) LL (c1 + 1) (s1 + N)) : tn_V E X Q nL pc lv st μ nn LL c1 s1 := by
  intro ls H locs hl hP hS
  have hE := C.2.2.2.2.2.2.2.1
  refine tn_ws_size hE (by omega) C.2.2.2.2.2.2.2.2.2 hn hP hS (fun hsz => ?_)
  have hT := C.2.2.2.2.1
  have hR := C.2.2.2.2.2.2.1
  obtain ⟨h1, h2, h3, h4⟩ := hcls
  have hKn := C.2.2.2.2.2.1.1.1 ci _ h1
  have hh : H.size = E.2.1 nn := by rw [hsz, hE nn h102]
  refine W.newcK C.1 C.2.1 C.2.2.2.1 (hT _ w1) (hT _ w2) (hT _ w3) rfl hd (by omega) (by omega) hKn.2.1 hh (fun H1 kC hkC e1 z1 o1 => ?_)
  have hk : ∀ (k : Nat) (x : Nat × va_E), (tn_ws E μ nn LL)[k]? = some x → H1[x.1]? = H[x.1]? := fun k x hx => o1 x.1 (by rw [← hh]; exact (hP k x hx).lt)
  refine kk ls H1 locs hl ?_ ⟨Nat.le_trans hS.1 (by omega), fun x a b => (o1 x (by have := hS.1; omega)).trans (hS.2.1 x a b), hS.2.2⟩
  rw [← tn_push ht]
  refine (hP.kept hk).app (fun k x hx => ?_)
  have hz : k < 1 := (List.getElem?_eq_some_iff.mp hx).1
  rw [show k = 0 by omega] at hx
  cases hx
  exact ⟨_, h1, (u_born ty hT h2 hKn hkC e1 h3).to hfs⟩
/-- a new row of numbers -/
theorem tn_newa {E : tm_Ev} {X : tm_X} {Q : State → Prop} {own : String} {cc : ByteArray} {nL : Nat} {pc : Nat} {nn : Nat} {LL : List (Nat × Nat)} {c1 s1 d mc ms n0 : Nat} {lv : List (Nat × Value)} {st : List Value} {μ : tm_M} {r N t0 : Nat} {fs : List (Option Nat)} {i : Int} {at_ : ArrayType} {ty : FieldType} {cA : ClassId} {x : vp_A} (C : tn_C E X own cc nL d mc ms n0) (hn : n0 + c1 = nn) (h102 : nn < 102) (ht : tm_tm[nn]? = some (r, N, fs)) (hty : newarray.typeOf at_ = ty) (hat : (tm_tys E)[t0]? = some (cA, ty)) (hra : ∀ U, va_RA U cA ty → U.vm.findClass ("[" ++ ty.toString) = some cA) (w1 : Cond.arrayClass ty ∈ tm_tbl) (he : tn_e E.2.1 E.2.2.1 (μ nn) (tn_d LL nn) (r, N, fs) = .inl (cA, x)) (hx : vp_cell cA x = arrV cA N (fun _ => defaultValue ty)) (hi : i = (N : Int)) (hb : N * componentBytes ty ≤ 536870912) (hc : c1 + 1 ≤ mc) (hs : s1 + N ≤ ms) (hd : decode cc pc = .ok (.newarray at_, 2)) (kk : tn_V E X Q nL (pc + 2) lv (.ref (E.2.1 nn) :: st) μ (nn + 1) LL (c1 + 1) (s1 + N)) : tn_V E X Q nL pc lv (tm_i i :: st) μ nn LL c1 s1 := by
  intro ls H locs hl hP hS
  subst hty
  have hE := C.2.2.2.2.2.2.2.1
  refine tn_ws_size hE (by omega) C.2.2.2.2.2.2.2.2.2 hn hP hS (fun hsz => ?_)
  have hT := C.2.2.2.2.1
  have hR := C.2.2.2.2.2.2.1
  have hN := tm_n ht
  have hh : H.size = E.2.1 nn := by rw [hsz, hE nn h102]
  refine va_newaK C.1 C.2.1 (hT _ w1) rfl hd rfl (fun q => ?_) (show (Int32.ofInt i).toNatClampNeg = N by rw [tm_cl (by omega)]; omega) hb (by omega) (by omega) hh (fun H1 cB e1 z1 o1 hAr hNm => ?_)
  · have := (tm_lti (a := i) (b := 0) (by omega) (by omega)).mp q
    omega
  have hcB : cB = cA := by
    have h2 := hra _ (C.2.2.2.2.2.1.1.2 t0 _ hat).2
    exact Option.some.inj (hNm.symm.trans h2)
  subst hcB
  have hk : ∀ (k : Nat) (x : Nat × va_E), (tn_ws E μ nn LL)[k]? = some x → H1[x.1]? = H[x.1]? := fun k x hx => o1 x.1 (by rw [← hh]; exact (hP k x hx).lt)
  refine kk ls H1 locs hl ?_ ⟨Nat.le_trans hS.1 (by omega), fun x a b => (o1 x (by have := hS.1; omega)).trans (hS.2.1 x a b), hS.2.2⟩
  rw [← tn_push ht, he]
  refine (hP.kept hk).app (fun k y hy => ?_)
  have hz : k < 1 := (List.getElem?_eq_some_iff.mp hy).1
  rw [show k = 0 by omega] at hy
  cases hy
  show H1[E.2.1 nn]? = some (vp_cell _ _)
  rw [hx]
  exact e1
/-- a new row of places -/
theorem tn_newq {E : tm_Ev} {X : tm_X} {Q : State → Prop} {own : String} {cc : ByteArray} {nL : Nat} {pc : Nat} {nn : Nat} {LL : List (Nat × Nat)} {c1 s1 d mc ms n0 : Nat} {lv : List (Nat × Value)} {st : List Value} {μ : tm_M} {r N ix : Nat} {fs : List (Option Nat)} {i : Int} {cn : String} (C : tn_C E X own cc nL d mc ms n0) (hn : n0 + c1 = nn) (h102 : nn < 102) (ht : tm_tm[nn]? = some (r + 4, N, fs)) (hat : (tm_tys E)[r + 3]? = some (E.2.2.1 (r + 3), .object cn)) (w1 : Cond.classLink own ix cn ∈ tm_tbl) (w2 : va_AO cn X.2.2.2.2.1) (hdn : ∀ j, tn_d LL nn j = false) (hi : i = (N : Int)) (hc : c1 + 1 ≤ mc) (hs : s1 + N ≤ ms) (hd : decode cc pc = .ok (.anewarray ix, 3)) (kk : tn_V E X Q nL (pc + 3) lv (.ref (E.2.1 nn) :: st) μ (nn + 1) LL (c1 + 1) (s1 + N)) : tn_V E X Q nL pc lv (tm_i i :: st) μ nn LL c1 s1 := by
  intro ls H locs hl hP hS
  have hE := C.2.2.2.2.2.2.2.1
  refine tn_ws_size hE (by omega) C.2.2.2.2.2.2.2.2.2 hn hP hS (fun hsz => ?_)
  have hT := C.2.2.2.2.1
  have hR := C.2.2.2.2.2.2.1
  have hN := tm_n ht
  have hh : H.size = E.2.1 nn := by rw [hsz, hE nn h102]
  have hcl : (Int32.ofInt i).toNatClampNeg = N := by rw [tm_cl (by omega)]; omega
  refine W.anew C.1 C.2.1 C.2.2.2.1 (hT _ w1) (va_AO.use w2) rfl hd rfl (fun q => ?_) (by rw [hcl]; omega) (by omega) (by rw [hcl]; omega) (fun cB kA comp f1 f2 f3 f4 => ?_)
  · have := (tm_lti (a := i) (b := 0) (by omega) (by omega)).mp q
    omega
  have hcB : cB = E.2.2.1 (r + 3) := by
    obtain ⟨kB, cmp, g1, g2, g3, g4⟩ := (C.2.2.2.2.2.1.1.2 (r + 3) _ hat).2
    exact Option.some.inj (f1.symm.trans g4)
  subst hcB
  rw [hcl]
  generalize hH1 : H.push ({ cls := E.2.2.1 (r + 3), slots := Array.replicate N .null, vm := .none } : Cell) = H1
  have z1 : H1.size = H.size + 1 := by rw [← hH1, Array.size_push]
  have e1 : H1[H.size]? = some (arrV (E.2.2.1 (r + 3)) N (fun _ => .null)) := by rw [← hH1, Array.getElem?_push_size, ← arrV_new]
  have o1 : ∀ q : Nat, q < H.size → H1[q]? = H[q]? := fun q hq => by rw [← hH1, Array.getElem?_push, if_neg (Nat.ne_of_lt hq)]
  have hk : ∀ (k : Nat) (x : Nat × va_E), (tn_ws E μ nn LL)[k]? = some x → H1[x.1]? = H[x.1]? := fun k x hx => o1 x.1 ((hP k x hx).lt)
  rw [hh] at e1 ⊢
  refine kk ls H1 locs hl ?_ ⟨Nat.le_trans hS.1 (by omega), fun x a b => (o1 x (Nat.lt_of_lt_of_le a hS.1)).trans (hS.2.1 x a b), hS.2.2⟩
  rw [← tn_push ht]
  refine (hP.kept hk).app (fun k y hy => ?_)
  have hz : k < 1 := (List.getElem?_eq_some_iff.mp hy).1
  rw [show k = 0 by omega] at hy
  cases hy
  show H1[E.2.1 nn]? = some (arrV (E.2.2.1 (r + 3)) N (fun j => va_rf (if tn_d LL nn j = true then (fs.getD j none).map E.2.1 else none)))
  rw [e1]
  congr 2
  funext j
  rw [hdn j]
  rfl
