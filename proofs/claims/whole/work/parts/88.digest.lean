/-! the digest, as a number -/
def wr (z : Int) : Int := (Int32.ofInt z).toInt
theorem wr_64 (a : Int) : (Int32.ofInt a).toInt64 = Int64.ofInt (wr a) := by
  have h1 := Int32.minValue_le_toInt (Int32.ofInt a)
  have h2 := Int32.toInt_le (Int32.ofInt a)
  have e : Int32.ofInt a = Int32.ofInt (wr a) := (Int32.ofInt_toInt _).symm
  have q := Int32.toInt64_ofInt (n := wr a) h1 h2
  rw [← e] at q
  exact q
theorem tv_i2lw {E : tm_Ev} {X : tm_X} {Q : State → Prop} {own : String} {cc : ByteArray} {nL : Nat} {ret : Option FieldType} {d pc : Nat} {lv : List (Nat × Value)} {st : List Value} {μ : tm_M} {a : Int} (C : tm_C E X own cc nL ret d) (hd : decode cc pc = .ok (.i2l, 1)) (k : tm_V E X Q nL (pc + 1) lv (tm_l (wr a) :: st) μ) : tm_V E X Q nL (pc) lv (tm_i a :: st) μ := by
  intro ls H locs hl hP hS
  exact lv_i2l C.1 C.2.1 hd (wr_64 a) (k ls H locs hl hP hS)
def fo_n (f : Nat → Int) (x : Int) : Nat → Int
  | 0 => x
  | n + 1 => 31 * fo_n f x n + f n
theorem fo_s (f : Nat → Int) (x : Int) (n : Nat) : fo_n f x (n + 1) = 31 * fo_n f x n + f n := rfl
def dg_h (d : tm_M) (x : Int) : Nat → Int
  | 0 => x
  | h + 1 => fo_n (fun w => wr (at_z d (h : Int) (w : Int))) (31 * dg_h d x h + wr (sa_z d (h : Int))) 5
def dg_o (d : tm_M) (x : Int) : Nat → Int
  | 0 => x
  | k + 1 => 31 * (31 * (31 * fo_n (fun w => wr (or_z d (k : Int) (w : Int))) (dg_o d x k) 4 + wr (en_z d (k : Int))) + sr_z d 5 (k : Int) 0) + sr_z d 5 (k : Int) 1
def dg_l (x : Int) : List Int → Int
  | [] => x
  | v :: r => dg_l (31 * x + v) r
def dg_a (d s : tm_M) : Int := fo_n (fun k => wr (co_z d s (k : Int))) 17 8
def dg_b (d s : tm_M) : Int := dg_l (dg_a d s) [wr (fa_z d 0), wr (fa_z d 1)]
def dg_c (d s : tm_M) : Int := dg_o d (dg_h d (dg_b d s) 40) (dd_n d)
def dg_d (d s : tm_M) : Int := dg_l (dg_c d s) [wr (pa_z d), wr (sm_s (dd_p d) 40), wr (sm_i (dd_p d) 40), wr (la_z d)]
noncomputable def dg_e (d s : tm_M) : Int := fo_n (fun k => wr (ro_z d (k : Int))) (dg_d d s) 4
noncomputable def dg_z (d s : tm_M) : Int := dg_l (dg_e d s) [wr (dr_z d 0), wr (dr_z d 1), wr (le_z d), wr (sd_z d 0), wr (sd_z d 1), wr (nv_z d s), wr (wa_z d s 0), wr (wa_z d s 1), wr (as_z d s), wr (mn_z d 7 30 0), wr (mn_z d 7 30 1)]
