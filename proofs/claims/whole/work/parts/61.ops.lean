/-! the plain calls, as numbers -/
def ty_z (d : tm_M) (t b : Int) : Int := if (0 ≤ t ∧ t ≤ 1) ∧ (0 ≤ b ∧ b ≤ 255) then (if (if t = 0 then 40 else 47) ≤ d 0 t.toNat then -4 else d 0 t.toNat + 1) else -2
def ty_d (d : tm_M) (t b : Int) : tm_M := if (0 ≤ t ∧ t ≤ 1) ∧ (0 ≤ b ∧ b ≤ 255) then (if (if t = 0 then 40 else 47) ≤ d 0 t.toNat then d else dT_p d t.toNat b) else d
def wi_z (d : tm_M) (t : Int) : Int := if 0 ≤ t ∧ t ≤ 1 then d 0 t.toNat else -2
def wi_d (d : tm_M) (t : Int) : tm_M := if 0 ≤ t ∧ t ≤ 1 then tm_up d 0 t.toNat 0 else d
def un_z (d : tm_M) (t : Int) : Int := if 0 ≤ t ∧ t ≤ 1 then (if d 0 t.toNat = 0 then -3 else d 0 t.toNat - 1) else -2
def un_d (d : tm_M) (t : Int) : tm_M := if 0 ≤ t ∧ t ≤ 1 then (if d 0 t.toNat = 0 then d else tm_up d 0 t.toNat (d 0 t.toNat - 1)) else d
def fa_z (d : tm_M) (t : Int) : Int := if 0 ≤ t ∧ t ≤ 1 then (if t = 0 then sp_tf (d 1) (d 0 0).toNat else sp_of (d 2) (d 0 1).toNat) else -2
def se_lo (w : Int) : Int := if w = 1 ∨ w = 4 then 1 else 0
def se_hi (w : Int) : Int := if w = 0 then 20 else 9
def se_z (d : tm_M) (w v : Int) : Int := if (0 ≤ w ∧ w ≤ 4) ∧ (se_lo w ≤ v ∧ v ≤ se_hi w) then d 6 w.toNat else -2
def se_d (d : tm_M) (w v : Int) : tm_M := if (0 ≤ w ∧ w ≤ 4) ∧ (se_lo w ≤ v ∧ v ≤ se_hi w) then tm_up d 6 w.toNat v else d
def ra_z (d : tm_M) (w : Nat) (h : Int) : Int := if 0 ≤ h ∧ h ≤ 39 then (if 6 ≤ d 3 w then -4 else d 3 w + 1) else -2
def ra_d (d : tm_M) (w : Nat) (h : Int) : tm_M := if 0 ≤ h ∧ h ≤ 39 then (if 6 ≤ d 3 w then d else dR_p d w h) else d
def ba_z (d : tm_M) (t : Int) : Int := if 0 ≤ t ∧ t ≤ 1 then (if d 3 t.toNat = 0 then -3 else d 3 t.toNat - 1) else -2
def ba_d (d : tm_M) (t : Int) : tm_M := if 0 ≤ t ∧ t ≤ 1 then (if d 3 t.toNat = 0 then d else tm_up d 3 t.toNat (d 3 t.toNat - 1)) else d
