/-! Math.floorDiv's number; 'and' of 64 bits; rings of states as functions of the place -/
def lf_fdv (x y : Int32) : Int32 := if 0 ≤ x ^^^ y then x / y else if x / y * y = x then x / y else x / y - 1
def lf_land (x y : Int64) : Int64 := x &&& y
def lf_R (f : Nat → Nat → Int32) : Nat → Nat → Int := fun k => lf_A (f k)
def lf_eR (f : Nat → Nat → Int32) (F : Nat → Nat → Int) : Prop := lf_R f = F
def lf_upR (F : Nat → Nat → Int) (i : Int) (V : Nat → Int) : Nat → Nat → Int := fun k => if k = i.toNat then V else F k
theorem lf_uR {f : Nat → Nat → Int32} {F : Nat → Nat → Int} (h : lf_eR f F) : lf_R f = F := h
theorem lf_raR (f : Nat → Nat → Int32) : lf_eR f (lf_R f) := rfl
theorem lf_ix {z y : Int32} {X : Int} {j : Nat} (h : lf_e z X) (c : z = y) (e : y.toInt = (j : Int)) : X.toNat = j := by
  have h' : z.toInt = X := h
  rw [c, e] at h'
  omega
theorem lf_ptx {f : Nat → Int32} {F : Nat → Int} (h : lf_ea f F) {X : Int} {j : Nat} (hi : X.toNat = j) : lf_e (f j) (F X.toNat) := by
  rw [hi]
  exact lf_pt h j
theorem lf_Rtx {f : Nat → Nat → Int32} {F : Nat → Nat → Int} (h : lf_eR f F) {X : Int} {j : Nat} (hi : X.toNat = j) : lf_ea (f j) (F X.toNat) := by
  rw [hi, ← lf_uR h]
  exact rfl
theorem lf_gux {f : Nat → Int32} {F : Nat → Int} (hf : lf_ea f F) {X Y : Int} {j : Nat} {x : Int32} (hi : X.toNat = j) (hv : lf_e x Y) : lf_A (rg_u f j x) = lf_up F X Y := by
  rw [← hf, ← hv]
  funext k
  show (if k = j then x else f k).toInt = if k = X.toNat then x.toInt else (f k).toInt
  rw [hi]
  by_cases q : k = j
  · rw [if_pos q, if_pos q]
  · rw [if_neg q, if_neg q]
theorem lf_Gux {f : Nat → Nat → Int32} {F : Nat → Nat → Int} (hf : lf_eR f F) {X : Int} {Y : Nat → Int} {j : Nat} {x : Nat → Int32} (hi : X.toNat = j) (hv : lf_ea x Y) : lf_R (rg_u f j x) = lf_upR F X Y := by
  rw [← hf, ← hv]
  funext k
  show lf_A (if k = j then x else f k) = if k = X.toNat then lf_A x else lf_A (f k)
  rw [hi]
  by_cases q : k = j
  · rw [if_pos q, if_pos q]
  · rw [if_neg q, if_neg q]
