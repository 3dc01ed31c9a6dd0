/-! a method's numbers as whole numbers, and what it makes of them as a function -/
def lf_A (f : Nat → Int32) : Nat → Int := fun k => (f k).toInt
def lf_L (f : Nat → Int64) : Nat → Int := fun k => (f k).toInt
def lf_up (F : Nat → Int) (i v : Int) : Nat → Int := fun k => if k = i.toNat then v else F k
def lf_fl (F : Nat → Int) (n : Nat) (v : Int) : Nat → Int := fun k => if k < n then v else F k
def lf_p {α β γ : Type} (a : α × β) (G : α → β → γ) : γ := G a.1 a.2
def lf_b {α γ : Type} (a : α) (G : α → γ) : γ := G a
theorem lf_b_e {α γ : Type} (a : α) (G : α → γ) : lf_b a G = G a := rfl
def lf_o (op : Int32 → Int32 → Int32) (X Y : Int) : Int := (op (Int32.ofInt X) (Int32.ofInt Y)).toInt
def lf_iadd (x y : Int32) : Int32 := x + y
def lf_isub (x y : Int32) : Int32 := x - y
def lf_imul (x y : Int32) : Int32 := x * y
def lf_iand (x y : Int32) : Int32 := x &&& y
def lf_ior (x y : Int32) : Int32 := x ||| y
def lf_ixor (x y : Int32) : Int32 := x ^^^ y
def lf_ishl (x y : Int32) : Int32 := x <<< (y &&& 31)
def lf_ishr (x y : Int32) : Int32 := x >>> (y &&& 31)
def lf_iushr (x y : Int32) : Int32 := (x.toUInt32 >>> (y.toUInt32 &&& Int32.toUInt32 31)).toInt32
def lf_idiv (x y : Int32) : Int32 := x / y
def lf_irem (x y : Int32) : Int32 := x - x / y * y
def lf_e (x : Int32) (X : Int) : Prop := x.toInt = X
def lf_el (x : Int64) (X : Int) : Prop := x.toInt = X
def lf_ea (f : Nat → Int32) (F : Nat → Int) : Prop := lf_A f = F
theorem lf_u {x : Int32} {X : Int} (h : lf_e x X) : x.toInt = X := h
theorem lf_ul {x : Int64} {X : Int} (h : lf_el x X) : x.toInt = X := h
theorem lf_ua {f : Nat → Int32} {F : Nat → Int} (h : lf_ea f F) : lf_A f = F := h
theorem lf_pos {α : Type} {O a b : α} {c : Prop} {d : Decidable c} (q : O = @ite α c d a b) (h : c) : O = a := q.trans (if_pos h)
theorem lf_neg {α : Type} {O a b : α} {c : Prop} {d : Decidable c} (q : O = @ite α c d a b) (h : ¬ c) : O = b := q.trans (if_neg h)
theorem lf_p1 {α β γ : Type} {O : γ} {a : α × β} {G : α → β → γ} {x : α} {y : β} (q : O = lf_p a G) (h : a = (x, y)) : O = G x y := by subst h; exact q
theorem lf_b1 {α γ : Type} {O : γ} {a : α} {G : α → γ} {x : α} (q : O = lf_b a G) (h : a = x) : O = G x := by subst h; exact q
theorem lf_lt {x y : Int32} {X Y : Int} (hx : lf_e x X) (hy : lf_e y Y) (c : x < y) : X < Y := by rw [← hx, ← hy]; exact Int32.lt_iff_toInt_lt.mp c
theorem lf_nlt {x y : Int32} {X Y : Int} (hx : lf_e x X) (hy : lf_e y Y) (c : ¬ x < y) : ¬ X < Y := by rw [← hx, ← hy]; exact mt Int32.lt_iff_toInt_lt.mpr c
theorem lf_le {x y : Int32} {X Y : Int} (hx : lf_e x X) (hy : lf_e y Y) (c : x ≤ y) : X ≤ Y := by rw [← hx, ← hy]; exact Int32.le_iff_toInt_le.mp c
theorem lf_nle {x y : Int32} {X Y : Int} (hx : lf_e x X) (hy : lf_e y Y) (c : ¬ x ≤ y) : ¬ X ≤ Y := by rw [← hx, ← hy]; exact mt Int32.le_iff_toInt_le.mpr c
theorem lf_eq {x y : Int32} {X Y : Int} (hx : lf_e x X) (hy : lf_e y Y) (c : x = y) : X = Y := by rw [← hx, ← hy, c]
theorem lf_ne {x y : Int32} {X Y : Int} (hx : lf_e x X) (hy : lf_e y Y) (c : ¬ x = y) : ¬ X = Y := by rw [← hx, ← hy]; exact mt Int32.toInt_inj.mp c
theorem lf_lc (x : Int32) (X : Int) (h : x.toInt = X) : lf_e x X := h
theorem lf_ll (x : Int64) (X : Int) (h : x.toInt = X) : lf_el x X := h
theorem lf_rf (x : Int32) : lf_e x x.toInt := rfl
theorem lf_rl (x : Int64) : lf_el x x.toInt := rfl
theorem lf_ra (f : Nat → Int32) : lf_ea f (lf_A f) := rfl
theorem lf_add {x y z : Int32} {X Y : Int} (h : z.toInt = x.toInt + y.toInt) (hx : lf_e x X) (hy : lf_e y Y) : lf_e z (X + Y) := by rw [← hx, ← hy]; exact h
theorem lf_sub {x y z : Int32} {X Y : Int} (h : z.toInt = x.toInt - y.toInt) (hx : lf_e x X) (hy : lf_e y Y) : lf_e z (X - Y) := by rw [← hx, ← hy]; exact h
theorem lf_mul {x y z : Int32} {X Y : Int} (h : z.toInt = x.toInt * y.toInt) (hx : lf_e x X) (hy : lf_e y Y) : lf_e z (X * Y) := by rw [← hx, ← hy]; exact h
theorem lf_op (op : Int32 → Int32 → Int32) {x y z : Int32} {X Y : Int} (h : z = op x y) (hx : lf_e x X) (hy : lf_e y Y) : lf_e z (lf_o op X Y) := by
  rw [← hx, ← hy]
  show z.toInt = (op (Int32.ofInt x.toInt) (Int32.ofInt y.toInt)).toInt
  rw [Int32.ofInt_toInt, Int32.ofInt_toInt, h]
theorem lf_min {x y z : Int32} {X Y : Int} (h : z = if y < x then y else x) (hx : lf_e x X) (hy : lf_e y Y) : lf_e z (min X Y) := by
  rw [← hx, ← hy]
  show z.toInt = _
  by_cases q : y < x
  · rw [if_pos q] at h
    rw [Int32.lt_iff_toInt_lt] at q
    rw [h]
    omega
  · rw [if_neg q] at h
    rw [Int32.lt_iff_toInt_lt] at q
    rw [h]
    omega
theorem lf_max {x y z : Int32} {X Y : Int} (h : z = if x < y then y else x) (hx : lf_e x X) (hy : lf_e y Y) : lf_e z (max X Y) := by
  rw [← hx, ← hy]
  show z.toInt = _
  by_cases q : x < y
  · rw [if_pos q] at h
    rw [Int32.lt_iff_toInt_lt] at q
    rw [h]
    omega
  · rw [if_neg q] at h
    rw [Int32.lt_iff_toInt_lt] at q
    rw [h]
    omega
theorem lf_ld {f : Nat → Int32} {F : Nat → Int} {i z : Int32} {X : Int} (h : z = f (Int32.toNatClampNeg i)) (hf : lf_ea f F) (hi : lf_e i X) : lf_e z (F X.toNat) := by
  rw [← hf, ← hi]
  show z.toInt = (f _).toInt
  rw [h]
  rfl
theorem lf_st {f g : Nat → Int32} {F : Nat → Int} {i v : Int32} {X Y : Int} (h : upd f (Int32.toNatClampNeg i) v = g) (hf : lf_ea f F) (hi : lf_e i X) (hv : lf_e v Y) : lf_ea g (lf_up F X Y) := by
  rw [← hf, ← hi, ← hv, ← h]
  show lf_A _ = _
  funext k
  show (if k = Int32.toNatClampNeg i then v else f k).toInt = if k = Int32.toNatClampNeg i then v.toInt else (f k).toInt
  by_cases q : k = Int32.toNatClampNeg i
  · rw [if_pos q, if_pos q]
  · rw [if_neg q, if_neg q]
def lf_fill (f : Nat → Int32) (n : Nat) (x : Int32) : Nat → Int32 := fun k => if k < n then x else f k
theorem lf_fle {f g : Nat → Int32} {F : Nat → Int} {n : Nat} {x : Int32} {X : Int} (h : g = lf_fill f n x) (hf : lf_ea f F) (hv : lf_e x X) : lf_ea g (lf_fl F n X) := by
  rw [← hf, ← hv, h]
  show lf_A _ = _
  funext k
  show (if k < n then x else f k).toInt = if k < n then x.toInt else (f k).toInt
  by_cases q : k < n
  · rw [if_pos q, if_pos q]
  · rw [if_neg q, if_neg q]
theorem lf_fill_ia {f : Nat → Int32} {n : Nat} {x : Int32} {lo hi : Int} (hx : ib x lo hi) : ia (lf_fill f n x) n lo hi := by
  intro k hk
  show ib (if k < n then x else f k) lo hi
  rw [if_pos hk]
  exact hx
theorem lf_fill_s (f : Nat → Int32) (i : Nat) (x : Int32) : upd (lf_fill f i x) i x = lf_fill f (i + 1) x := by
  funext k
  show (if k = i then x else if k < i then x else f k) = if k < i + 1 then x else f k
  by_cases q : k = i
  · rw [if_pos q, if_pos (by omega)]
  · by_cases q2 : k < i
    · rw [if_neg q, if_pos q2, if_pos (by omega)]
    · rw [if_neg q, if_neg q2, if_neg (by omega)]
theorem lf_fill_0 (f : Nat → Int32) (x : Int32) : f = lf_fill f 0 x := by
  funext k
  show f k = if k < 0 then x else f k
  rw [if_neg (Nat.not_lt_zero k)]
/-- the byte of a text -/
def lf_ch (j : Nat) (X : Int) : Int := ((k_byt.getD j []).getD X.toNat 0).toInt
theorem lf_cha {j : Nat} {i z : Int32} {X : Int} (h : z = (k_byt.getD j []).getD (Int32.toNatClampNeg i) 0) (hi : lf_e i X) : lf_e z (lf_ch j X) := by
  rw [← hi]
  show z.toInt = _
  rw [h]
  rfl
def lf_eL (f : Nat → Int64) (F : Nat → Int) : Prop := lf_L f = F
theorem lf_uaL {f : Nat → Int64} {F : Nat → Int} (h : lf_eL f F) : lf_L f = F := h
theorem lf_raL (f : Nat → Int64) : lf_eL f (lf_L f) := rfl
theorem lf_pt {f : Nat → Int32} {F : Nat → Int} (h : lf_ea f F) (j : Nat) : lf_e (f j) (F j) := by rw [← h]; exact rfl
theorem lf_i2l {x : Int32} {X : Int} (h : lf_e x X) : lf_el x.toInt64 X := (Int32.toInt_toInt64 x).trans h
def lf_ol (op : Int64 → Int64 → Int64) (X Y : Int) : Int := (op (Int64.ofInt X) (Int64.ofInt Y)).toInt
def lf_ladd (x y : Int64) : Int64 := x + y
def lf_lsub (x y : Int64) : Int64 := x - y
def lf_lmul (x y : Int64) : Int64 := x * y
def lf_ldiv (x y : Int64) : Int64 := x / y
def lf_lrem (x y : Int64) : Int64 := x % y
theorem lf_opl (op : Int64 → Int64 → Int64) {x y z : Int64} {X Y : Int} (h : z = op x y) (hx : lf_el x X) (hy : lf_el y Y) : lf_el z (lf_ol op X Y) := by
  rw [← hx, ← hy]
  show z.toInt = (op (Int64.ofInt x.toInt) (Int64.ofInt y.toInt)).toInt
  rw [Int64.ofInt_toInt, Int64.ofInt_toInt, h]
def lf_l2i (X : Int) : Int := (Int64.toInt32 (Int64.ofInt X)).toInt
theorem lf_l2ie {x : Int64} {z : Int32} {X : Int} (h : z = x.toInt32) (hx : lf_el x X) : lf_e z (lf_l2i X) := by
  rw [← hx]
  show z.toInt = (Int64.toInt32 (Int64.ofInt x.toInt)).toInt
  rw [Int64.ofInt_toInt, h]
def lf_cmp (X Y : Int) : Int := if Y < X then 1 else if X = Y then 0 else -1
theorem lf_cmpe {x y : Int64} {z : Int32} {X Y : Int} (h : z = lg_cmp x y) (hx : lf_el x X) (hy : lf_el y Y) : lf_e z (lf_cmp X Y) := by
  rw [← hx, ← hy]
  show z.toInt = _
  rw [h]
  show (if y < x then (1 : Int32) else if x = y then 0 else -1).toInt = if y.toInt < x.toInt then 1 else if x.toInt = y.toInt then 0 else -1
  by_cases q : y < x
  · rw [if_pos q, if_pos (Int64.lt_iff_toInt_lt.mp q)]
    decide
  · rw [if_neg q, if_neg (mt Int64.lt_iff_toInt_lt.mpr q)]
    by_cases q2 : x = y
    · rw [if_pos q2, if_pos (by rw [q2])]
      decide
    · rw [if_neg q2, if_neg (mt Int64.toInt_inj.mp q2)]
      decide
theorem lf_ldl {f : Nat → Int64} {F : Nat → Int} {i : Int32} {z : Int64} {X : Int} (h : z = f (Int32.toNatClampNeg i)) (hf : lf_eL f F) (hi : lf_e i X) : lf_el z (F X.toNat) := by
  rw [← hf, ← hi]
  show z.toInt = (f _).toInt
  rw [h]
  rfl
theorem lf_stn {f g : Nat → Int32} {F : Nat → Int} {j : Nat} {v : Int32} {X Y : Int} (h : upd f j v = g) (hf : lf_ea f F) (hi : X.toNat = j) (hv : lf_e v Y) : lf_ea g (lf_up F X Y) := by
  rw [← hf, ← hv, ← h]
  show lf_A _ = _
  funext k
  show (if k = j then v else f k).toInt = if k = X.toNat then v.toInt else (f k).toInt
  rw [hi]
  by_cases q : k = j
  · rw [if_pos q, if_pos q]
  · rw [if_neg q, if_neg q]
theorem lf_stLn {f g : Nat → Int64} {F : Nat → Int} {j : Nat} {v : Int64} {X Y : Int} (h : vp_updL f j v = g) (hf : lf_eL f F) (hi : X.toNat = j) (hv : lf_el v Y) : lf_eL g (lf_up F X Y) := by
  rw [← hf, ← hv, ← h]
  show lf_L _ = _
  funext k
  show (if k = j then v else f k).toInt = if k = X.toNat then v.toInt else (f k).toInt
  rw [hi]
  by_cases q : k = j
  · rw [if_pos q, if_pos q]
  · rw [if_neg q, if_neg q]
theorem lf_stL {f g : Nat → Int64} {F : Nat → Int} {i : Int32} {v : Int64} {X Y : Int} (h : vp_updL f (Int32.toNatClampNeg i) v = g) (hf : lf_eL f F) (hi : lf_e i X) (hv : lf_el v Y) : lf_eL g (lf_up F X Y) := by
  rw [← hf, ← hi, ← hv, ← h]
  show lf_L _ = _
  funext k
  show (if k = Int32.toNatClampNeg i then v else f k).toInt = if k = Int32.toNatClampNeg i then v.toInt else (f k).toInt
  by_cases q : k = Int32.toNatClampNeg i
  · rw [if_pos q, if_pos q]
  · rw [if_neg q, if_neg q]
def lf_isin (V A B : Int) : Int := if A ≤ V ∧ V ≤ B then 1 else 0
/-- rows of truths; System.arraycopy -/
theorem lf_nb {f g : Nat → Int32} {j : Nat} {v : Int32} (h : upd f j (vp_nar .boolean v) = g) (hb : ib v 0 1) : upd f j v = g := by
  have e : vp_nar .boolean v = v := by
    unfold vp_nar
    rw [ib_bool hb]
  rw [← h, e]
def lf_cpy (F G : Nat → Int) (a b c : Int) : Nat → Int := fun k => if b.toNat ≤ k ∧ k < b.toNat + c.toNat then F (a.toNat + (k - b.toNat)) else G k
theorem lf_cpe {f g h : Nat → Int32} {F G : Nat → Int} {a b c : Int32} {A B C : Int} (e : va_cpy f g a.toNatClampNeg b.toNatClampNeg c.toNatClampNeg = h) (hf : lf_ea f F) (hg : lf_ea g G) (ha : lf_e a A) (hb : lf_e b B) (hc : lf_e c C) : lf_ea h (lf_cpy F G A B C) := by
  rw [← hf, ← hg, ← ha, ← hb, ← hc, ← e]
  show lf_A _ = _
  funext k
  show (if b.toNatClampNeg ≤ k ∧ k < b.toNatClampNeg + c.toNatClampNeg then f (a.toNatClampNeg + (k - b.toNatClampNeg)) else g k).toInt = if b.toNatClampNeg ≤ k ∧ k < b.toNatClampNeg + c.toNatClampNeg then (f (a.toNatClampNeg + (k - b.toNatClampNeg))).toInt else (g k).toInt
  split
  · rfl
  · rfl
