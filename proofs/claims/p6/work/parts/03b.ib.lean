/-! intervals: what is known of a number, and how it goes through the machine's arithmetic; all proofs by rows, no search over a long context -/
def ib (x : Int32) (lo hi : Int) : Prop := lo ≤ x.toInt ∧ x.toInt ≤ hi
def il (x : Int64) (lo hi : Int) : Prop := lo ≤ x.toInt ∧ x.toInt ≤ hi
/-- the values of a row, the first n of them -/
def ia (f : Nat → Int32) (n : Nat) (lo hi : Int) : Prop := ∀ k, k < n → ib (f k) lo hi
theorem ib_any (x : Int32) : ib x (-2147483648) 2147483647 := ⟨by have := Int32.le_toInt x; omega, by have := Int32.toInt_lt x; omega⟩
theorem ib_c (x : Int32) (lo hi : Int) (h : (decide (lo ≤ x.toInt) && decide (x.toInt ≤ hi)) = true) : ib x lo hi := by
  simp only [Bool.and_eq_true, decide_eq_true_eq] at h
  exact h
theorem ib_w {x : Int32} {a b : Int} (lo hi : Int) (h : ib x a b) (h1 : (decide (lo ≤ a) && decide (b ≤ hi)) = true) : ib x lo hi := by
  simp only [Bool.and_eq_true, decide_eq_true_eq] at h1
  exact ⟨Int.le_trans h1.1 h.1, Int.le_trans h.2 h1.2⟩
theorem ib_two {x : Int32} {a b c d : Int} (h : ib x a b) (h2 : ib x c d) : ib x (max a c) (min b d) := ⟨Int.max_le.mpr ⟨h.1, h2.1⟩, Int.le_min.mpr ⟨h.2, h2.2⟩⟩
theorem ib_add {x y : Int32} {a b c d : Int} (hx : ib x a b) (hy : ib y c d) (h : (decide (-2147483648 ≤ a + c) && decide (b + d ≤ 2147483647)) = true) : ib (x + y) (a + c) (b + d) ∧ (x + y).toInt = x.toInt + y.toInt := by
  simp only [Bool.and_eq_true, decide_eq_true_eq] at h
  obtain ⟨h1, h2⟩ := hx
  obtain ⟨h3, h4⟩ := hy
  have e : (x + y).toInt = x.toInt + y.toInt := by
    rw [Int32.toInt_add]
    exact Int.bmod_eq_of_le (by omega) (by omega)
  exact ⟨⟨by omega, by omega⟩, e⟩
theorem ib_sub {x y : Int32} {a b c d : Int} (hx : ib x a b) (hy : ib y c d) (h : (decide (-2147483648 ≤ a - d) && decide (b - c ≤ 2147483647)) = true) : ib (x - y) (a - d) (b - c) ∧ (x - y).toInt = x.toInt - y.toInt := by
  simp only [Bool.and_eq_true, decide_eq_true_eq] at h
  obtain ⟨h1, h2⟩ := hx
  obtain ⟨h3, h4⟩ := hy
  have e : (x - y).toInt = x.toInt - y.toInt := by
    rw [Int32.toInt_sub]
    exact Int.bmod_eq_of_le (by omega) (by omega)
  exact ⟨⟨by omega, by omega⟩, e⟩
/-- a product of numbers that aren't below 0 -/
theorem ib_mul {x y : Int32} {a b c d : Int} (hx : ib x a b) (hy : ib y c d) (h : (decide (0 ≤ a) && decide (0 ≤ c) && decide (b * d ≤ 2147483647)) = true) : ib (x * y) 0 (b * d) ∧ (x * y).toInt = x.toInt * y.toInt := by
  simp only [Bool.and_eq_true, decide_eq_true_eq] at h
  obtain ⟨h1, h2⟩ := hx
  obtain ⟨h3, h4⟩ := hy
  have p0 : 0 ≤ x.toInt := by omega
  have p1 : 0 ≤ y.toInt := by omega
  have q0 : 0 ≤ x.toInt * y.toInt := Int.mul_nonneg p0 p1
  have q1 : x.toInt * y.toInt ≤ b * d := Int.le_trans (Int.mul_le_mul_of_nonneg_right h2 p1) (Int.mul_le_mul_of_nonneg_left h4 (by omega))
  have e : (x * y).toInt = x.toInt * y.toInt := by
    rw [Int32.toInt_mul]
    exact Int.bmod_eq_of_le (by omega) (by omega)
  exact ⟨⟨by omega, by omega⟩, e⟩
theorem ib_in {x : Int32} {a b : Int} (n : Nat) (h : ib x a b) (h1 : (decide (0 ≤ a) && decide (b < n)) = true) : vp_in x n := by
  simp only [Bool.and_eq_true, decide_eq_true_eq] at h1
  rw [vp_in_iff]
  exact ⟨Int.le_trans h1.1 h.1, Int.lt_of_le_of_lt h.2 h1.2⟩
/-- what a branch tells -/
theorem ib_lt {x y : Int32} {a b c d : Int} (hx : ib x a b) (hy : ib y c d) (h : x < y) : ib x a (min b (d - 1)) ∧ ib y (max c (a + 1)) d := by
  rw [Int32.lt_iff_toInt_lt] at h
  obtain ⟨h1, h2⟩ := hx
  obtain ⟨h3, h4⟩ := hy
  exact ⟨⟨by omega, by omega⟩, ⟨by omega, by omega⟩⟩
theorem ib_nlt {x y : Int32} {a b c d : Int} (hx : ib x a b) (hy : ib y c d) (h : ¬ x < y) : ib x (max a c) b ∧ ib y c (min d b) := by
  rw [Int32.lt_iff_toInt_lt] at h
  obtain ⟨h1, h2⟩ := hx
  obtain ⟨h3, h4⟩ := hy
  exact ⟨⟨by omega, by omega⟩, ⟨by omega, by omega⟩⟩
theorem ib_le {x y : Int32} {a b c d : Int} (hx : ib x a b) (hy : ib y c d) (h : x ≤ y) : ib x a (min b d) ∧ ib y (max c a) d := by
  rw [Int32.le_iff_toInt_le] at h
  obtain ⟨h1, h2⟩ := hx
  obtain ⟨h3, h4⟩ := hy
  exact ⟨⟨by omega, by omega⟩, ⟨by omega, by omega⟩⟩
theorem ib_nle {x y : Int32} {a b c d : Int} (hx : ib x a b) (hy : ib y c d) (h : ¬ x ≤ y) : ib x (max a (c + 1)) b ∧ ib y c (min d (b - 1)) := by
  rw [Int32.le_iff_toInt_le] at h
  obtain ⟨h1, h2⟩ := hx
  obtain ⟨h3, h4⟩ := hy
  exact ⟨⟨by omega, by omega⟩, ⟨by omega, by omega⟩⟩
theorem ib_eq {x y : Int32} {a b c d : Int} (hx : ib x a b) (hy : ib y c d) (h : x = y) : ib x (max a c) (min b d) ∧ ib y (max a c) (min b d) := by
  subst h
  exact ⟨ib_two hx hy, ib_two hx hy⟩
/-- an empty interval: this way isn't gone -/
theorem ib_no {x : Int32} {a b : Int} {P : Prop} (h : ib x a b) (h1 : decide (b < a) = true) : P := by
  simp only [decide_eq_true_eq] at h1
  have := h.1
  have := h.2
  omega
/-- not equal to an end of its interval -/
theorem ib_ne_lo {x : Int32} {a b : Int} (c : Int32) (hx : ib x a b) (hc : decide (c.toInt = a) = true) (h : ¬ x = c) : ib x (a + 1) b := by
  simp only [decide_eq_true_eq] at hc
  have e : ¬ x.toInt = a := fun q => h (Int32.toInt_inj.mp (q.trans hc.symm))
  obtain ⟨h1, h2⟩ := hx
  exact ⟨by omega, h2⟩
theorem ib_ne_hi {x : Int32} {a b : Int} (c : Int32) (hx : ib x a b) (hc : decide (c.toInt = b) = true) (h : ¬ x = c) : ib x a (b - 1) := by
  simp only [decide_eq_true_eq] at hc
  have e : ¬ x.toInt = b := fun q => h (Int32.toInt_inj.mp (q.trans hc.symm))
  obtain ⟨h1, h2⟩ := hx
  exact ⟨h1, by omega⟩
/-- a mask of low bits -/
theorem ib_and {x m : Int32} (k : Nat) (hm : m.toBitVec.toNat = 2 ^ k - 1) (hk : k ≤ 30) (M : Int) (hM : decide (((2 ^ k - 1 : Nat) : Int) ≤ M) = true) : ib (x &&& m) 0 M := by
  simp only [decide_eq_true_eq] at hM
  obtain ⟨j, hj, e⟩ := pk_andE x k hm
  have hp : (2 : Nat) ^ k ≤ 2 ^ 30 := Nat.pow_le_pow_right (by decide) hk
  rw [e]
  have e2 : (nI j).toInt = (j : Int) := nI_toInt (by omega)
  constructor
  · omega
  · omega
/-- rows -/
theorem ia_at {f : Nat → Int32} {n : Nat} {lo hi : Int} (h : ia f n lo hi) {i : Int32} (hv : vp_in i n) : ib (f i.toNatClampNeg) lo hi := h _ (Nat.not_le.mp fun q => hv (Or.inr q))
theorem ia_upd {f : Nat → Int32} {n : Nat} {lo hi : Int} (h : ia f n lo hi) (i : Nat) {x : Int32} (hx : ib x lo hi) : ia (upd f i x) n lo hi := by
  intro k hk
  by_cases e : k = i
  · subst e; rw [pk_us]; exact hx
  · rw [pk_un e]; exact h k hk
theorem ia_0 (n : Nat) {lo hi : Int} (h : (decide (lo ≤ 0) && decide (0 ≤ hi)) = true) : ia (fun _ => 0) n lo hi := fun _ _ => ib_c 0 lo hi (by simpa using h)
theorem ia_any (f : Nat → Int32) (n : Nat) : ia f n (-2147483648) 2147483647 := fun k _ => ib_any (f k)
theorem ib_nz {x : Int32} {a b : Int} (h : ib x a b) (h1 : (decide (0 < a) || decide (b < 0)) = true) : ¬ x = 0 := by
  intro e
  subst e
  simp only [Bool.or_eq_true, decide_eq_true_eq] at h1
  have h2 := h.1
  have h3 := h.2
  have e0 : (0 : Int32).toInt = 0 := by decide
  omega
theorem ib_one {x c : Int32} {a b : Int} (h : ib x a b) (h1 : (decide (a = c.toInt) && decide (b = c.toInt)) = true) : x = c := by
  simp only [Bool.and_eq_true, decide_eq_true_eq] at h1
  have h2 := h.1
  have h3 := h.2
  exact Int32.toInt_inj.mp (by omega)
/-- a quotient, a rest, of numbers that aren't below 0, by one above 0 -/
theorem ib_nat {x : Int32} {a b : Int} (h : ib x a b) (h1 : 0 ≤ a) : ∃ n : Nat, n < 2 ^ 31 ∧ x = nI n ∧ (n : Int) ≤ b := by
  have h2 := h.1
  have h3 := h.2
  have e0 : (0 : Int32).toInt = 0 := by decide
  obtain ⟨n, hn, e⟩ := nI_of (x := x) (by rw [Int32.lt_iff_toInt_lt]; omega)
  refine ⟨n, hn, e, ?_⟩
  rw [e, nI_toInt hn] at h3
  exact h3
theorem ib_div {x y : Int32} {a b c d : Int} (hx : ib x a b) (hy : ib y c d) (h : (decide (0 ≤ a) && decide (0 < c)) = true) : ib (x / y) 0 (b / c) := by
  simp only [Bool.and_eq_true, decide_eq_true_eq] at h
  have hyl := hy.1
  obtain ⟨n, hn, ex, hb⟩ := ib_nat hx h.1
  obtain ⟨m, hm, ey, hd⟩ := ib_nat hy (by omega)
  rw [ey, nI_toInt hm] at hyl
  have h0 : 0 < m := by omega
  subst ex
  subst ey
  rw [pk_div hn h0 hm]
  have hq : n / m < 2 ^ 31 := Nat.lt_of_le_of_lt (Nat.div_le_self n m) hn
  refine ⟨by rw [nI_toInt hq]; exact Int.natCast_nonneg _, ?_⟩
  rw [nI_toInt hq]
  refine Int.le_ediv_of_mul_le (by omega) ?_
  have h5 : n / m * m ≤ n := Nat.div_mul_le_self n m
  have h6 : ((n / m : Nat) : Int) * c ≤ ((n / m : Nat) : Int) * (m : Int) := Int.mul_le_mul_of_nonneg_left hyl (Int.natCast_nonneg _)
  have h7 : ((n / m : Nat) : Int) * (m : Int) ≤ (n : Int) := by exact_mod_cast h5
  omega
theorem ib_rem {x y : Int32} {a b c d : Int} (hx : ib x a b) (hy : ib y c d) (h : (decide (0 ≤ a) && decide (0 < c)) = true) : ib (x - x / y * y) 0 (min b (d - 1)) := by
  simp only [Bool.and_eq_true, decide_eq_true_eq] at h
  have hyl := hy.1
  obtain ⟨n, hn, ex, hb⟩ := ib_nat hx h.1
  obtain ⟨m, hm, ey, hd⟩ := ib_nat hy (by omega)
  rw [ey, nI_toInt hm] at hyl
  have h0 : 0 < m := by omega
  subst ex
  subst ey
  rw [pk_rem hn h0 hm]
  have h1 : n % m < m := Nat.mod_lt n h0
  have h2 : n % m ≤ n := Nat.mod_le n m
  have hq : n % m < 2 ^ 31 := by omega
  refine ⟨by rw [nI_toInt hq]; omega, ?_⟩
  rw [nI_toInt hq]
  omega
theorem ib_01 {z : Int32} (h : ib z 0 1) : z = 0 ∨ z = 1 := by
  have h1 := h.1
  have h2 := h.2
  have e0 : (0 : Int32).toInt = 0 := by decide
  have e1 : (1 : Int32).toInt = 1 := by decide
  rcases (show z.toInt = 0 ∨ z.toInt = 1 by omega) with e | e
  · exact Or.inl (Int32.toInt_inj.mp (e.trans e0.symm))
  · exact Or.inr (Int32.toInt_inj.mp (e.trans e1.symm))
theorem ib_bool {z : Int32} (h : ib z 0 1) : narrow .boolean (.int z) = .int z := by
  rcases ib_01 h with rfl | rfl <;> decide
theorem ib_boolf {z : Int32} (h : ib z 0 1) : fits .boolean (.int z) = true := by
  rcases ib_01 h with rfl | rfl <;> decide
theorem ib_min {x y : Int32} {a b c d : Int} (hx : ib x a b) (hy : ib y c d) : ib (if y < x then y else x) (min a c) (min b d) := by
  obtain ⟨h1, h2⟩ := hx
  obtain ⟨h3, h4⟩ := hy
  split
  · rename_i h; rw [Int32.lt_iff_toInt_lt] at h; exact ⟨by omega, by omega⟩
  · rename_i h; rw [Int32.lt_iff_toInt_lt] at h; exact ⟨by omega, by omega⟩
theorem ib_max {x y : Int32} {a b c d : Int} (hx : ib x a b) (hy : ib y c d) : ib (if x < y then y else x) (max a c) (max b d) := by
  obtain ⟨h1, h2⟩ := hx
  obtain ⟨h3, h4⟩ := hy
  split
  · rename_i h; rw [Int32.lt_iff_toInt_lt] at h; exact ⟨by omega, by omega⟩
  · rename_i h; rw [Int32.lt_iff_toInt_lt] at h; exact ⟨by omega, by omega⟩
theorem ib_cmp (x y : Int64) : ib (lg_cmp x y) (-1) 1 := by
  unfold lg_cmp
  split
  · exact ib_c 1 (-1) 1 (by decide)
  · split
    · exact ib_c 0 (-1) 1 (by decide)
    · exact ib_c (-1) (-1) 1 (by decide)
theorem ib_nei {x : Int32} (c : Int32) (v : Int) (hc : decide (c.toInt = v) = true) (h : ¬ x = c) : ¬ x.toInt = v := by
  simp only [decide_eq_true_eq] at hc
  exact fun q => h (Int32.toInt_inj.mp (q.trans hc.symm))
theorem ib_nn {x : Int32} {a b : Int} (h : ib x a b) (h1 : decide (0 ≤ a) = true) : ¬ x < 0 := by
  simp only [decide_eq_true_eq] at h1
  rw [Int32.lt_iff_toInt_lt]
  have := h.1
  have e0 : (0 : Int32).toInt = 0 := by decide
  omega
theorem ib_two_le {x y : Int32} {a b c d : Int} (n : Nat) (hx : ib x a b) (hy : ib y c d) (h : (decide (0 ≤ a) && decide (0 ≤ c) && decide (b + d ≤ (n : Int))) = true) : x.toNatClampNeg + y.toNatClampNeg ≤ n := by
  simp only [Bool.and_eq_true, decide_eq_true_eq] at h
  have h1 := hx.1
  have h2 := hx.2
  have h3 := hy.1
  have h4 := hy.2
  show x.toInt.toNat + y.toInt.toNat ≤ n
  omega
theorem ib_dv {x : Int32} {a b : Int} (c : Int32) (hx : ib x a b) (h : decide (0 ≤ a) = true) (hc : decide (0 < c.toInt) = true) : c.toInt * (x / c).toInt ≤ x.toInt := by
  simp only [decide_eq_true_eq] at h hc
  obtain ⟨n, hn, ex, -⟩ := ib_nat hx h
  obtain ⟨m, hm, ey, -⟩ := ib_nat (x := c) (a := c.toInt) (b := c.toInt) ⟨Int.le_refl _, Int.le_refl _⟩ (by omega)
  subst ex
  subst ey
  rw [nI_toInt hm] at hc
  have hq : n / m < 2 ^ 31 := Nat.lt_of_le_of_lt (Nat.div_le_self n m) hn
  rw [pk_div hn (by omega) hm, nI_toInt hq, nI_toInt hn, nI_toInt hm]
  have := Nat.mul_div_le n m
  exact_mod_cast this
