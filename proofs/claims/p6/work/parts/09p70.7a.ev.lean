/-! what codes come to: one description of operators, and both sides' operators -/
def clp (v : Int) : Int := if 1000000 < v then 1000000 else if v < -1000000 then -1000000 else v
def fdv (a b : Int) : Int := if b = 0 then 0 else if decide (a < 0) = decide (b < 0) then a.tdiv b else if a.tdiv b * b = a then a.tdiv b else a.tdiv b - 1
def opV (c a b : Int) : Int := if c = 1 then clp (a + b) else if c = 2 then clp (a - b) else if c = 3 then clp (a * b) else if c = 4 then fdv a b else if c = 5 then (if a < b then a else b) else if c = 6 then (if b < a then a else b) else if c = 7 then (if a < b then 1 else 0) else if c = 8 then (if b < a then 1 else 0) else if c = 9 then (if a = b then 1 else 0) else if c = 10 then a * b else (if 0 < a + b then 1 else 0)
theorem clp_b (v : Int) : -1000000 ≤ clp v ∧ clp v ≤ 1000000 := by
  unfold clp
  by_cases c1 : 1000000 < v
  · rw [if_pos c1]
    decide
  · rw [if_neg c1]
    by_cases c2 : v < -1000000
    · rw [if_pos c2]
      decide
    · rw [if_neg c2]
      omega
theorem abs_tdiv {a b M : Int} (h1 : -M ≤ a) (h2 : a ≤ M) : -M ≤ a.tdiv b ∧ a.tdiv b ≤ M := by
  have h := Int.natAbs_tdiv_le_natAbs a b
  generalize a.tdiv b = q at h ⊢
  omega
theorem abs_tmul {a b M : Int} (h1 : -M ≤ a) (h2 : a ≤ M) : -M ≤ a.tdiv b * b ∧ a.tdiv b * b ≤ M := by
  have h : (a.tdiv b * b).natAbs ≤ a.natAbs := by
    rw [Int.natAbs_mul, Int.natAbs_tdiv]
    exact Nat.div_mul_le_self a.natAbs b.natAbs
  generalize a.tdiv b * b = q at h ⊢
  omega
theorem fdv_b {a b : Int} (h1 : -1000000 ≤ a) (h2 : a ≤ 1000000) : -1000000 ≤ fdv a b ∧ fdv a b ≤ 1000000 := by
  unfold fdv
  have h := abs_tdiv (b := b) h1 h2
  by_cases c0 : b = 0
  · rw [if_pos c0]
    decide
  · rw [if_neg c0]
    by_cases c1 : decide (a < 0) = decide (b < 0)
    · rw [if_pos c1]
      exact h
    · rw [if_neg c1]
      by_cases c2 : a.tdiv b * b = a
      · rw [if_pos c2]
        exact h
      · rw [if_neg c2]
        have hb : 2 ≤ b.natAbs := by
          rcases Nat.lt_or_ge b.natAbs 2 with q | q
          · exfalso
            apply c2
            have hb1 : b = 1 ∨ b = -1 := by omega
            rcases hb1 with r | r
            · rw [r, Int.tdiv_one, Int.mul_one]
            · rw [r, Int.tdiv_neg, Int.tdiv_one]
              omega
          · exact q
        have h4 : (a.tdiv b).natAbs ≤ a.natAbs / 2 := by
          rw [Int.natAbs_tdiv]
          exact Nat.div_le_div_left hb (by decide)
        generalize a.tdiv b = q at h h4 ⊢
        omega
/-- truths -/
def bo (b : Bool) (v : Int) : Prop := b = true → v = 0 ∨ v = 1
def in6 (v : Int) : Prop := -1000000 ≤ v ∧ v ≤ 1000000
theorem opV_b {c a b : Int} (ha : in6 a) (hb : in6 b) (h10 : c = 10 ∨ c = 11 → (a = 0 ∨ a = 1) ∧ (b = 0 ∨ b = 1)) (h1 : 1 ≤ c) (h11 : c ≤ 11) : in6 (opV c a b) ∧ (7 ≤ c → opV c a b = 0 ∨ opV c a b = 1) := by
  have two : ∀ (p : Prop) [Decidable p] , (if p then (1 : Int) else 0) = 0 ∨ (if p then (1 : Int) else 0) = 1 := by
    intro p inst
    by_cases q : p
    · rw [if_pos q]
      exact Or.inr rfl
    · rw [if_neg q]
      exact Or.inl rfl
  have tw : ∀ v : Int, v = 0 ∨ v = 1 → in6 v := by
    intro v h
    unfold in6
    omega
  unfold opV
  by_cases c1 : c = 1
  · rw [if_pos c1]
    exact ⟨clp_b _, fun r => by omega⟩
  rw [if_neg c1]
  by_cases c2 : c = 2
  · rw [if_pos c2]
    exact ⟨clp_b _, fun r => by omega⟩
  rw [if_neg c2]
  by_cases c3 : c = 3
  · rw [if_pos c3]
    exact ⟨clp_b _, fun r => by omega⟩
  rw [if_neg c3]
  by_cases c4 : c = 4
  · rw [if_pos c4]
    exact ⟨fdv_b ha.1 ha.2, fun r => by omega⟩
  rw [if_neg c4]
  by_cases c5 : c = 5
  · rw [if_pos c5]
    refine ⟨?_, fun r => by omega⟩
    by_cases q : a < b
    · rw [if_pos q]
      exact ha
    · rw [if_neg q]
      exact hb
  rw [if_neg c5]
  by_cases c6 : c = 6
  · rw [if_pos c6]
    refine ⟨?_, fun r => by omega⟩
    by_cases q : b < a
    · rw [if_pos q]
      exact ha
    · rw [if_neg q]
      exact hb
  rw [if_neg c6]
  by_cases c7 : c = 7
  · rw [if_pos c7]
    exact ⟨tw _ (two _), fun _ => two _⟩
  rw [if_neg c7]
  by_cases c8 : c = 8
  · rw [if_pos c8]
    exact ⟨tw _ (two _), fun _ => two _⟩
  rw [if_neg c8]
  by_cases c9 : c = 9
  · rw [if_pos c9]
    exact ⟨tw _ (two _), fun _ => two _⟩
  rw [if_neg c9]
  by_cases c10 : c = 10
  · rw [if_pos c10]
    have e : a * b = 0 ∨ a * b = 1 := by
      obtain ⟨x, y⟩ := h10 (Or.inl c10)
      rcases x with rfl | rfl
      · exact Or.inl (Int.zero_mul b)
      · rw [Int.one_mul]
        exact y
    exact ⟨tw _ e, fun _ => e⟩
  rw [if_neg c10]
  exact ⟨tw _ (two _), fun _ => two _⟩
theorem cmp_le {X Y : Int} : lf_cmp X Y ≤ 0 ↔ X ≤ Y := by
  unfold lf_cmp
  by_cases c1 : Y < X
  · rw [if_pos c1]
    omega
  · rw [if_neg c1]
    by_cases c2 : X = Y
    · rw [if_pos c2]
      omega
    · rw [if_neg c2]
      omega
theorem cmp_ge {X Y : Int} : 0 ≤ lf_cmp X Y ↔ Y ≤ X := by
  unfold lf_cmp
  by_cases c1 : Y < X
  · rw [if_pos c1]
    omega
  · rw [if_neg c1]
    by_cases c2 : X = Y
    · rw [if_pos c2]
      omega
    · rw [if_neg c2]
      omega
theorem cmp_eq {X Y : Int} : lf_cmp X Y = 0 ↔ X = Y := by
  unfold lf_cmp
  by_cases c1 : Y < X
  · rw [if_pos c1]
    omega
  · rw [if_neg c1]
    by_cases c2 : X = Y
    · rw [if_pos c2]
      omega
    · rw [if_neg c2]
      omega
theorem l2i_6 {v : Int} (h : -2000000000 ≤ v) (h2 : v ≤ 2000000000) : lf_l2i v = v := by
  have e : (2 : Int) ^ 63 = 9223372036854775808 := by decide
  show (Int64.toInt32 (Int64.ofInt v)).toInt = v
  rw [Int64.toInt_toInt32, Int64.toInt_ofInt_of_le (by omega) (by omega)]
  exact Int.bmod_eq_of_le (by omega) (by omega)
theorem within_x {v : Int} : F_X3_within v = clp v := by
  unfold F_X3_within clp
  by_cases c1 : 1000000 < v
  · rw [if_neg (fun r => by have := cmp_le.mp r; omega), if_pos c1]
  · rw [if_pos (cmp_le.mpr (by omega)), if_neg c1]
    by_cases c2 : v < -1000000
    · rw [if_neg (fun r => by have := cmp_ge.mp r; omega), if_pos c2]
    · rw [if_pos (cmp_ge.mpr (by omega)), if_neg c2, l2i_6 (by omega) (by omega)]
theorem clip_m {v : Int} : F_X10_qClip v = clp v := by
  unfold F_X10_qClip clp
  by_cases c1 : 1000000 < v
  · rw [if_neg (fun r => by have := cmp_le.mp r; omega), if_pos c1]
  · rw [if_pos (cmp_le.mpr (by omega)), if_neg c1]
    by_cases c2 : v < -1000000
    · rw [if_neg (fun r => by have := cmp_ge.mp r; omega), if_pos c2]
    · rw [if_pos (cmp_ge.mpr (by omega)), if_neg c2]
theorem ol_add {X Y : Int} (hx : in6 X) (hy : in6 Y) : lf_ol lf_ladd X Y = X + Y := by
  have h1 := hx.1
  have h2 := hx.2
  have h3 := hy.1
  have h4 := hy.2
  exact lol_add (by omega) (by omega) (by omega) (by omega)
theorem ol_sub {X Y : Int} (hx : in6 X) (hy : in6 Y) : lf_ol lf_lsub X Y = X - Y := by
  have h1 := hx.1
  have h2 := hx.2
  have h3 := hy.1
  have h4 := hy.2
  exact lol_sub (by omega) (by omega) (by omega) (by omega)
theorem mul_6 {X Y : Int} (hx : in6 X) (hy : in6 Y) : -1000000000000 ≤ X * Y ∧ X * Y ≤ 1000000000000 := by
  have h1 : X.natAbs ≤ 1000000 := by have := hx.1; have := hx.2; omega
  have h2 : Y.natAbs ≤ 1000000 := by have := hy.1; have := hy.2; omega
  have h : (X * Y).natAbs ≤ 1000000 * 1000000 := by
    rw [Int.natAbs_mul]
    exact Nat.mul_le_mul h1 h2
  generalize X * Y = q at h ⊢
  omega
theorem ol_mul {X Y : Int} (hx : in6 X) (hy : in6 Y) : lf_ol lf_lmul X Y = X * Y := by
  have e : (2 : Int) ^ 63 = 9223372036854775808 := by decide
  have h1 := hx.1
  have h2 := hx.2
  have h3 := hy.1
  have h4 := hy.2
  have h5 := mul_6 hx hy
  show (Int64.ofInt X * Int64.ofInt Y).toInt = X * Y
  rw [Int64.toInt_mul, Int64.toInt_ofInt_of_le (by omega) (by omega), Int64.toInt_ofInt_of_le (by omega) (by omega)]
  generalize X * Y = q at h5 ⊢
  exact Int.bmod_eq_of_le (by omega) (by omega)
theorem xor_sg (x y : Int32) : 0 ≤ x ^^^ y ↔ decide (x.toInt < 0) = decide (y.toInt < 0) := by
  rw [Int32.le_iff_toInt_le]
  have h1 : (x ^^^ y).toBitVec = x.toBitVec ^^^ y.toBitVec := rfl
  have h2 : (x ^^^ y).toBitVec.msb = (x.toBitVec.msb ^^ y.toBitVec.msb) := by rw [h1, BitVec.msb_xor]
  rw [BitVec.msb_eq_toInt, BitVec.msb_eq_toInt, BitVec.msb_eq_toInt] at h2
  have h3 : decide ((x ^^^ y).toInt < 0) = (decide (x.toInt < 0) ^^ decide (y.toInt < 0)) := h2
  have h0 : (0 : Int32).toInt = 0 := by decide
  rw [h0]
  constructor
  · intro h
    rw [decide_eq_false (by omega)] at h3
    cases e1 : decide (x.toInt < 0) <;> cases e2 : decide (y.toInt < 0)
    · rfl
    · rw [e1, e2] at h3
      exact Bool.noConfusion h3
    · rw [e1, e2] at h3
      exact Bool.noConfusion h3
    · rfl
  · intro h
    rw [h] at h3
    have h4 : decide ((x ^^^ y).toInt < 0) = false := by
      rw [h3]
      cases decide (y.toInt < 0) <;> rfl
    have := of_decide_eq_false h4
    omega
theorem fdv_x {a b : Int} (ha : in6 a) (hb : in6 b) (h0 : ¬ b = 0) : lf_o lf_fdv a b = fdv a b := by
  have e : (2 : Int) ^ 31 = 2147483648 := by decide
  have h1 := ha.1
  have h2 := ha.2
  have h3 := hb.1
  have h4 := hb.2
  show (lf_fdv (Int32.ofInt a) (Int32.ofInt b)).toInt = fdv a b
  have ex : (Int32.ofInt a).toInt = a := Int32.toInt_ofInt_of_le (by omega) (by omega)
  have ey : (Int32.ofInt b).toInt = b := Int32.toInt_ofInt_of_le (by omega) (by omega)
  generalize Int32.ofInt a = x at ex ⊢
  generalize Int32.ofInt b = y at ey ⊢
  have q1 := abs_tdiv (b := b) h1 h2
  have q2 := abs_tmul (b := b) h1 h2
  have e1 : (x / y).toInt = a.tdiv b := by
    rw [Int32.toInt_div, ex, ey]
    generalize a.tdiv b = q at q1 ⊢
    exact Int.bmod_eq_of_le (by omega) (by omega)
  have e2 : (x / y * y).toInt = a.tdiv b * b := by
    rw [Int32.toInt_mul, e1, ey]
    generalize a.tdiv b * b = q at q2 ⊢
    exact Int.bmod_eq_of_le (by omega) (by omega)
  have e3 : (x / y - 1).toInt = a.tdiv b - 1 := by
    rw [Int32.toInt_sub, e1, show (1 : Int32).toInt = 1 from by decide]
    generalize a.tdiv b = q at q1 ⊢
    exact Int.bmod_eq_of_le (by omega) (by omega)
  unfold lf_fdv fdv
  rw [if_neg h0]
  by_cases c1 : 0 ≤ x ^^^ y
  · have c1' := (xor_sg x y).mp c1
    rw [ex, ey] at c1'
    rw [if_pos c1, if_pos c1', e1]
  · have c1' : ¬ decide (a < 0) = decide (b < 0) := fun r => c1 ((xor_sg x y).mpr (by rw [ex, ey]; exact r))
    rw [if_neg c1, if_neg c1']
    by_cases c2 : x / y * y = x
    · have c2' : a.tdiv b * b = a := by rw [← e2, c2, ex]
      rw [if_pos c2, if_pos c2', e1]
    · have c2' : ¬ a.tdiv b * b = a := fun r => c2 (Int32.toInt_inj.mp (by rw [e2, ex]; exact r))
      rw [if_neg c2, if_neg c2', e3]
theorem op_x {c a b : Int} (ha : in6 a) (hb : in6 b) (h10 : c = 10 ∨ c = 11 → (a = 0 ∨ a = 1) ∧ (b = 0 ∨ b = 1)) (h1 : 1 ≤ c) (h11 : c ≤ 11) : F_X3_operate (-19 - c) a b = opV c a b := by
  have hor : c = 11 → lf_o lf_ior a b = if 0 < a + b then 1 else 0 := by
    intro hc
    obtain ⟨x, y⟩ := h10 (Or.inr hc)
    rcases x with rfl | rfl <;> rcases y with rfl | rfl <;> decide
  have hand : c = 10 → lf_o lf_iand a b = a * b := by
    intro hc
    obtain ⟨x, y⟩ := h10 (Or.inl hc)
    rcases x with rfl | rfl <;> rcases y with rfl | rfl <;> decide
  have f1 : (if a ≤ b then (0 : Int) else 1) = if b < a then 1 else 0 := by
    by_cases q : a ≤ b
    · rw [if_pos q, if_neg (by omega)]
    · rw [if_neg q, if_pos (by omega)]
  have f2 : (if b ≤ a then (0 : Int) else 1) = if a < b then 1 else 0 := by
    by_cases q : b ≤ a
    · rw [if_pos q, if_neg (by omega)]
    · rw [if_neg q, if_pos (by omega)]
  have f3 : (if a ≤ b then b else a) = if b < a then a else b := by
    by_cases q : a ≤ b
    · rw [if_pos q, if_neg (by omega)]
    · rw [if_neg q, if_pos (by omega)]
  have f4 : (if b ≤ a then b else a) = if a < b then a else b := by
    by_cases q : b ≤ a
    · rw [if_pos q, if_neg (by omega)]
    · rw [if_neg q, if_pos (by omega)]
  have hc : c = 1 ∨ c = 2 ∨ c = 3 ∨ c = 4 ∨ c = 5 ∨ c = 6 ∨ c = 7 ∨ c = 8 ∨ c = 9 ∨ c = 10 ∨ c = 11 := by omega
  rcases hc with r | r | r | r | r | r | r | r | r | r | r
  · have e1 : F_X3_operate (-19 - c) a b = (F_X3_within (lf_ol lf_ladd a b)) := by
      unfold F_X3_operate
      rw [if_neg (by omega), if_neg (by omega), if_neg (by omega), if_neg (by omega), if_neg (by omega), if_neg (by omega), if_neg (by omega), if_neg (by omega), if_neg (by omega), if_pos (by omega), lf_b_e]
    have e2 : opV c a b = (clp (a + b)) := by
      unfold opV
      rw [if_pos r]
    rw [e1, e2]
    rw [within_x, ol_add ha hb]
  · have e1 : F_X3_operate (-19 - c) a b = (F_X3_within (lf_ol lf_lsub a b)) := by
      unfold F_X3_operate
      rw [if_neg (by omega), if_neg (by omega), if_neg (by omega), if_neg (by omega), if_neg (by omega), if_neg (by omega), if_neg (by omega), if_neg (by omega), if_pos (by omega), lf_b_e]
    have e2 : opV c a b = (clp (a - b)) := by
      unfold opV
      rw [if_neg (by omega), if_pos r]
    rw [e1, e2]
    rw [within_x, ol_sub ha hb]
  · have e1 : F_X3_operate (-19 - c) a b = (F_X3_within (lf_ol lf_lmul a b)) := by
      unfold F_X3_operate
      rw [if_neg (by omega), if_neg (by omega), if_neg (by omega), if_neg (by omega), if_neg (by omega), if_neg (by omega), if_neg (by omega), if_pos (by omega), lf_b_e]
    have e2 : opV c a b = (clp (a * b)) := by
      unfold opV
      rw [if_neg (by omega), if_neg (by omega), if_pos r]
    rw [e1, e2]
    rw [within_x, ol_mul ha hb]
  · have e1 : F_X3_operate (-19 - c) a b = (if b = (0 : Int) then (0 : Int) else lf_o lf_fdv a b) := by
      unfold F_X3_operate
      rw [if_neg (by omega), if_neg (by omega), if_neg (by omega), if_neg (by omega), if_neg (by omega), if_neg (by omega), if_pos (by omega)]
    have e2 : opV c a b = (fdv a b) := by
      unfold opV
      rw [if_neg (by omega), if_neg (by omega), if_neg (by omega), if_pos r]
    rw [e1, e2]
    by_cases q : b = 0
    · rw [if_pos q]
      unfold fdv
      rw [if_pos q]
    · rw [if_neg q, fdv_x ha hb q]
  · have e1 : F_X3_operate (-19 - c) a b = (if b ≤ a then b else a) := by
      unfold F_X3_operate
      rw [if_neg (by omega), if_neg (by omega), if_neg (by omega), if_neg (by omega), if_neg (by omega), if_pos (by omega)]
    have e2 : opV c a b = (if a < b then a else b) := by
      unfold opV
      rw [if_neg (by omega), if_neg (by omega), if_neg (by omega), if_neg (by omega), if_pos r]
    rw [e1, e2]
    exact f4
  · have e1 : F_X3_operate (-19 - c) a b = (if a ≤ b then b else a) := by
      unfold F_X3_operate
      rw [if_neg (by omega), if_neg (by omega), if_neg (by omega), if_neg (by omega), if_pos (by omega)]
    have e2 : opV c a b = (if b < a then a else b) := by
      unfold opV
      rw [if_neg (by omega), if_neg (by omega), if_neg (by omega), if_neg (by omega), if_neg (by omega), if_pos r]
    rw [e1, e2]
    exact f3
  · have e1 : F_X3_operate (-19 - c) a b = (if b ≤ a then (0 : Int) else 1) := by
      unfold F_X3_operate
      rw [if_neg (by omega), if_neg (by omega), if_neg (by omega), if_pos (by omega)]
    have e2 : opV c a b = (if a < b then 1 else 0) := by
      unfold opV
      rw [if_neg (by omega), if_neg (by omega), if_neg (by omega), if_neg (by omega), if_neg (by omega), if_neg (by omega), if_pos r]
    rw [e1, e2]
    exact f2
  · have e1 : F_X3_operate (-19 - c) a b = (if a ≤ b then (0 : Int) else 1) := by
      unfold F_X3_operate
      rw [if_neg (by omega), if_neg (by omega), if_pos (by omega)]
    have e2 : opV c a b = (if b < a then 1 else 0) := by
      unfold opV
      rw [if_neg (by omega), if_neg (by omega), if_neg (by omega), if_neg (by omega), if_neg (by omega), if_neg (by omega), if_neg (by omega), if_pos r]
    rw [e1, e2]
    exact f1
  · have e1 : F_X3_operate (-19 - c) a b = (if a = b then (1 : Int) else 0) := by
      unfold F_X3_operate
      rw [if_neg (by omega), if_pos (by omega)]
    have e2 : opV c a b = (if a = b then 1 else 0) := by
      unfold opV
      rw [if_neg (by omega), if_neg (by omega), if_neg (by omega), if_neg (by omega), if_neg (by omega), if_neg (by omega), if_neg (by omega), if_neg (by omega), if_pos r]
    rw [e1, e2]
  · have e1 : F_X3_operate (-19 - c) a b = (lf_o lf_iand a b) := by
      unfold F_X3_operate
      rw [if_pos (by omega)]
    have e2 : opV c a b = (a * b) := by
      unfold opV
      rw [if_neg (by omega), if_neg (by omega), if_neg (by omega), if_neg (by omega), if_neg (by omega), if_neg (by omega), if_neg (by omega), if_neg (by omega), if_neg (by omega), if_pos r]
    rw [e1, e2]
    exact hand r
  · have e1 : F_X3_operate (-19 - c) a b = (lf_o lf_ior a b) := by
      unfold F_X3_operate
      rw [if_neg (by omega), if_neg (by omega), if_neg (by omega), if_neg (by omega), if_neg (by omega), if_neg (by omega), if_neg (by omega), if_neg (by omega), if_neg (by omega), if_neg (by omega)]
    have e2 : opV c a b = (if 0 < a + b then 1 else 0) := by
      unfold opV
      rw [if_neg (by omega), if_neg (by omega), if_neg (by omega), if_neg (by omega), if_neg (by omega), if_neg (by omega), if_neg (by omega), if_neg (by omega), if_neg (by omega), if_neg (by omega)]
    rw [e1, e2]
    exact hor r
