/-! bits of whole numbers -/
def bt (X : Int) (w : Nat) : Bool := X.toNat.testBit w
def rg (X : Int) : Prop := 0 ≤ X ∧ X < 4096
theorem bt_n (a w : Nat) : bt (a : Int) w = a.testBit w := rfl
theorem rg_n {X : Int} (h : rg X) : ∃ a : Nat, X = (a : Int) ∧ a < 4096 := by
  obtain ⟨a, ha⟩ := Int.eq_ofNat_of_zero_le h.1
  exact ⟨a, ha, by have := h.2; omega⟩
theorem lo_and {a b : Nat} (ha : a < 2147483648) : lf_o lf_iand (a : Int) (b : Int) = ((a &&& b : Nat) : Int) := by
  have e31 : (2 : Nat) ^ 31 = 2147483648 := by decide
  show (Int32.ofInt (a : Int) &&& Int32.ofInt (b : Int)).toInt = _
  have e : Int32.ofInt (a : Int) &&& Int32.ofInt (b : Int) = Int32.ofNat (a &&& b) := by
    rw [← Int32.toBitVec_inj]
    show BitVec.ofInt 32 (a : Int) &&& BitVec.ofInt 32 (b : Int) = BitVec.ofNat 32 (a &&& b)
    rw [BitVec.ofInt_natCast, BitVec.ofInt_natCast, BitVec.ofNat_and]
  rw [e]
  have := @Nat.and_le_left a b
  exact Int32.toInt_ofNat_of_lt (by omega)
theorem lo_or {a b : Nat} (ha : a < 2147483648) (hb : b < 2147483648) : lf_o lf_ior (a : Int) (b : Int) = ((a ||| b : Nat) : Int) := by
  have e31 : (2 : Nat) ^ 31 = 2147483648 := by decide
  show (Int32.ofInt (a : Int) ||| Int32.ofInt (b : Int)).toInt = _
  have e : Int32.ofInt (a : Int) ||| Int32.ofInt (b : Int) = Int32.ofNat (a ||| b) := by
    rw [← Int32.toBitVec_inj]
    show BitVec.ofInt 32 (a : Int) ||| BitVec.ofInt 32 (b : Int) = BitVec.ofNat 32 (a ||| b)
    rw [BitVec.ofInt_natCast, BitVec.ofInt_natCast, BitVec.ofNat_or]
  rw [e]
  have : a ||| b < 2 ^ 31 := Nat.or_lt_two_pow (by omega) (by omega)
  exact Int32.toInt_ofNat_of_lt (by omega)
theorem lo_andn {a b : Nat} (ha : a < 2147483648) : lf_o lf_iand (a : Int) (lf_o lf_ixor (b : Int) (-1)) = ((a &&& (b ^^^ 4294967295) : Nat) : Int) := by
  have e31 : (2 : Nat) ^ 31 = 2147483648 := by decide
  show (Int32.ofInt (a : Int) &&& Int32.ofInt ((Int32.ofInt (b : Int) ^^^ Int32.ofInt (-1)).toInt)).toInt = _
  rw [Int32.ofInt_toInt]
  have e : Int32.ofInt (a : Int) &&& (Int32.ofInt (b : Int) ^^^ Int32.ofInt (-1)) = Int32.ofNat (a &&& (b ^^^ 4294967295)) := by
    rw [← Int32.toBitVec_inj]
    show BitVec.ofInt 32 (a : Int) &&& (BitVec.ofInt 32 (b : Int) ^^^ BitVec.ofInt 32 (-1)) = BitVec.ofNat 32 (a &&& (b ^^^ 4294967295))
    rw [BitVec.ofInt_natCast, BitVec.ofInt_natCast, BitVec.ofNat_and, BitVec.ofNat_xor, show BitVec.ofInt 32 (-1) = BitVec.ofNat 32 4294967295 from by decide]
  rw [e]
  have := @Nat.and_le_left a (b ^^^ 4294967295)
  exact Int32.toInt_ofNat_of_lt (by omega)
theorem rg_and {X Y : Int} (hx : rg X) (hy : rg Y) : rg (lf_o lf_iand X Y) ∧ ∀ w, bt (lf_o lf_iand X Y) w = (bt X w && bt Y w) := by
  obtain ⟨a, rfl, ha⟩ := rg_n hx
  obtain ⟨b, rfl, hb⟩ := rg_n hy
  rw [lo_and (by omega)]
  have := @Nat.and_le_left a b
  exact ⟨⟨by omega, by omega⟩, fun w => Nat.testBit_and a b w⟩
theorem rg_or {X Y : Int} (hx : rg X) (hy : rg Y) : rg (lf_o lf_ior X Y) ∧ ∀ w, bt (lf_o lf_ior X Y) w = (bt X w || bt Y w) := by
  obtain ⟨a, rfl, ha⟩ := rg_n hx
  obtain ⟨b, rfl, hb⟩ := rg_n hy
  rw [lo_or (by omega) (by omega)]
  have : a ||| b < 2 ^ 12 := Nat.or_lt_two_pow (by omega) (by omega)
  exact ⟨⟨by omega, by omega⟩, fun w => Nat.testBit_or a b w⟩
theorem rg_andn {X Y : Int} (hx : rg X) (hy : rg Y) : rg (lf_o lf_iand X (lf_o lf_ixor Y (-1))) ∧ ∀ w, bt (lf_o lf_iand X (lf_o lf_ixor Y (-1))) w = (bt X w && !bt Y w) := by
  obtain ⟨a, rfl, ha⟩ := rg_n hx
  obtain ⟨b, rfl, hb⟩ := rg_n hy
  rw [lo_andn (by omega)]
  have := @Nat.and_le_left a (b ^^^ 4294967295)
  refine ⟨⟨by omega, by omega⟩, fun w => ?_⟩
  show (a &&& (b ^^^ 4294967295)).testBit w = (a.testBit w && !b.testBit w)
  rw [Nat.testBit_and, Nat.testBit_xor, show (4294967295 : Nat) = 2 ^ 32 - 1 from by decide, Nat.testBit_two_pow_sub_one]
  by_cases q : w < 32
  · rw [decide_eq_true q]
    cases a.testBit w <;> cases b.testBit w <;> rfl
  · have hw : a.testBit w = false := Nat.testBit_lt_two_pow (Nat.lt_of_lt_of_le (by omega : a < 2 ^ 32) (Nat.pow_le_pow_right (by decide) (by omega)))
    rw [hw]
    rfl
theorem rg_0 : rg 0 := ⟨by decide, by decide⟩
theorem bt_0 (w : Nat) : bt 0 w = false := Nat.zero_testBit w
theorem bt_hi {X : Int} (h : rg X) {w : Nat} (hw : 12 ≤ w) : bt X w = false := by
  obtain ⟨a, rfl, ha⟩ := rg_n h
  exact Nat.testBit_lt_two_pow (Nat.lt_of_lt_of_le (by omega : a < 2 ^ 12) (Nat.pow_le_pow_right (by decide) hw))
theorem bt_ext {X Y : Int} (hx : rg X) (hy : rg Y) (h : ∀ w, w < 12 → bt X w = bt Y w) : X = Y := by
  have h2 : ∀ w, bt X w = bt Y w := by
    intro w
    rcases Nat.lt_or_ge w 12 with q | q
    · exact h w q
    · rw [bt_hi hx q, bt_hi hy q]
  obtain ⟨a, rfl, ha⟩ := rg_n hx
  obtain ⟨b, rfl, hb⟩ := rg_n hy
  rw [Nat.eq_of_testBit_eq (x := a) (y := b) h2]
theorem bt_z {X : Int} (hx : rg X) : X = 0 ↔ ∀ w, w < 12 → bt X w = false := by
  constructor
  · intro h w _
    rw [h]
    exact bt_0 w
  · intro h
    exact bt_ext hx rg_0 (fun w hw => by rw [h w hw, bt_0])
def shB : Bool := (List.range 13).all (fun w => decide (lf_o lf_ishl 1 (w : Int) = ((2 ^ w : Nat) : Int)))
theorem lo_shl1 {w : Nat} (h : w < 13) : lf_o lf_ishl 1 (w : Int) = ((2 ^ w : Nat) : Int) := of_decide_eq_true (List.all_eq_true.mp (show shB = true from by decide +kernel) w (List.mem_range.mpr h))
theorem p12 {w : Nat} (h : w < 12) : 2 ^ w < 4096 := Nat.lt_of_lt_of_le (Nat.pow_lt_pow_right (by decide) h) (by decide : 2 ^ 12 ≤ 4096)
theorem rg_sh {w : Nat} (h : w < 12) : rg (lf_o lf_ishl 1 (w : Int)) ∧ ∀ v, bt (lf_o lf_ishl 1 (w : Int)) v = decide (w = v) := by
  rw [lo_shl1 (by omega)]
  have := p12 h
  exact ⟨⟨Int.natCast_nonneg _, Int.ofNat_lt.mpr this⟩, fun v => Nat.testBit_two_pow⟩
/-- is the bit there? -/
theorem bt_at {X : Int} (hx : rg X) {w : Nat} (h : w < 12) : lf_o lf_iand X (lf_o lf_ishl 1 (w : Int)) = 0 ↔ bt X w = false := by
  have h1 := rg_and hx (rg_sh h).1
  rw [bt_z h1.1]
  constructor
  · intro q
    have := q w h
    rw [h1.2, (rg_sh h).2, decide_eq_true rfl, Bool.and_true] at this
    exact this
  · intro q v hv
    rw [h1.2, (rg_sh h).2]
    by_cases e : w = v
    · rw [← e, q]
      rfl
    · rw [decide_eq_false e, Bool.and_false]
def smB : Bool := (List.range 31).all (fun n => decide (((Int32.ofInt (n : Int) &&& 31).toBitVec.smod 32).toNat = n))
theorem lo_shr {X : Int} {n : Nat} (h1 : 0 ≤ X) (h2 : X < 2147483648) (hn : n < 31) : lf_o lf_ishr X (n : Int) = ((X.toNat / 2 ^ n : Nat) : Int) := by
  have e31 : (2 : Int) ^ 31 = 2147483648 := by decide
  have hs : ((Int32.ofInt (n : Int) &&& 31).toBitVec.smod 32).toNat = n := of_decide_eq_true (List.all_eq_true.mp (show smB = true from by decide +kernel) n (List.mem_range.mpr hn))
  obtain ⟨a, rfl⟩ := Int.eq_ofNat_of_zero_le h1
  show ((Int32.ofInt (a : Int)).toBitVec.sshiftRight' ((Int32.ofInt (n : Int) &&& 31).toBitVec.smod 32)).toInt = _
  rw [BitVec.toInt_sshiftRight', hs]
  have e : (Int32.ofInt (a : Int)).toBitVec.toInt = (a : Int) := Int32.toInt_ofInt_of_le (by omega) (by omega)
  rw [e, Int.shiftRight_eq_div_pow]
  show (a : Int) / ((2 ^ n : Nat) : Int) = ((a / 2 ^ n : Nat) : Int)
  rw [Int.natCast_ediv]
theorem bt_bit {X : Int} {w : Nat} (h1 : 0 ≤ X) (h2 : X < 2147483648) (hw : w < 31) : lf_o lf_iand (lf_o lf_ishr X (w : Int)) 1 = b2 (bt X w) := by
  rw [lo_shr h1 h2 hw]
  have hle : X.toNat / 2 ^ w ≤ X.toNat := Nat.div_le_self _ _
  rw [show (1 : Int) = ((1 : Nat) : Int) from rfl, lo_and (by omega), Nat.and_one_is_mod]
  unfold bt
  rw [Nat.testBit_eq_decide_div_mod_eq]
  rcases Nat.mod_two_eq_zero_or_one (X.toNat / 2 ^ w) with q | q
  · rw [q]
    rfl
  · rw [q]
    rfl
theorem bt_bit2 {X : Int} {w : Nat} (h1 : 0 ≤ X) (h2 : X < 2147483648) (hw : w < 31) : lf_o lf_iand (lf_o lf_ishr X (w : Int)) 2 = if bt X (w + 1) = true then 2 else 0 := by
  rw [lo_shr h1 h2 hw]
  have hle : X.toNat / 2 ^ w ≤ X.toNat := Nat.div_le_self _ _
  rw [show (2 : Int) = ((2 ^ 1 : Nat) : Int) from rfl, lo_and (by omega)]
  have e : (X.toNat / 2 ^ w) &&& 2 ^ 1 = if bt X (w + 1) = true then 2 else 0 := by
    apply Nat.eq_of_testBit_eq
    intro i
    rw [Nat.testBit_and, Nat.testBit_two_pow]
    have e2 : (X.toNat / 2 ^ w).testBit 1 = bt X (w + 1) := by
      unfold bt
      rw [Nat.testBit_eq_decide_div_mod_eq, Nat.testBit_eq_decide_div_mod_eq, Nat.div_div_eq_div_mul, ← Nat.pow_add]
    by_cases q : 1 = i
    · rw [← q, e2, decide_eq_true rfl, Bool.and_true]
      cases bt X (w + 1) <;> rfl
    · rw [decide_eq_false q, Bool.and_false]
      cases bt X (w + 1)
      · rw [if_neg (fun r => Bool.noConfusion r), Nat.zero_testBit]
      · rw [if_pos rfl, show (2 : Nat) = 2 ^ 1 from rfl, Nat.testBit_two_pow, decide_eq_false q]
  rw [e]
  cases bt X (w + 1) <;> rfl
/-- all walkers -/
theorem rg_all {n : Nat} (h : n ≤ 12) : rg (F_X4_everyone (n : Int)) ∧ ∀ w, bt (F_X4_everyone (n : Int)) w = decide (w < n) := by
  unfold F_X4_everyone
  have h2 : 2 ^ n ≤ 4096 := Nat.le_trans (Nat.pow_le_pow_right (by decide) h) (by decide : 2 ^ 12 ≤ 4096)
  have h1 : 1 ≤ 2 ^ n := Nat.one_le_two_pow
  have e : lf_o lf_isub (lf_o lf_ishl (1 : Int) (n : Int)) (1 : Int) = ((2 ^ n - 1 : Nat) : Int) := by
    rw [lo_shl1 (by omega), lo_sub (by omega) (by omega) (by omega) (by omega) (by omega) (by omega)]
    omega
  rw [e]
  exact ⟨⟨by omega, by omega⟩, fun w => Nat.testBit_two_pow_sub_one n w⟩
/-- how many bits -/
def pcn (X : Int) : Nat → Int
  | 0 => 0
  | k + 1 => pcn X k + b2 (bt X k)
def bcB : Bool := (List.range 4096).all (fun x => decide (F_J6_bitCount_0f7a4 (x : Int) = pcn (x : Int) 12))
theorem bc_x {X : Int} (h : rg X) : F_J6_bitCount_0f7a4 X = pcn X 12 := by
  obtain ⟨a, rfl, ha⟩ := rg_n h
  exact of_decide_eq_true (List.all_eq_true.mp (show bcB = true from by decide +kernel) a (List.mem_range.mpr ha))
theorem lo_rem {X Y : Int} (h1 : 0 ≤ X) (h2 : X ≤ 1000000) (h3 : 1 ≤ Y) (h4 : Y ≤ 1000000) : lf_o lf_irem X Y = X % Y := by
  have e : (2 : Int) ^ 31 = 2147483648 := by decide
  show (Int32.ofInt X - Int32.ofInt X / Int32.ofInt Y * Int32.ofInt Y).toInt = X % Y
  have ex : (Int32.ofInt X).toInt = X := Int32.toInt_ofInt_of_le (by omega) (by omega)
  have ey : (Int32.ofInt Y).toInt = Y := Int32.toInt_ofInt_of_le (by omega) (by omega)
  have q0 : 0 ≤ X / Y := Int.ediv_nonneg h1 (by omega)
  have q1 : X / Y ≤ X := Int.ediv_le_self Y h1
  have q2 : X / Y * Y ≤ X := Int.ediv_mul_le X (by omega)
  have q3 : 0 ≤ X / Y * Y := Int.mul_nonneg q0 (by omega)
  have e1 : (Int32.ofInt X / Int32.ofInt Y).toInt = X / Y := by
    rw [Int32.toInt_div, ex, ey, Int.tdiv_eq_ediv_of_nonneg h1]
    generalize X / Y = q at q0 q1 ⊢
    exact Int.bmod_eq_of_le (by omega) (by omega)
  have e2 : (Int32.ofInt X / Int32.ofInt Y * Int32.ofInt Y).toInt = X / Y * Y := by
    rw [Int32.toInt_mul, e1, ey]
    generalize X / Y * Y = q at q2 q3 ⊢
    exact Int.bmod_eq_of_le (by omega) (by omega)
  rw [Int32.toInt_sub, ex, e2]
  have e3 : X - X / Y * Y = X % Y := by
    have := Int.emod_add_ediv_mul X Y
    omega
  rw [e3]
  have r0 : 0 ≤ X % Y := Int.emod_nonneg X (by omega)
  have r1 : X % Y < Y := Int.emod_lt_of_pos X (by omega)
  generalize X % Y = q at r0 r1 ⊢
  exact Int.bmod_eq_of_le (by omega) (by omega)
