/-! the remainder of whole numbers of 64 bits, as the machine has it -/
theorem lf_lremt (x y : Int64) : x - x / y * y = lf_lrem x y := by
  have e63 : (2 : Int) ^ 63 = 9223372036854775808 := by decide
  apply Int64.toInt_inj.mp
  show (x - x / y * y).toInt = (x % y).toInt
  have h1 := Int64.toInt_lt x
  have h2 := Int64.le_toInt x
  rw [Int64.toInt_sub, Int64.toInt_mul, Int64.toInt_div, Int64.toInt_mod, Int.bmod_mul_bmod, Int.sub_bmod_bmod]
  have e : x.toInt - x.toInt.tdiv y.toInt * y.toInt = x.toInt.tmod y.toInt := by
    have := Int.tmod_add_tdiv_mul x.toInt y.toInt
    omega
  rw [e]
  have hb : (x.toInt.tmod y.toInt).natAbs ≤ x.toInt.natAbs := by
    rw [Int.natAbs_tmod]
    exact Nat.mod_le _ _
  have hs : x.toInt < 0 → x.toInt.tmod y.toInt ≤ 0 := by
    intro h
    have := Int.tmod_nonneg y.toInt (show 0 ≤ -x.toInt by omega)
    rw [Int.neg_tmod] at this
    omega
  generalize x.toInt.tmod y.toInt = q at hb hs ⊢
  exact Int.bmod_eq_of_le (by omega) (by omega)
