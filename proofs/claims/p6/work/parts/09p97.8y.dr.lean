/-! what is drawn, on both sides -/
def dwS (s : Nat) : Nat := (1103515245 * s + 12345) % 2147483648
theorem oi64 {a : Nat} (h : a < 9223372036854775808) : (Int64.ofInt (a : Int)).toInt = (a : Int) := by
  have e : (2 : Int) ^ 63 = 9223372036854775808 := by decide
  exact Int64.toInt_ofInt_of_le (by omega) (by omega)
theorem ol_land {a : Nat} (h : a < 9223372036854775808) : lf_ol lf_land (a : Int) (2147483647 : Int) = ((a % 2147483648 : Nat) : Int) := by
  show (Int64.ofInt (a : Int) &&& Int64.ofInt (2147483647 : Int)).toInt = _
  have e : Int64.ofInt (a : Int) &&& Int64.ofInt (2147483647 : Int) = Int64.ofInt ((a &&& 2147483647 : Nat) : Int) := by
    rw [← Int64.toBitVec_inj]
    show BitVec.ofInt 64 (a : Int) &&& BitVec.ofInt 64 ((2147483647 : Nat) : Int) = BitVec.ofInt 64 ((a &&& 2147483647 : Nat) : Int)
    rw [BitVec.ofInt_natCast, BitVec.ofInt_natCast, BitVec.ofInt_natCast, BitVec.ofNat_and]
  have e2 : a &&& 2147483647 = a % 2147483648 := Nat.and_two_pow_sub_one_eq_mod a 31
  rw [e, e2, oi64 (by omega)]
theorem olr_n {a b : Nat} (h : a < 9223372036854775808) (hb : b < 9223372036854775808) : lf_ol lf_lrem (a : Int) (b : Int) = ((a % b : Nat) : Int) := by
  show (Int64.ofInt (a : Int) % Int64.ofInt (b : Int)).toInt = _
  rw [Int64.toInt_mod, oi64 h, oi64 hb]
  rfl
theorem old_n {a b : Nat} (h : a < 9223372036854775808) (hb : b < 9223372036854775808) : lf_ol lf_ldiv (a : Int) (b : Int) = ((a / b : Nat) : Int) := by
  have e63 : (2 : Int) ^ 63 = 9223372036854775808 := by decide
  show (Int64.ofInt (a : Int) / Int64.ofInt (b : Int)).toInt = _
  have h1 := Nat.div_le_self a b
  rw [Int64.toInt_div, oi64 h, oi64 hb]
  show Int.bmod ((a / b : Nat) : Int) (2 ^ 64) = ((a / b : Nat) : Int)
  generalize a / b = q at h1 ⊢
  exact Int.bmod_eq_of_le (by omega) (by omega)
theorem dw_a {s : Nat} (hs : s < 2147483648) : lf_ol lf_ladd (lf_ol lf_lmul (1103515245 : Int) (s : Int)) (12345 : Int) = ((1103515245 * s + 12345 : Nat) : Int) := by
  have e63 : (2 : Int) ^ 63 = 9223372036854775808 := by decide
  have em : lf_ol lf_lmul (1103515245 : Int) (s : Int) = ((1103515245 * s : Nat) : Int) := by
    show (Int64.ofInt ((1103515245 : Nat) : Int) * Int64.ofInt (s : Int)).toInt = _
    rw [Int64.toInt_mul, oi64 (by decide), oi64 (by omega)]
    show Int.bmod (((1103515245 : Nat) : Int) * (s : Int)) (2 ^ 64) = _
    rw [← Int.natCast_mul]
    exact Int.bmod_eq_of_le (by omega) (by omega)
  rw [em]
  show (Int64.ofInt ((1103515245 * s : Nat) : Int) + Int64.ofInt ((12345 : Nat) : Int)).toInt = _
  rw [Int64.toInt_add, oi64 (by omega), oi64 (by decide)]
  exact Int.bmod_eq_of_le (by omega) (by omega)
/-- the class's next number, the model's -/
theorem dw_x {s : Nat} (hs : s < 2147483648) : lf_ol lf_land (lf_ol lf_ladd (lf_ol lf_lmul (1103515245 : Int) (s : Int)) (12345 : Int)) (2147483647 : Int) = (dwS s : Int) := by
  rw [dw_a hs, ol_land (by omega)]
  rfl
theorem dw_m {s : Nat} (hs : s < 2147483648) : lf_ol lf_lrem (lf_ol lf_ladd (lf_ol lf_lmul (1103515245 : Int) (s : Int)) (12345 : Int)) (2147483648 : Int) = (dwS s : Int) := by
  rw [dw_a hs]
  exact olr_n (b := 2147483648) (by omega) (by decide)
theorem dw_l (s : Nat) : dwS s < 2147483648 := Nat.mod_lt _ (by decide)
theorem dw_v {s : Nat} (hs : s < 2147483648) : lf_ol lf_lrem (lf_ol lf_ldiv (s : Int) (64 : Int)) (100 : Int) = ((s / 64 % 100 : Nat) : Int) := by
  have e := old_n (a := s) (b := 64) (by omega) (by decide)
  have e' : lf_ol lf_ldiv (s : Int) (64 : Int) = ((s / 64 : Nat) : Int) := e
  rw [e']
  exact olr_n (b := 100) (by omega) (by decide)
theorem dw_2 {s : Nat} (hs : s < 2147483648) : F_X10_drawOf_a0_100 (s : Int) = (((dwS s / 64 % 100 : Nat) : Int), (dwS s : Int)) := by
  unfold F_X10_drawOf_a0_100
  rw [dw_m hs, dw_v (dw_l s), l2i_6 (by omega) (by omega)]
/-- who is away: the class's -/
def dwA (away : Int) (s0 : Nat) : Nat → Nat × (Nat → Bool)
  | 0 => (s0, fun _ => false)
  | k + 1 => (dwS (dwA away s0 k).1, fun w => (dwA away s0 k).2 w || (decide (w = k) && decide (((dwS (dwA away s0 k).1 / 64 % 100 : Nat) : Int) < away)))
theorem dwA_l {away : Int} {s0 : Nat} (h : s0 < 2147483648) : ∀ k, (dwA away s0 k).1 < 2147483648
  | 0 => h
  | k + 1 => dw_l _
theorem da_x {away : Int} {s0 nW : Nat} (hs : s0 < 2147483648) (hn : nW ≤ 12) : ∀ (f k : Nat) (l1 : Int), k ≤ nW → nW - k < f → rg l1 → (∀ w, w < 12 → bt l1 w = (dwA away s0 k).2 w) → ∃ A, F_X9_drawAbsent_4 away (nW : Int) f l1 (k : Int) ((dwA away s0 k).1 : Int) = (A, ((dwA away s0 nW).1 : Int)) ∧ rg A ∧ ∀ w, w < 12 → bt A w = (dwA away s0 nW).2 w := by
  intro f
  induction f with
  | zero => intro k l1 h1 h2; omega
  | succ f ih =>
    intro k l1 h1 h2 h3 h4
    have e0 : F_X9_drawAbsent_4 away (nW : Int) (f + 1) l1 (k : Int) ((dwA away s0 k).1 : Int) = F_X9_drawAbsent_4b away (nW : Int) (F_X9_drawAbsent_4 away (nW : Int) f) l1 (k : Int) ((dwA away s0 k).1 : Int) := rfl
    rw [e0]
    unfold F_X9_drawAbsent_4b F_X9_drawAbsent_65
    by_cases q : k = nW
    · rw [if_pos (by omega), q]
      rw [q] at h4
      exact ⟨l1, rfl, h3, h4⟩
    · have hl := dwA_l (away := away) hs k
      rw [if_neg (by omega), dw_x hl, dw_v (dw_l _)]
      have e1 : (dwA away s0 (k + 1)).1 = dwS (dwA away s0 k).1 := rfl
      have e2 : ∀ w, (dwA away s0 (k + 1)).2 w = ((dwA away s0 k).2 w || (decide (w = k) && decide (((dwS (dwA away s0 k).1 / 64 % 100 : Nat) : Int) < away))) := fun _ => rfl
      by_cases y : away ≤ ((dwS (dwA away s0 k).1 / 64 % 100 : Nat) : Int)
      · rw [if_pos (cmp_ge.mpr y)]
        have hx := ih (k + 1) l1 (by omega) (by omega) h3 (fun w hw => by
          rw [h4 w hw, e2, decide_eq_false (show ¬ ((dwS (dwA away s0 k).1 / 64 % 100 : Nat) : Int) < away from by omega), Bool.and_false, Bool.or_false])
        rw [e1] at hx
        exact hx
      · rw [if_neg (fun r => y (cmp_ge.mp r))]
        have ha := bt_add (w := k) h3 (by omega)
        have hx := ih (k + 1) _ (by omega) (by omega) ha.1 (fun w hw => by
          rw [ha.2, h4 w hw, e2, decide_eq_true (show ((dwS (dwA away s0 k).1 / 64 % 100 : Nat) : Int) < away from by omega), Bool.and_true]
          by_cases z : w = k
          · rw [z, decide_eq_true rfl]
          · rw [decide_eq_false z, decide_eq_false (fun r => z r.symm)])
        rw [e1] at hx
        exact hx
