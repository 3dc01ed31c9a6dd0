/-- the ring as its constructor leaves it -/
theorem rg_eq (q : Nat → Nat) : va_up (va_up (va_up (va_up (va_up (va_up (va_up (va_up (va_up (va_up (va_up (va_up (va_up (va_up (va_up (va_up (va_up (va_up (va_up (va_up (fun _ => none) 0 (some (q 0))) 1 (some (q 1))) 2 (some (q 2))) 3 (some (q 3))) 4 (some (q 4))) 5 (some (q 5))) 6 (some (q 6))) 7 (some (q 7))) 8 (some (q 8))) 9 (some (q 9))) 10 (some (q 10))) 11 (some (q 11))) 12 (some (q 12))) 13 (some (q 13))) 14 (some (q 14))) 15 (some (q 15))) 16 (some (q 16))) 17 (some (q 17))) 18 (some (q 18))) 19 (some (q 19)) = rg_f q := by
  funext k
  match k with
  | 0 => rfl
  | 1 => rfl
  | 2 => rfl
  | 3 => rfl
  | 4 => rfl
  | 5 => rfl
  | 6 => rfl
  | 7 => rfl
  | 8 => rfl
  | 9 => rfl
  | 10 => rfl
  | 11 => rfl
  | 12 => rfl
  | 13 => rfl
  | 14 => rfl
  | 15 => rfl
  | 16 => rfl
  | 17 => rfl
  | 18 => rfl
  | 19 => rfl
  | k + 20 =>
    have h : rg_f q (k + 20) = none := if_neg (by omega)
    rw [h]
    simp [va_up]
theorem mN_X6_init : k_mn yX6_init cX6_init 1 0 := ⟨wd68, wd22, wd69, rfl, by decide +kernel⟩
theorem mN_X4_init : k_mn yX4_init cX4_init 1 0 := ⟨wd56, wd17, wd57, rfl, by decide +kernel⟩
theorem mN_X3_init : k_mn yX3_init cX3_init 1 0 := ⟨wd83, wd30, wd84, rfl, by decide +kernel⟩
