/-! the class's lexical methods: what their functions make of a text g, n bytes long, at a place p -/
theorem cl_so {g : Nat → Int} {n : Nat} {p : Int} (h : 0 ≤ p) : F_X5_sortOf g (n : Int) p = ((tx_so g n p.toNat : Nat) : Int) := by
  unfold F_X5_sortOf F_X5_sortOf_38 F_X5_sortOf_64 F_X5_sortOf_12 tx_so
  (repeat' split) <;> omega
theorem cl_so' {g : Nat → Int} {n p : Nat} : F_X5_sortOf g (n : Int) (p : Int) = ((tx_so g n p : Nat) : Int) := by
  rw [cl_so (by omega), Int.toNat_natCast]
theorem cl_mv5 {g : Nat → Int} {n : Nat} {p : Int} : ∀ (k a : Nat), a ≤ n → n - a < k → F_X5_moveTo_5 g (n : Int) p k (a : Int) = F_X5_moveTo_57 g (n : Int) p ((tx_run (tx_b g) n a : Nat) : Int) := by
  intro k
  induction k with
  | zero => intro a h1 h2; omega
  | succ k ih =>
    intro a h1 h2
    show F_X5_moveTo_5b g (n : Int) p (F_X5_moveTo_5 g (n : Int) p k) (a : Int) = _
    unfold F_X5_moveTo_5b F_X5_moveTo_44
    rw [Int.toNat_natCast]
    by_cases h3 : a < n
    · rw [if_neg (by omega)]
      by_cases h4 : g a = 10
      · rw [if_pos h4, show (a : Int) + (1 : Int) = ((a + 1 : Nat) : Int) from by omega, ih (a + 1) (by omega) (by omega), ← tx_run_step h3 (decide_eq_true (Or.inl h4))]
      · rw [if_neg h4]
        by_cases h5 : g a = 32
        · rw [if_pos h5, show (a : Int) + (1 : Int) = ((a + 1 : Nat) : Int) from by omega, ih (a + 1) (by omega) (by omega), ← tx_run_step h3 (decide_eq_true (Or.inr h5))]
        · rw [if_neg h5, tx_run_stop (fun q => (of_decide_eq_true q.2).elim h4 h5)]
    · rw [if_pos (by omega), tx_run_stop (fun q => h3 q.1)]
/-- the token's end, and what it is -/
def cl_end (g : Nat → Int) (n : Nat) (p : Int) (a b : Nat) : Int × Int × Int := F_X5_moveTo_133 g (n : Int) p (a : Int) (b : Int) ((tx_so g n a : Nat) : Int)
theorem cl_mv86 {g : Nat → Int} {n : Nat} {p : Int} {a : Nat} (ha : ¬ tx_so g n a = 3) : ∀ (k b : Nat), b ≤ n → n - b < k → F_X5_moveTo_86 g (n : Int) p k (a : Int) (b : Int) ((tx_so g n a : Nat) : Int) = cl_end g n p a (tx_run (tx_s g n (tx_so g n a)) n b) := by
  intro k
  induction k with
  | zero => intro b h1 h2; omega
  | succ k ih =>
    intro b h1 h2
    show F_X5_moveTo_86b g (n : Int) p (F_X5_moveTo_86 g (n : Int) p k) (a : Int) (b : Int) ((tx_so g n a : Nat) : Int) = _
    unfold F_X5_moveTo_86b
    repeat rw [lf_b_e]
    rw [cl_so']
    by_cases h3 : b < n
    · rw [if_neg (by omega), if_neg (by omega)]
      by_cases h4 : tx_so g n b = tx_so g n a
      · rw [if_pos (by omega), show (b : Int) + (1 : Int) = ((b + 1 : Nat) : Int) from by omega, ih (b + 1) (by omega) (by omega), ← tx_run_step h3 (decide_eq_true h4)]
      · rw [if_neg (by omega), tx_run_stop (fun q => h4 (of_decide_eq_true q.2))]
        rfl
    · rw [if_pos (by omega), tx_run_stop (fun q => h3 q.1)]
      rfl
theorem cl_mv86s {g : Nat → Int} {n : Nat} {p : Int} {a : Nat} (ha : tx_so g n a = 3) (k b : Nat) : F_X5_moveTo_86 g (n : Int) p (k + 1) (a : Int) (b : Int) ((tx_so g n a : Nat) : Int) = cl_end g n p a b := by
  show F_X5_moveTo_86b g (n : Int) p (F_X5_moveTo_86 g (n : Int) p k) (a : Int) (b : Int) ((tx_so g n a : Nat) : Int) = _
  unfold F_X5_moveTo_86b
  repeat rw [lf_b_e]
  by_cases h3 : b < n
  · rw [if_neg (by omega), if_pos (by omega)]
    rfl
  · rw [if_pos (by omega)]
    rfl
theorem cl_133 {g : Nat → Int} {n p a b : Nat} (h1 : tx_a g n p = a) (h2 : p ≤ a) (h3 : tx_e g n p = b) : cl_end g n (p : Int) a b = ((tx_a g n p : Int), (tx_e g n p : Int), (tx_k g n p : Int)) := by
  unfold cl_end F_X5_moveTo_133 F_X5_moveTo_162 F_X5_moveTo_167 F_X5_moveTo_188
  repeat rw [lf_b_e]
  rw [h1, h3]
  by_cases q1 : p < a
  · rw [if_pos (by omega), if_neg (by omega), tx_k_no h1 (fun q => by omega)]
  · have e : a = p := by omega
    rw [if_neg (by omega)]
    by_cases q2 : a = 0
    · rw [if_pos (by omega), if_neg (by omega), tx_k_no h1 (fun q => by omega)]
    · rw [if_neg (by omega), cl_so (by omega), show Int.toNat ((a : Int) - 1) = p - 1 from by omega]
      by_cases q3 : tx_so g n (p - 1) = 3
      · rw [if_pos (by omega), if_neg (by omega), tx_k_no h1 (fun q => q.2.2.1 q3)]
      · rw [if_neg (by omega), if_pos rfl]
        by_cases q4 : tx_so g n a = 1
        · rw [if_pos (by omega), tx_k_yes h1 e (by omega) q3 (Or.inl q4)]
          rfl
        · rw [if_neg (by omega)]
          by_cases q5 : tx_so g n a = 2
          · rw [if_pos (by omega), tx_k_yes h1 e (by omega) q3 (Or.inr q5)]
            rfl
          · rw [if_neg (by omega), tx_k_no h1 (fun q => by omega)]
/-- moveTo -/
theorem cl_mv {g : Nat → Int} {n p : Nat} (hn : n ≤ 1600) (hp : p ≤ n) : F_X5_moveTo g (n : Int) (p : Int) = ((tx_a g n p : Int), (tx_e g n p : Int), (tx_k g n p : Int)) := by
  unfold F_X5_moveTo
  rw [cl_mv5 1602 p hp (by omega)]
  unfold F_X5_moveTo_57
  repeat rw [lf_b_e]
  have ha : tx_run (tx_b g) n p = tx_a g n p := rfl
  have h1 := tx_a_le (f := g) hp
  have h2 := tx_a_ge g n p
  rw [ha, cl_so']
  by_cases q : tx_a g n p < n
  · rw [show min (((tx_a g n p : Nat) : Int) + (1 : Int)) (n : Int) = ((tx_a g n p + 1 : Nat) : Int) from by omega]
    by_cases q3 : tx_so g n (tx_a g n p) = 3
    · rw [cl_mv86s q3 1601]
      refine cl_133 rfl h2 ?_
      unfold tx_e
      rw [if_neg (by omega), if_pos q3]
    · rw [cl_mv86 q3 1602 _ (by omega) (by omega)]
      refine cl_133 rfl h2 ?_
      have q0 : ¬ tx_so g n (tx_a g n p) = 0 := fun r => by
        have := tx_so_0.mp r
        omega
      unfold tx_e
      rw [if_neg q0, if_neg q3]
  · have q0 : tx_so g n (tx_a g n p) = 0 := tx_so_0.mpr (by omega)
    rw [show min (((tx_a g n p : Nat) : Int) + (1 : Int)) (n : Int) = ((n : Nat) : Int) from by omega, cl_mv86 (by omega) 1602 n (Nat.le_refl n) (by omega), tx_run_stop (fun r => by omega)]
    refine cl_133 rfl h2 ?_
    unfold tx_e
    rw [if_pos q0]
