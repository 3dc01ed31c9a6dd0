/-! a text: bytes f, n of them; places are natural numbers. A run: how far a property holds -/
def tx_rf (P : Nat → Bool) (n : Nat) : Nat → Nat → Nat
  | 0, i => i
  | k + 1, i => if i < n ∧ P i = true then tx_rf P n k (i + 1) else i
def tx_run (P : Nat → Bool) (n i : Nat) : Nat := tx_rf P n (n - i) i
theorem tx_run_step {P : Nat → Bool} {n i : Nat} (h : i < n) (hp : P i = true) : tx_run P n i = tx_run P n (i + 1) := by
  unfold tx_run
  have e : n - i = (n - (i + 1)) + 1 := by omega
  rw [e]
  show (if i < n ∧ P i = true then tx_rf P n (n - (i + 1)) (i + 1) else i) = _
  rw [if_pos ⟨h, hp⟩]
theorem tx_run_stop {P : Nat → Bool} {n i : Nat} (h : ¬ (i < n ∧ P i = true)) : tx_run P n i = i := by
  unfold tx_run
  cases n - i with
  | zero => rfl
  | succ k =>
    show (if i < n ∧ P i = true then tx_rf P n k (i + 1) else i) = i
    rw [if_neg h]
theorem tx_run_all (P : Nat → Bool) (n : Nat) : ∀ (d i : Nat), n - i = d → i ≤ tx_run P n i ∧ (i ≤ n → tx_run P n i ≤ n) ∧ (¬ (tx_run P n i < n ∧ P (tx_run P n i) = true)) ∧ ∀ k, i ≤ k → k < tx_run P n i → P k = true := by
  intro d
  induction d with
  | zero =>
    intro i hd
    rw [tx_run_stop (fun h => absurd h.1 (by omega))]
    exact ⟨Nat.le_refl _, id, fun h => absurd h.1 (by omega), fun k h1 h2 => absurd h2 (by omega)⟩
  | succ d ih =>
    intro i hd
    by_cases h : i < n ∧ P i = true
    · rw [tx_run_step h.1 h.2]
      obtain ⟨a, b, c, e⟩ := ih (i + 1) (by omega)
      refine ⟨by omega, fun _ => b (by omega), c, fun k h1 h2 => ?_⟩
      by_cases hk : k = i
      · rw [hk]
        exact h.2
      · exact e k (by omega) h2
    · rw [tx_run_stop h]
      exact ⟨Nat.le_refl _, id, h, fun k h1 h2 => absurd h2 (by omega)⟩
theorem tx_run_ge (P : Nat → Bool) (n i : Nat) : i ≤ tx_run P n i := (tx_run_all P n _ i rfl).1
theorem tx_run_le {P : Nat → Bool} {n i : Nat} (h : i ≤ n) : tx_run P n i ≤ n := (tx_run_all P n _ i rfl).2.1 h
theorem tx_run_end (P : Nat → Bool) (n i : Nat) : ¬ (tx_run P n i < n ∧ P (tx_run P n i) = true) := (tx_run_all P n _ i rfl).2.2.1
theorem tx_run_in {P : Nat → Bool} {n i k : Nat} (h1 : i ≤ k) (h2 : k < tx_run P n i) : P k = true := (tx_run_all P n _ i rfl).2.2.2 k h1 h2
theorem tx_run_idem (P : Nat → Bool) (n i : Nat) : tx_run P n (tx_run P n i) = tx_run P n i := tx_run_stop (tx_run_end P n i)
/-- blanks; what stands at a place: 0 nothing, 1 a letter, 2 a digit, 3 else -/
def tx_b (f : Nat → Int) (i : Nat) : Bool := decide (f i = 10 ∨ f i = 32)
def tx_so (f : Nat → Int) (n i : Nat) : Nat := if n ≤ i then 0 else if 97 ≤ f i ∧ f i ≤ 122 then 1 else if 48 ≤ f i ∧ f i ≤ 57 then 2 else 3
def tx_s (f : Nat → Int) (n s i : Nat) : Bool := decide (tx_so f n i = s)
/-- the token behind the place p: where it begins, where it ends, what it is (4: glued to what stands ahead) -/
def tx_a (f : Nat → Int) (n p : Nat) : Nat := tx_run (tx_b f) n p
def tx_e (f : Nat → Int) (n p : Nat) : Nat := if tx_so f n (tx_a f n p) = 0 then n else if tx_so f n (tx_a f n p) = 3 then tx_a f n p + 1 else tx_run (tx_s f n (tx_so f n (tx_a f n p))) n (tx_a f n p + 1)
def tx_k (f : Nat → Int) (n p : Nat) : Nat := if tx_a f n p = p ∧ ¬ p = 0 ∧ ¬ tx_so f n (p - 1) = 3 ∧ (tx_so f n (tx_a f n p) = 1 ∨ tx_so f n (tx_a f n p) = 2) then 4 else tx_so f n (tx_a f n p)
theorem tx_so_le (f : Nat → Int) (n i : Nat) : tx_so f n i ≤ 3 := by
  unfold tx_so
  split
  · omega
  · split
    · omega
    · split <;> omega
theorem tx_so_0 {f : Nat → Int} {n i : Nat} : tx_so f n i = 0 ↔ n ≤ i := by
  unfold tx_so
  split
  · exact ⟨fun _ => by assumption, fun _ => rfl⟩
  · split
    · exact ⟨fun h => by omega, fun h => by omega⟩
    · split
      · exact ⟨fun h => by omega, fun h => by omega⟩
      · exact ⟨fun h => by omega, fun h => by omega⟩
/-- what the token is: glued, or not -/
theorem tx_k_yes {f : Nat → Int} {n p a : Nat} (h : tx_a f n p = a) (h1 : a = p) (h2 : ¬ p = 0) (h3 : ¬ tx_so f n (p - 1) = 3) (h4 : tx_so f n a = 1 ∨ tx_so f n a = 2) : tx_k f n p = 4 := by
  unfold tx_k
  rw [h]
  exact if_pos ⟨h1, h2, h3, h4⟩
theorem tx_k_no {f : Nat → Int} {n p a : Nat} (h : tx_a f n p = a) (h1 : ¬ (a = p ∧ ¬ p = 0 ∧ ¬ tx_so f n (p - 1) = 3 ∧ (tx_so f n a = 1 ∨ tx_so f n a = 2))) : tx_k f n p = tx_so f n a := by
  unfold tx_k
  rw [h]
  exact if_neg h1
theorem tx_a_le {f : Nat → Int} {n p : Nat} (h : p ≤ n) : tx_a f n p ≤ n := tx_run_le h
theorem tx_a_ge (f : Nat → Int) (n p : Nat) : p ≤ tx_a f n p := tx_run_ge _ _ _
theorem tx_a_idem (f : Nat → Int) (n p : Nat) : tx_a f n (tx_a f n p) = tx_a f n p := tx_run_idem _ _ _
theorem tx_e_le {f : Nat → Int} {n p : Nat} (h : p ≤ n) : tx_e f n p ≤ n := by
  unfold tx_e
  have h1 := tx_a_le (f := f) h
  split
  · exact Nat.le_refl _
  · rename_i q
    have ha : ¬ n ≤ tx_a f n p := fun r => q (tx_so_0.mpr r)
    split
    · omega
    · exact tx_run_le (by omega)
theorem tx_e_gt {f : Nat → Int} {n p : Nat} (h : tx_a f n p < n) : tx_a f n p < tx_e f n p := by
  unfold tx_e
  split
  · exact h
  · split
    · omega
    · exact tx_run_ge _ _ _
theorem tx_a_n (f : Nat → Int) (n : Nat) : tx_a f n n = n := tx_run_stop (fun h => absurd h.1 (Nat.lt_irrefl _))
theorem tx_so_n (f : Nat → Int) (n : Nat) : tx_so f n n = 0 := tx_so_0.mpr (Nat.le_refl _)
theorem tx_k_n (f : Nat → Int) (n : Nat) : tx_k f n n = 0 := by
  rw [tx_k_no (tx_a_n f n) (fun h => by have := tx_so_n f n; omega)]
  exact tx_so_n f n
theorem tx_e_n (f : Nat → Int) (n : Nat) : tx_e f n n = n := by
  unfold tx_e
  rw [tx_a_n, tx_so_n]
  rfl
