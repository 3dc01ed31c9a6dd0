/-! letter -/
theorem lol_div {X : Int} (h1 : 0 ≤ X) (h2 : X ≤ 1000000000000) : lf_ol lf_ldiv X 27 = X / 27 := by
  have e : (2 : Int) ^ 63 = 9223372036854775808 := by decide
  have ex : (Int64.ofInt X).toInt = X := Int64.toInt_ofInt_of_le (by omega) (by omega)
  have ey : (Int64.ofInt 27).toInt = 27 := by decide
  show (Int64.ofInt X / Int64.ofInt 27).toInt = X / 27
  rw [Int64.toInt_div, ex, ey, Int.tdiv_eq_ediv_of_nonneg h1]
  have q1 : 0 ≤ X / 27 := by omega
  have q2 : X / 27 ≤ X := by omega
  exact Int.bmod_eq_of_le (by omega) (by omega)
theorem lol_rem {X : Int} (h1 : 0 ≤ X) (h2 : X ≤ 1000000000000) : lf_ol lf_lrem X 27 = X % 27 := by
  have e : (2 : Int) ^ 63 = 9223372036854775808 := by decide
  have ex : (Int64.ofInt X).toInt = X := Int64.toInt_ofInt_of_le (by omega) (by omega)
  have ey : (Int64.ofInt 27).toInt = 27 := by decide
  show (Int64.ofInt X % Int64.ofInt 27).toInt = X % 27
  rw [Int64.toInt_mod, ex, ey, Int.tmod_eq_emod_of_nonneg h1]
def l2B : Bool := (List.range 27).all (fun s => decide (lf_l2i (s : Int) = (s : Int)))
theorem l2i_s {x : Int} (h0 : 0 ≤ x) (h1 : x < 27) : lf_l2i x = x := by
  have hd : l2B = true := by decide +kernel
  obtain ⟨s, rfl⟩ := Int.eq_ofNat_of_zero_le h0
  exact of_decide_eq_true (List.all_eq_true.mp hd s (List.mem_range.mpr (by omega)))
/-- letters, the last first -/
def lw : List Int → Prop
  | [] => True
  | c :: r => (97 ≤ c ∧ c ≤ 122) ∧ lw r
theorem nr_c {c : Int} {r : List Int} : nr (c :: r) = 27 * nr r + c - 97 + 1 := rfl
theorem nr_0 : ∀ r : List Int, lw r → (r.length : Int) ≤ nr r
  | [], _ => Int.le_refl 0
  | c :: r, h => by
    have h1 := nr_0 r h.2
    have h2 := h.1
    rw [nr_c]
    show ((r.length + 1 : Nat) : Int) ≤ _
    omega
theorem nr_bd : ∀ r : List Int, lw r → r.length ≤ 6 → nr r < b27 r.length
  | [], _, _ => show (0 : Int) < 1 by decide
  | c :: r, h, hl => by
    have h1 := nr_bd r h.2 (Nat.le_of_succ_le hl)
    have h2 := h.1
    rw [nr_c]
    show _ < 27 * b27 r.length
    omega
theorem nr_le {r : List Int} (h : lw r) (hl : r.length ≤ 6) : nr r ≤ 1000000000000 := by
  have h1 := nr_bd r h hl
  have h2 : b27 r.length ≤ 387420489 := by
    rcases (by omega : r.length = 0 ∨ r.length = 1 ∨ r.length = 2 ∨ r.length = 3 ∨ r.length = 4 ∨ r.length = 5 ∨ r.length = 6) with e | e | e | e | e | e | e <;> (rw [e]; decide)
  omega
theorem le_102 {p n : Int} : ∀ (j : Nat) (r : List Int) (f : Nat), lw r → r.length ≤ 6 → j < r.length → j < f → F_X10_letter_102 p f (nr r) n (p + (j : Int)) = r.getD j 0 - 97 + 1 := by
  intro j
  induction j with
  | zero =>
    intro r f h hl hj hf
    obtain ⟨k, rfl⟩ : ∃ k, f = k + 1 := ⟨f - 1, by omega⟩
    cases r with
    | nil => exact absurd hj (Nat.not_lt_zero _)
    | cons c r =>
      have hb := nr_le h hl
      have h0 := nr_0 (c :: r) h
      have h1 := h.1
      show F_X10_letter_102b p _ (nr (c :: r)) n (p + ((0 : Nat) : Int)) = c - 97 + 1
      unfold F_X10_letter_102b
      rw [if_pos (by omega), lol_rem (by omega) hb]
      have hm : nr (c :: r) % 27 = c - 97 + 1 := by
        rw [nr_c]
        omega
      rw [hm]
      exact l2i_s (by omega) (by omega)
  | succ j ih =>
    intro r f h hl hj hf
    obtain ⟨k, rfl⟩ : ∃ k, f = k + 1 := ⟨f - 1, by omega⟩
    cases r with
    | nil => exact absurd hj (Nat.not_lt_zero _)
    | cons c r =>
      have hb := nr_le h hl
      have h0 := nr_0 (c :: r) h
      have h1 := h.1
      have hj' : j + 1 < r.length + 1 := hj
      show F_X10_letter_102b p (F_X10_letter_102 p k) (nr (c :: r)) n (p + ((j + 1 : Nat) : Int)) = r.getD j 0 - 97 + 1
      unfold F_X10_letter_102b
      have hd : nr (c :: r) / 27 = nr r := by
        rw [nr_c]
        omega
      rw [if_neg (by omega), lol_div (by omega) hb, hd, show p + ((j + 1 : Nat) : Int) + (-1 : Int) = p + (j : Int) from by omega]
      exact ih r k h.2 (Nat.le_of_succ_le hl) (by omega) (by omega)
theorem le_67 {p V : Int} : ∀ (r : List Int) (f : Nat) (n : Nat), lw r → r.length ≤ 6 → n + r.length ≤ 12 → r.length < f → F_X10_letter_67 p f V (nr r) (n : Int) = if p < ((n + r.length : Nat) : Int) then F_X10_letter_102 p 2147483648 V ((n + r.length : Nat) : Int) (((n + r.length : Nat) : Int) - (1 : Int)) else 0 := by
  intro r
  induction r with
  | nil =>
    intro f n h hl hn hf
    obtain ⟨k, rfl⟩ : ∃ k, f = k + 1 := ⟨f - 1, by have : 0 < f := hf; omega⟩
    show F_X10_letter_67b p _ V (0 : Int) (n : Int) = _
    unfold F_X10_letter_67b
    rw [if_pos (show lf_cmp (0 : Int) (0 : Int) ≤ 0 from by decide)]
    rfl
  | cons c r ih =>
    intro f n h hl hn hf
    obtain ⟨k, rfl⟩ : ∃ k, f = k + 1 := ⟨f - 1, by have : 0 < f := Nat.lt_of_le_of_lt (Nat.zero_le _) hf; omega⟩
    have hb := nr_le h hl
    have h0' : ((r.length + 1 : Nat) : Int) ≤ nr (c :: r) := nr_0 (c :: r) h
    have h1 := h.1
    have hl' : r.length + 1 ≤ 6 := hl
    have hn' : n + (r.length + 1) ≤ 12 := hn
    show F_X10_letter_67b p (F_X10_letter_67 p k) V (nr (c :: r)) (n : Int) = _
    unfold F_X10_letter_67b
    have hd : nr (c :: r) / 27 = nr r := by
      rw [nr_c]
      omega
    have hc : lf_cmp (nr (c :: r)) (0 : Int) = 1 := if_pos (by omega)
    rw [hc, if_neg (show ¬ (1 : Int) ≤ 0 from by decide), lol_div (by omega) hb, hd, lo_add (by omega) (by omega) (by omega) (by omega) (by omega) (by omega)]
    have hh := ih k (n + 1) h.2 (by omega) (by omega) (by have : r.length + 1 < k + 1 := hf; omega)
    rw [show n + 1 + r.length = n + (c :: r).length from by show n + 1 + r.length = n + (r.length + 1); omega] at hh
    exact hh
theorem lw_of : ∀ {r : List Int}, (∀ c, c ∈ r → 97 ≤ c ∧ c ≤ 122) → lw r
  | [], _ => True.intro
  | c :: r, h => ⟨h c (List.mem_cons_self ..), lw_of (fun d hd => h d (List.mem_cons_of_mem _ hd))⟩
theorem lw_w {w : List Int} (h : isW w) : lw w.reverse := by
  refine lw_of (fun c hc => ?_)
  obtain ⟨k, hk, e⟩ := List.getElem_of_mem (List.mem_reverse.mp hc)
  have := h.2 k hk
  rw [List.getD_eq_getElem?_getD, List.getElem?_eq_getElem hk] at this
  rw [← e]
  exact this
/-- a letter of a name that is kept as a number -/
theorem le_w {w : List Int} {p : Nat} (h : isW w) (hp : p < 6) : F_X10_letter_67 (p : Int) ((Int.toNat (v27 w)) + 1) (v27 w) (v27 w) (0 : Int) = nl w p := by
  have hl := lw_w h
  have hlen : w.reverse.length = w.length := List.length_reverse
  have h6 := h.1
  have h0 := nr_0 w.reverse hl
  have e := le_67 (p := (p : Int)) (V := nr w.reverse) w.reverse ((Int.toNat (nr w.reverse)) + 1) 0 hl (by omega) (by omega) (by omega)
  have e' : F_X10_letter_67 (p : Int) ((Int.toNat (v27 w)) + 1) (v27 w) (v27 w) (0 : Int) = if (p : Int) < ((0 + w.reverse.length : Nat) : Int) then F_X10_letter_102 (p : Int) 2147483648 (nr w.reverse) ((0 + w.reverse.length : Nat) : Int) (((0 + w.reverse.length : Nat) : Int) - (1 : Int)) else 0 := e
  rw [e', hlen]
  unfold nl
  by_cases q : p < w.length
  · rw [if_pos (by omega), if_pos q]
    have e2 := le_102 (p := (p : Int)) (n := ((0 + w.length : Nat) : Int)) (w.length - 1 - p) w.reverse 2147483648 hl (by omega) (by omega) (by omega)
    rw [show (p : Int) + ((w.length - 1 - p : Nat) : Int) = ((0 + w.length : Nat) : Int) - (1 : Int) from by omega] at e2
    rw [e2, List.getD_eq_getElem?_getD, List.getD_eq_getElem?_getD, List.getElem?_reverse (by omega), show w.length - 1 - (w.length - 1 - p) = p from by omega]
  · rw [if_neg (by omega), if_neg q]
/-- what letter answers -/
def leA (Ks Ws : List (List Int)) (p0 p1 p2 : Int) : Int := if (p0 = 0 ∧ 0 ≤ p1 ∧ p1 < (Ks.length : Int)) ∧ 0 ≤ p2 ∧ p2 ≤ 5 then nl (Ks.getD p1.toNat []) p2.toNat else if (p0 = 1 ∧ 0 ≤ p1 ∧ p1 < (Ws.length : Int)) ∧ 0 ≤ p2 ∧ p2 ≤ 5 then nl (Ws.getD p1.toNat []) p2.toNat else -1
theorem lx_le {N : Nat → Int} {Ks Ws : List (List Int)} {p0 p1 p2 : Int} (h : nms N Ks Ws) : F_X9_letter (Ks.length : Int) (Ws.length : Int) N p0 p1 p2 = leA Ks Ws p0 p1 p2 := by
  unfold F_X9_letter leA F_X9_isKind F_X9_isKind_19 F_X9_isWalker F_X9_isWalker_19
  have hK := h.2.2.1
  have hW := h.2.2.2.1
  by_cases a0 : p0 = 0
  · rw [if_pos a0, lf_b_e]
    by_cases b1 : p1 < 0
    · rw [if_pos b1, if_pos rfl, if_neg (by omega), if_neg (by omega)]
    · rw [if_neg b1]
      by_cases b2 : p1 < (Ks.length : Int)
      · rw [if_neg (show ¬ (Ks.length : Int) ≤ p1 from by omega), if_neg (show ¬ (1 : Int) = 0 from by decide)]
        by_cases c1 : p2 < 0
        · rw [if_pos c1, if_neg (by omega), if_neg (by omega)]
        · rw [if_neg c1]
          by_cases c2 : p2 < 6
          · rw [if_pos c2, if_pos ⟨⟨a0, by omega, b2⟩, by omega, by omega⟩, ← hK p1.toNat (by omega) p2.toNat (by omega), show Int.toNat (p1 * 6 + p2) = 6 * (0 + p1.toNat) + p2.toNat from by omega]
          · rw [if_neg c2, if_neg (by omega), if_neg (by omega)]
      · rw [if_pos (show (Ks.length : Int) ≤ p1 from by omega), if_pos rfl, if_neg (by omega), if_neg (by omega)]
  · rw [if_neg a0]
    by_cases a1 : p0 = 1
    · rw [if_pos a1, lf_b_e]
      by_cases b1 : p1 < 0
      · rw [if_pos b1, if_pos rfl, if_neg (by omega), if_neg (by omega)]
      · rw [if_neg b1]
        by_cases b2 : p1 < (Ws.length : Int)
        · rw [if_neg (show ¬ (Ws.length : Int) ≤ p1 from by omega), if_neg (show ¬ (1 : Int) = 0 from by decide)]
          by_cases c1 : p2 < 0
          · rw [if_pos c1, if_neg (by omega), if_neg (by omega)]
          · rw [if_neg c1]
            by_cases c2 : p2 < 6
            · rw [if_pos c2, if_neg (by omega), if_pos ⟨⟨a1, by omega, b2⟩, by omega, by omega⟩, ← hW p1.toNat (by omega) p2.toNat (by omega), show Int.toNat ((6 + p1) * 6 + p2) = 6 * (6 + p1.toNat) + p2.toNat from by omega]
            · rw [if_neg c2, if_neg (by omega), if_neg (by omega)]
        · rw [if_pos (show (Ws.length : Int) ≤ p1 from by omega), if_pos rfl, if_neg (by omega), if_neg (by omega)]
    · rw [if_neg a1, if_neg (by omega), if_neg (by omega)]
theorem lm_le {M N N0 : Nat → Int} {Ks Ws : List (List Int)} {p0 p1 p2 : Int} (hn : nms N0 Ks Ws) (h2 : M 2 = (Ks.length : Int)) (h3 : M 3 = (Ws.length : Int)) (hK : keptM N 24 Ks) (hW : keptM N 36 Ws) : F_X10_letter M N p0 p1 p2 = leA Ks Ws p0 p1 p2 := by
  unfold F_X10_letter leA F_X10_letter_42 lf_isin
  by_cases a0 : 0 ≤ p0 ∧ p0 ≤ 1
  · rw [if_pos a0, if_neg (show ¬ (1 : Int) = 0 from by decide)]
    rcases (by omega : p0 = 0 ∨ p0 = 1) with e | e
    · subst e
      rw [show Int.toNat ((2 : Int) + (0 : Int)) = 2 from rfl, h2]
      by_cases b : 0 ≤ p1 ∧ p1 ≤ (Ks.length : Int) - 1
      · rw [if_pos b, if_neg (show ¬ (1 : Int) = 0 from by decide)]
        by_cases c : 0 ≤ p2 ∧ p2 ≤ 5
        · obtain ⟨k, rfl⟩ := Int.eq_ofNat_of_zero_le c.1
          have hk := hK p1.toNat (by omega)
          rw [if_pos c, if_neg (show ¬ (1 : Int) = 0 from by decide), if_pos ⟨⟨rfl, b.1, by omega⟩, c⟩, show Int.toNat (((24 : Int) + ((12 : Int) * (0 : Int))) + p1) = 24 + p1.toNat from by omega, hk, Int.toNat_natCast]
          exact le_w (hn.1 p1.toNat (by omega)) (by omega)
        · rw [if_neg c, if_pos rfl, if_neg (fun r => c r.2), if_neg (fun r => c r.2)]
      · rw [if_neg b, if_pos rfl, if_neg (fun r => b ⟨r.1.2.1, by have := r.1.2.2; omega⟩), if_neg (fun r => absurd r.1.1 (by decide))]
    · subst e
      rw [show Int.toNat ((2 : Int) + (1 : Int)) = 3 from rfl, h3]
      by_cases b : 0 ≤ p1 ∧ p1 ≤ (Ws.length : Int) - 1
      · rw [if_pos b, if_neg (show ¬ (1 : Int) = 0 from by decide)]
        by_cases c : 0 ≤ p2 ∧ p2 ≤ 5
        · obtain ⟨k, rfl⟩ := Int.eq_ofNat_of_zero_le c.1
          have hk := hW p1.toNat (by omega)
          rw [if_pos c, if_neg (show ¬ (1 : Int) = 0 from by decide), if_neg (fun r => absurd r.1.1 (by decide)), if_pos ⟨⟨rfl, b.1, by omega⟩, c⟩, show Int.toNat (((24 : Int) + ((12 : Int) * (1 : Int))) + p1) = 36 + p1.toNat from by omega, hk, Int.toNat_natCast]
          exact le_w (hn.2.1 p1.toNat (by omega)) (by omega)
        · rw [if_neg c, if_pos rfl, if_neg (fun r => c r.2), if_neg (fun r => c r.2)]
      · rw [if_neg b, if_pos rfl, if_neg (fun r => absurd r.1.1 (by decide)), if_neg (fun r => b ⟨r.1.2.1, by have := r.1.2.2; omega⟩)]
  · rw [if_neg a0, if_pos rfl, if_neg (fun r => a0 (by have := r.1.1; omega)), if_neg (fun r => a0 (by have := r.1.1; omega))]
