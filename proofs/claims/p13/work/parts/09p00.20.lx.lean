section
/-! 20 -/
/-! a text: bytes f, n of them; places are natural numbers. A run: how far a property holds -/
def tx_rf (P : Nat → Bool) (n : Nat) : Nat → Nat → Nat
  | 0, i => i
  | k + 1, i => if i < n ∧ P i = true then tx_rf P n k (i + 1) else i
def tx_run (P : Nat → Bool) (n i : Nat) : Nat := tx_rf P n (n - i) i
theorem tx_run_step {P : Nat → Bool} {n i : Nat} (h : i < n) (hp : P i = true) : tx_run P n i = tx_run P n (i + 1) := by
  unfold tx_run
  have e : n - i = (n - (i + 1)) + 1 := by omega
  rw [e]
  show (if i < n ∧ P i = true then tx_rf P n (n - (i + 1)) (i + 1) else i) = _
  rw [if_pos ⟨h, hp⟩]
theorem tx_run_stop {P : Nat → Bool} {n i : Nat} (h : ¬ (i < n ∧ P i = true)) : tx_run P n i = i := by
  unfold tx_run
  cases n - i with
  | zero => rfl
  | succ k =>
    show (if i < n ∧ P i = true then tx_rf P n k (i + 1) else i) = i
    rw [if_neg h]
theorem tx_run_all (P : Nat → Bool) (n : Nat) : ∀ (d i : Nat), n - i = d → i ≤ tx_run P n i ∧ (i ≤ n → tx_run P n i ≤ n) ∧ (¬ (tx_run P n i < n ∧ P (tx_run P n i) = true)) ∧ ∀ k, i ≤ k → k < tx_run P n i → P k = true := by
  intro d
  induction d with
  | zero =>
    intro i hd
    rw [tx_run_stop (fun h => absurd h.1 (by omega))]
    exact ⟨Nat.le_refl _, id, fun h => absurd h.1 (by omega), fun k h1 h2 => absurd h2 (by omega)⟩
  | succ d ih =>
    intro i hd
    by_cases h : i < n ∧ P i = true
    · rw [tx_run_step h.1 h.2]
      obtain ⟨a, b, c, e⟩ := ih (i + 1) (by omega)
      refine ⟨by omega, fun _ => b (by omega), c, fun k h1 h2 => ?_⟩
      by_cases hk : k = i
      · rw [hk]
        exact h.2
      · exact e k (by omega) h2
    · rw [tx_run_stop h]
      exact ⟨Nat.le_refl _, id, h, fun k h1 h2 => absurd h2 (by omega)⟩
theorem tx_run_ge (P : Nat → Bool) (n i : Nat) : i ≤ tx_run P n i := (tx_run_all P n _ i rfl).1
theorem tx_run_le {P : Nat → Bool} {n i : Nat} (h : i ≤ n) : tx_run P n i ≤ n := (tx_run_all P n _ i rfl).2.1 h
theorem tx_run_end (P : Nat → Bool) (n i : Nat) : ¬ (tx_run P n i < n ∧ P (tx_run P n i) = true) := (tx_run_all P n _ i rfl).2.2.1
theorem tx_run_in {P : Nat → Bool} {n i k : Nat} (h1 : i ≤ k) (h2 : k < tx_run P n i) : P k = true := (tx_run_all P n _ i rfl).2.2.2 k h1 h2
theorem tx_run_idem (P : Nat → Bool) (n i : Nat) : tx_run P n (tx_run P n i) = tx_run P n i := tx_run_stop (tx_run_end P n i)
/-- blanks; what stands at a place: 0 nothing, 1 a letter, 2 a digit, 3 else -/
def tx_b (f : Nat → Int) (i : Nat) : Bool := decide (f i = 10 ∨ f i = 32)
def tx_so (f : Nat → Int) (n i : Nat) : Nat := if n ≤ i then 0 else if 97 ≤ f i ∧ f i ≤ 122 then 1 else if 48 ≤ f i ∧ f i ≤ 57 then 2 else 3
def tx_s (f : Nat → Int) (n s i : Nat) : Bool := decide (tx_so f n i = s)
/-- the token behind the place p: where it begins, where it ends, what it is (4: glued to what stands ahead) -/
def tx_a (f : Nat → Int) (n p : Nat) : Nat := tx_run (tx_b f) n p
def tx_e (f : Nat → Int) (n p : Nat) : Nat := if tx_so f n (tx_a f n p) = 0 then n else if tx_so f n (tx_a f n p) = 3 then tx_a f n p + 1 else tx_run (tx_s f n (tx_so f n (tx_a f n p))) n (tx_a f n p + 1)
def tx_k (f : Nat → Int) (n p : Nat) : Nat := if tx_a f n p = p ∧ ¬ p = 0 ∧ ¬ tx_so f n (p - 1) = 3 ∧ (tx_so f n (tx_a f n p) = 1 ∨ tx_so f n (tx_a f n p) = 2) then 4 else tx_so f n (tx_a f n p)
theorem tx_so_le (f : Nat → Int) (n i : Nat) : tx_so f n i ≤ 3 := by
  unfold tx_so
  split
  · omega
  · split
    · omega
    · split <;> omega
theorem tx_so_0 {f : Nat → Int} {n i : Nat} : tx_so f n i = 0 ↔ n ≤ i := by
  unfold tx_so
  split
  · exact ⟨fun _ => by assumption, fun _ => rfl⟩
  · split
    · exact ⟨fun h => by omega, fun h => by omega⟩
    · split
      · exact ⟨fun h => by omega, fun h => by omega⟩
      · exact ⟨fun h => by omega, fun h => by omega⟩
/-- what the token is: glued, or not -/
theorem tx_k_yes {f : Nat → Int} {n p a : Nat} (h : tx_a f n p = a) (h1 : a = p) (h2 : ¬ p = 0) (h3 : ¬ tx_so f n (p - 1) = 3) (h4 : tx_so f n a = 1 ∨ tx_so f n a = 2) : tx_k f n p = 4 := by
  unfold tx_k
  rw [h]
  exact if_pos ⟨h1, h2, h3, h4⟩
theorem tx_k_no {f : Nat → Int} {n p a : Nat} (h : tx_a f n p = a) (h1 : ¬ (a = p ∧ ¬ p = 0 ∧ ¬ tx_so f n (p - 1) = 3 ∧ (tx_so f n a = 1 ∨ tx_so f n a = 2))) : tx_k f n p = tx_so f n a := by
  unfold tx_k
  rw [h]
  exact if_neg h1
theorem tx_a_le {f : Nat → Int} {n p : Nat} (h : p ≤ n) : tx_a f n p ≤ n := tx_run_le h
theorem tx_a_ge (f : Nat → Int) (n p : Nat) : p ≤ tx_a f n p := tx_run_ge _ _ _
theorem tx_a_idem (f : Nat → Int) (n p : Nat) : tx_a f n (tx_a f n p) = tx_a f n p := tx_run_idem _ _ _
theorem tx_e_le {f : Nat → Int} {n p : Nat} (h : p ≤ n) : tx_e f n p ≤ n := by
  unfold tx_e
  have h1 := tx_a_le (f := f) h
  split
  · exact Nat.le_refl _
  · rename_i q
    have ha : ¬ n ≤ tx_a f n p := fun r => q (tx_so_0.mpr r)
    split
    · omega
    · exact tx_run_le (by omega)
theorem tx_e_gt {f : Nat → Int} {n p : Nat} (h : tx_a f n p < n) : tx_a f n p < tx_e f n p := by
  unfold tx_e
  split
  · exact h
  · split
    · omega
    · exact tx_run_ge _ _ _
theorem tx_a_n (f : Nat → Int) (n : Nat) : tx_a f n n = n := tx_run_stop (fun h => absurd h.1 (Nat.lt_irrefl _))
theorem tx_so_n (f : Nat → Int) (n : Nat) : tx_so f n n = 0 := tx_so_0.mpr (Nat.le_refl _)
theorem tx_k_n (f : Nat → Int) (n : Nat) : tx_k f n n = 0 := by
  rw [tx_k_no (tx_a_n f n) (fun h => by have := tx_so_n f n; omega)]
  exact tx_so_n f n
theorem tx_e_n (f : Nat → Int) (n : Nat) : tx_e f n n = n := by
  unfold tx_e
  rw [tx_a_n, tx_so_n]
  rfl
end
section
/-! 21 -/
/-! the class's lexical methods: what their functions make of a text g, n bytes long, at a place p -/
theorem cl_so {g : Nat → Int} {n : Nat} {p : Int} (h : 0 ≤ p) : F_X5_sortOf g (n : Int) p = ((tx_so g n p.toNat : Nat) : Int) := by
  unfold F_X5_sortOf F_X5_sortOf_38 F_X5_sortOf_64 F_X5_sortOf_12 tx_so
  (repeat' split) <;> omega
theorem cl_so' {g : Nat → Int} {n p : Nat} : F_X5_sortOf g (n : Int) (p : Int) = ((tx_so g n p : Nat) : Int) := by
  rw [cl_so (by omega), Int.toNat_natCast]
theorem cl_mv5 {g : Nat → Int} {n : Nat} {p : Int} : ∀ (k a : Nat), a ≤ n → n - a < k → F_X5_moveTo_5 g (n : Int) p k (a : Int) = F_X5_moveTo_57 g (n : Int) p ((tx_run (tx_b g) n a : Nat) : Int) := by
  intro k
  induction k with
  | zero => intro a h1 h2; omega
  | succ k ih =>
    intro a h1 h2
    show F_X5_moveTo_5b g (n : Int) p (F_X5_moveTo_5 g (n : Int) p k) (a : Int) = _
    unfold F_X5_moveTo_5b F_X5_moveTo_44
    rw [Int.toNat_natCast]
    by_cases h3 : a < n
    · rw [if_neg (by omega)]
      by_cases h4 : g a = 10
      · rw [if_pos h4, show (a : Int) + (1 : Int) = ((a + 1 : Nat) : Int) from by omega, ih (a + 1) (by omega) (by omega), ← tx_run_step h3 (decide_eq_true (Or.inl h4))]
      · rw [if_neg h4]
        by_cases h5 : g a = 32
        · rw [if_pos h5, show (a : Int) + (1 : Int) = ((a + 1 : Nat) : Int) from by omega, ih (a + 1) (by omega) (by omega), ← tx_run_step h3 (decide_eq_true (Or.inr h5))]
        · rw [if_neg h5, tx_run_stop (fun q => (of_decide_eq_true q.2).elim h4 h5)]
    · rw [if_pos (by omega), tx_run_stop (fun q => h3 q.1)]
/-- the token's end, and what it is -/
def cl_end (g : Nat → Int) (n : Nat) (p : Int) (a b : Nat) : Int × Int × Int := F_X5_moveTo_133 g (n : Int) p (a : Int) (b : Int) ((tx_so g n a : Nat) : Int)
theorem cl_mv86 {g : Nat → Int} {n : Nat} {p : Int} {a : Nat} (ha : ¬ tx_so g n a = 3) : ∀ (k b : Nat), b ≤ n → n - b < k → F_X5_moveTo_86 g (n : Int) p k (a : Int) (b : Int) ((tx_so g n a : Nat) : Int) = cl_end g n p a (tx_run (tx_s g n (tx_so g n a)) n b) := by
  intro k
  induction k with
  | zero => intro b h1 h2; omega
  | succ k ih =>
    intro b h1 h2
    show F_X5_moveTo_86b g (n : Int) p (F_X5_moveTo_86 g (n : Int) p k) (a : Int) (b : Int) ((tx_so g n a : Nat) : Int) = _
    unfold F_X5_moveTo_86b
    repeat rw [lf_b_e]
    rw [cl_so']
    by_cases h3 : b < n
    · rw [if_neg (by omega), if_neg (by omega)]
      by_cases h4 : tx_so g n b = tx_so g n a
      · rw [if_pos (by omega), show (b : Int) + (1 : Int) = ((b + 1 : Nat) : Int) from by omega, ih (b + 1) (by omega) (by omega), ← tx_run_step h3 (decide_eq_true h4)]
      · rw [if_neg (by omega), tx_run_stop (fun q => h4 (of_decide_eq_true q.2))]
        rfl
    · rw [if_pos (by omega), tx_run_stop (fun q => h3 q.1)]
      rfl
theorem cl_mv86s {g : Nat → Int} {n : Nat} {p : Int} {a : Nat} (ha : tx_so g n a = 3) (k b : Nat) : F_X5_moveTo_86 g (n : Int) p (k + 1) (a : Int) (b : Int) ((tx_so g n a : Nat) : Int) = cl_end g n p a b := by
  show F_X5_moveTo_86b g (n : Int) p (F_X5_moveTo_86 g (n : Int) p k) (a : Int) (b : Int) ((tx_so g n a : Nat) : Int) = _
  unfold F_X5_moveTo_86b
  repeat rw [lf_b_e]
  by_cases h3 : b < n
  · rw [if_neg (by omega), if_pos (by omega)]
    rfl
  · rw [if_pos (by omega)]
    rfl
theorem cl_133 {g : Nat → Int} {n p a b : Nat} (h1 : tx_a g n p = a) (h2 : p ≤ a) (h3 : tx_e g n p = b) : cl_end g n (p : Int) a b = ((tx_a g n p : Int), (tx_e g n p : Int), (tx_k g n p : Int)) := by
  unfold cl_end F_X5_moveTo_133 F_X5_moveTo_162 F_X5_moveTo_167 F_X5_moveTo_188
  repeat rw [lf_b_e]
  rw [h1, h3]
  by_cases q1 : p < a
  · rw [if_pos (by omega), if_neg (by omega), tx_k_no h1 (fun q => by omega)]
  · have e : a = p := by omega
    rw [if_neg (by omega)]
    by_cases q2 : a = 0
    · rw [if_pos (by omega), if_neg (by omega), tx_k_no h1 (fun q => by omega)]
    · rw [if_neg (by omega), cl_so (by omega), show Int.toNat ((a : Int) - 1) = p - 1 from by omega]
      by_cases q3 : tx_so g n (p - 1) = 3
      · rw [if_pos (by omega), if_neg (by omega), tx_k_no h1 (fun q => q.2.2.1 q3)]
      · rw [if_neg (by omega), if_pos rfl]
        by_cases q4 : tx_so g n a = 1
        · rw [if_pos (by omega), tx_k_yes h1 e (by omega) q3 (Or.inl q4)]
          rfl
        · rw [if_neg (by omega)]
          by_cases q5 : tx_so g n a = 2
          · rw [if_pos (by omega), tx_k_yes h1 e (by omega) q3 (Or.inr q5)]
            rfl
          · rw [if_neg (by omega), tx_k_no h1 (fun q => by omega)]
/-- moveTo -/
theorem cl_mv {g : Nat → Int} {n p : Nat} (hn : n ≤ 1600) (hp : p ≤ n) : F_X5_moveTo g (n : Int) (p : Int) = ((tx_a g n p : Int), (tx_e g n p : Int), (tx_k g n p : Int)) := by
  unfold F_X5_moveTo
  rw [cl_mv5 1602 p hp (by omega)]
  unfold F_X5_moveTo_57
  repeat rw [lf_b_e]
  have ha : tx_run (tx_b g) n p = tx_a g n p := rfl
  have h1 := tx_a_le (f := g) hp
  have h2 := tx_a_ge g n p
  rw [ha, cl_so']
  by_cases q : tx_a g n p < n
  · rw [show min (((tx_a g n p : Nat) : Int) + (1 : Int)) (n : Int) = ((tx_a g n p + 1 : Nat) : Int) from by omega]
    by_cases q3 : tx_so g n (tx_a g n p) = 3
    · rw [cl_mv86s q3 1601]
      refine cl_133 rfl h2 ?_
      unfold tx_e
      rw [if_neg (by omega), if_pos q3]
    · rw [cl_mv86 q3 1602 _ (by omega) (by omega)]
      refine cl_133 rfl h2 ?_
      have q0 : ¬ tx_so g n (tx_a g n p) = 0 := fun r => by
        have := tx_so_0.mp r
        omega
      unfold tx_e
      rw [if_neg q0, if_neg q3]
  · have q0 : tx_so g n (tx_a g n p) = 0 := tx_so_0.mpr (by omega)
    rw [show min (((tx_a g n p : Nat) : Int) + (1 : Int)) (n : Int) = ((n : Nat) : Int) from by omega, cl_mv86 (by omega) 1602 n (Nat.le_refl n) (by omega), tx_run_stop (fun r => by omega)]
    refine cl_133 rfl h2 ?_
    unfold tx_e
    rw [if_pos q0]
end
section
/-! 22 -/
/-! whole numbers behind the machine's; which word of a list stands from a to e -/
theorem lo_add {X Y : Int} (h1 : -2147483648 ≤ X) (h2 : X ≤ 2147483647) (h3 : -2147483648 ≤ Y) (h4 : Y ≤ 2147483647) (h5 : -2147483648 ≤ X + Y) (h6 : X + Y ≤ 2147483647) : lf_o lf_iadd X Y = X + Y := by
  have e : (2 : Int) ^ 31 = 2147483648 := by decide
  show (Int32.ofInt X + Int32.ofInt Y).toInt = X + Y
  rw [Int32.toInt_add, Int32.toInt_ofInt_of_le (by omega) (by omega), Int32.toInt_ofInt_of_le (by omega) (by omega)]
  exact Int.bmod_eq_of_le (by omega) (by omega)
theorem lo_sub {X Y : Int} (h1 : -2147483648 ≤ X) (h2 : X ≤ 2147483647) (h3 : -2147483648 ≤ Y) (h4 : Y ≤ 2147483647) (h5 : -2147483648 ≤ X - Y) (h6 : X - Y ≤ 2147483647) : lf_o lf_isub X Y = X - Y := by
  have e : (2 : Int) ^ 31 = 2147483648 := by decide
  show (Int32.ofInt X - Int32.ofInt Y).toInt = X - Y
  rw [Int32.toInt_sub, Int32.toInt_ofInt_of_le (by omega) (by omega), Int32.toInt_ofInt_of_le (by omega) (by omega)]
  exact Int.bmod_eq_of_le (by omega) (by omega)
theorem lo_mul {X Y : Int} (h1 : -2147483648 ≤ X) (h2 : X ≤ 2147483647) (h3 : -2147483648 ≤ Y) (h4 : Y ≤ 2147483647) (h5 : -2147483648 ≤ X * Y) (h6 : X * Y ≤ 2147483647) : lf_o lf_imul X Y = X * Y := by
  have e : (2 : Int) ^ 31 = 2147483648 := by decide
  show (Int32.ofInt X * Int32.ofInt Y).toInt = X * Y
  rw [Int32.toInt_mul, Int32.toInt_ofInt_of_le (by omega) (by omega), Int32.toInt_ofInt_of_le (by omega) (by omega)]
  exact Int.bmod_eq_of_le (by omega) (by omega)
def b2 : Bool → Int
  | true => 1
  | false => 0
/-- the class's wordIn for any list -/
def gw_52 (xa xe : Int) (K : Int → Int → Int → Int → Int) (w nx al k : Int) : Int := if al = (0 : Int) then K (lf_o lf_iadd w (1 : Int)) xa (1 : Int) (k + (1 : Int)) else if nx = xe then w else K (lf_o lf_iadd w (1 : Int)) xa (1 : Int) (k + (1 : Int))
def gw_b (ch : Int → Int) (L : Int) (g : Nat → Int) (xa xe : Int) (K : Int → Int → Int → Int → Int) (w nx al k : Int) : Int := if L < k then (-1 : Int) else if k = L then gw_52 xa xe K w nx al k else if ch k = (32 : Int) then gw_52 xa xe K w nx al k else if al = (0 : Int) then K w (nx + (1 : Int)) (0 : Int) (k + (1 : Int)) else if xe ≤ nx then K w (nx + (1 : Int)) (0 : Int) (k + (1 : Int)) else if g (Int.toNat nx) = ch k then K w (nx + (1 : Int)) (1 : Int) (k + (1 : Int)) else K w (nx + (1 : Int)) (0 : Int) (k + (1 : Int))
def gw (ch : Int → Int) (L : Int) (g : Nat → Int) (xa xe : Int) : Nat → Int → Int → Int → Int → Int
  | 0 => fun _ _ _ _ => (0 : Int)
  | n + 1 => gw_b ch L g xa xe (gw ch L g xa xe n)
def ts_wi (g : Nat → Int) (a e : Nat) : List Int → Nat → Nat → Bool → Int
  | [], w, nx, al => if al = true ∧ nx = e then (w : Int) else -1
  | c :: L, w, nx, al => if c = 32 then (if al = true ∧ nx = e then (w : Int) else ts_wi g a e L (w + 1) a true) else ts_wi g a e L w (nx + 1) (al && decide (nx < e) && decide (g nx = c))
theorem wi_drop {B : List Int} {k : Nat} (h : k < B.length) : B.drop k = B.getD k 0 :: B.drop (k + 1) := by
  rw [List.drop_eq_getElem_cons h]
  congr 1
  rw [List.getD_eq_getElem?_getD, List.getElem?_eq_getElem h]
  rfl
theorem gw_52s {a e w nx : Nat} {al : Bool} {K : Int → Int → Int → Int → Int} {k : Int} {R : Int} (hw : w ≤ 1000) (hK : K ((w + 1 : Nat) : Int) (a : Int) (1 : Int) (k + (1 : Int)) = R) : gw_52 (a : Int) (e : Int) K (w : Int) (nx : Int) (b2 al) k = if al = true ∧ nx = e then (w : Int) else R := by
  unfold gw_52
  rw [lo_add (by omega) (by omega) (by omega) (by omega) (by omega) (by omega), show (w : Int) + (1 : Int) = ((w + 1 : Nat) : Int) from by omega, hK]
  cases al with
  | false => rw [if_pos (show b2 false = 0 from rfl), if_neg (fun q => Bool.noConfusion q.1)]
  | true =>
    rw [if_neg (show ¬ b2 true = 0 from by decide)]
    by_cases q : nx = e
    · rw [if_pos (by omega), if_pos ⟨rfl, q⟩]
    · rw [if_neg (by omega), if_neg (fun r => q r.2)]
theorem gw_loop {ch : Int → Int} {g : Nat → Int} {a e : Nat} {B : List Int} {L : Nat} (hL : B.length = L) (hch : ∀ k : Nat, k < L → ch (k : Int) = B.getD k 0) (hB : L ≤ 999) : ∀ (f k w nx : Nat) (al : Bool), k ≤ L → L + 1 - k < f → w ≤ k → gw ch (L : Int) g (a : Int) (e : Int) f (w : Int) (nx : Int) (b2 al) (k : Int) = ts_wi g a e (B.drop k) w nx al := by
  intro f
  induction f with
  | zero => intro k w nx al h1 h2; omega
  | succ f ih =>
    intro k w nx al h1 h2 h3
    show gw_b ch (L : Int) g (a : Int) (e : Int) (gw ch (L : Int) g (a : Int) (e : Int) f) (w : Int) (nx : Int) (b2 al) (k : Int) = _
    unfold gw_b
    rw [if_neg (by omega)]
    by_cases q1 : k = L
    · rw [if_pos (by omega), List.drop_eq_nil_of_le (by omega)]
      refine gw_52s (by omega) ?_
      obtain ⟨f', rfl⟩ : ∃ f', f = f' + 1 := ⟨f - 1, by omega⟩
      show gw_b ch (L : Int) g (a : Int) (e : Int) _ _ _ _ _ = -1
      unfold gw_b
      rw [if_pos (by omega)]
    · rw [if_neg (by omega), hch k (by omega), wi_drop (by omega : k < B.length)]
      show _ = if B.getD k 0 = 32 then (if al = true ∧ nx = e then (w : Int) else ts_wi g a e (B.drop (k + 1)) (w + 1) a true) else ts_wi g a e (B.drop (k + 1)) w (nx + 1) (al && decide (nx < e) && decide (g nx = B.getD k 0))
      by_cases q2 : B.getD k 0 = 32
      · rw [if_pos q2, if_pos q2]
        refine gw_52s (by omega) ?_
        rw [show (k : Int) + (1 : Int) = ((k + 1 : Nat) : Int) from by omega]
        exact ih (k + 1) (w + 1) a true (by omega) (by omega) (by omega)
      · rw [if_neg q2, if_neg q2, show (k : Int) + (1 : Int) = ((k + 1 : Nat) : Int) from by omega, show (nx : Int) + (1 : Int) = ((nx + 1 : Nat) : Int) from by omega, Int.toNat_natCast]
        have i0 := ih (k + 1) w (nx + 1) false (by omega) (by omega) (by omega)
        have i1 := ih (k + 1) w (nx + 1) true (by omega) (by omega) (by omega)
        cases al with
        | false =>
          rw [if_pos (show b2 false = 0 from rfl)]
          exact i0
        | true =>
          rw [if_neg (show ¬ b2 true = 0 from by decide)]
          by_cases q3 : nx < e
          · rw [if_neg (by omega)]
            by_cases q4 : g nx = B.getD k 0
            · rw [if_pos q4, decide_eq_true q3, decide_eq_true q4]
              exact i1
            · rw [if_neg q4, decide_eq_true q3, decide_eq_false q4]
              exact i0
          · rw [if_pos (by omega), decide_eq_false q3]
            exact i0
/-- a word stands from nx to e -/
def wq (g : Nat → Int) (e : Nat) : List Int → Nat → Bool
  | [], nx => decide (nx = e)
  | c :: w, nx => decide (nx < e) && decide (g nx = c) && wq g e w (nx + 1)
def wfind (g : Nat → Int) (a e : Nat) : List (List Int) → Nat → Int
  | [], _ => -1
  | w :: ws, i => if wq g e w a = true then (i : Int) else wfind g a e ws (i + 1)
def wj : List (List Int) → List Int
  | [] => []
  | w :: ws => match ws with
    | [] => w
    | _ :: _ => w ++ 32 :: wj ws
def w32 (w : List Int) : Bool := w.all (fun c => decide (¬ c = 32))
theorem wi_word {g : Nat → Int} {a e : Nat} (L : List Int) : ∀ (w : List Int) (i nx : Nat) (al : Bool), w32 w = true → ts_wi g a e (w ++ 32 :: L) i nx al = if al = true ∧ wq g e w nx = true then (i : Int) else ts_wi g a e L (i + 1) a true := by
  intro w
  induction w with
  | nil =>
    intro i nx al _
    show (if (32 : Int) = 32 then (if al = true ∧ nx = e then (i : Int) else ts_wi g a e L (i + 1) a true) else _) = if al = true ∧ decide (nx = e) = true then (i : Int) else ts_wi g a e L (i + 1) a true
    rw [if_pos rfl]
    by_cases q : nx = e
    · rw [decide_eq_true q]
      cases al with
      | false => rw [if_neg (fun r => Bool.noConfusion r.1), if_neg (fun r => Bool.noConfusion r.1)]
      | true => rw [if_pos ⟨rfl, q⟩, if_pos ⟨rfl, rfl⟩]
    · rw [decide_eq_false q, if_neg (fun r => q r.2), if_neg (fun r => Bool.noConfusion r.2)]
  | cons c w ih =>
    intro i nx al h
    have h1 : ¬ c = 32 := of_decide_eq_true (List.all_eq_true.mp h c (List.mem_cons_self ..))
    have h2 : w32 w = true := List.all_eq_true.mpr (fun x hx => List.all_eq_true.mp h x (List.mem_cons_of_mem _ hx))
    show (if c = 32 then _ else ts_wi g a e (w ++ 32 :: L) i (nx + 1) (al && decide (nx < e) && decide (g nx = c))) = if al = true ∧ (decide (nx < e) && decide (g nx = c) && wq g e w (nx + 1)) = true then (i : Int) else ts_wi g a e L (i + 1) a true
    rw [if_neg h1, ih i (nx + 1) _ h2]
    have e9 : ((al && decide (nx < e) && decide (g nx = c)) = true ∧ wq g e w (nx + 1) = true) = (al = true ∧ (decide (nx < e) && decide (g nx = c) && wq g e w (nx + 1)) = true) := by
      cases al <;> cases decide (nx < e) <;> cases decide (g nx = c) <;> cases wq g e w (nx + 1) <;> simp
    simp only [e9]
theorem wi_lone {g : Nat → Int} {a e : Nat} : ∀ (w : List Int) (i nx : Nat) (al : Bool), w32 w = true → ts_wi g a e w i nx al = if al = true ∧ wq g e w nx = true then (i : Int) else -1 := by
  intro w
  induction w with
  | nil =>
    intro i nx al _
    show (if al = true ∧ nx = e then (i : Int) else -1) = if al = true ∧ decide (nx = e) = true then (i : Int) else -1
    by_cases q : nx = e
    · rw [decide_eq_true q]
      cases al with
      | false => rw [if_neg (fun r => Bool.noConfusion r.1), if_neg (fun r => Bool.noConfusion r.1)]
      | true => rw [if_pos ⟨rfl, q⟩, if_pos ⟨rfl, rfl⟩]
    · rw [decide_eq_false q, if_neg (fun r => q r.2), if_neg (fun r => Bool.noConfusion r.2)]
  | cons c w ih =>
    intro i nx al h
    have h1 : ¬ c = 32 := of_decide_eq_true (List.all_eq_true.mp h c (List.mem_cons_self ..))
    have h2 : w32 w = true := List.all_eq_true.mpr (fun x hx => List.all_eq_true.mp h x (List.mem_cons_of_mem _ hx))
    show (if c = 32 then _ else ts_wi g a e w i (nx + 1) (al && decide (nx < e) && decide (g nx = c))) = if al = true ∧ (decide (nx < e) && decide (g nx = c) && wq g e w (nx + 1)) = true then (i : Int) else -1
    rw [if_neg h1, ih i (nx + 1) _ h2]
    have e9 : ((al && decide (nx < e) && decide (g nx = c)) = true ∧ wq g e w (nx + 1) = true) = (al = true ∧ (decide (nx < e) && decide (g nx = c) && wq g e w (nx + 1)) = true) := by
      cases al <;> cases decide (nx < e) <;> cases decide (g nx = c) <;> cases wq g e w (nx + 1) <;> simp
    simp only [e9]
theorem wi_join {g : Nat → Int} {a e : Nat} : ∀ (ws : List (List Int)) (i : Nat), ¬ ws = [] → ws.all w32 = true → ts_wi g a e (wj ws) i a true = wfind g a e ws i := by
  intro ws
  induction ws with
  | nil => intro i h; exact absurd rfl h
  | cons w ws ih =>
    intro i _ h
    have h1 : w32 w = true := List.all_eq_true.mp h w (List.mem_cons_self ..)
    have h2 : ws.all w32 = true := List.all_eq_true.mpr (fun x hx => List.all_eq_true.mp h x (List.mem_cons_of_mem _ hx))
    show _ = if wq g e w a = true then (i : Int) else wfind g a e ws (i + 1)
    cases ws with
    | nil =>
      show ts_wi g a e w i a true = _
      rw [wi_lone w i a true h1]
      by_cases q : wq g e w a = true
      · rw [if_pos ⟨rfl, q⟩, if_pos q]
      · rw [if_neg (fun r => q r.2), if_neg q]
        rfl
    | cons v vs =>
      show ts_wi g a e (w ++ 32 :: wj (v :: vs)) i a true = _
      rw [wi_word _ w i a true h1, ih (i + 1) (fun r => by cases r) h2]
      by_cases q : wq g e w a = true
      · rw [if_pos ⟨rfl, q⟩, if_pos q]
      · rw [if_neg (fun r => q r.2), if_neg q]
end
section
/-! 23 -/
def ws_0 : List (List Int) := [[107, 105, 110, 100], [99, 111, 109, 101, 115], [99, 97, 114], [114, 101, 100], [108, 101, 97, 114, 110, 115], [97, 119, 97, 121]]
theorem ws_0_ch : ∀ k : Nat, k < 30 → lf_ch 0 (k : Int) = (wj ws_0).getD k 0 := by
  have h : (List.range 30).all (fun k => decide (lf_ch 0 ((k : Nat) : Int) = (wj ws_0).getD k 0)) = true := by decide +kernel
  intro k hk
  exact of_decide_eq_true (List.all_eq_true.mp h k (List.mem_range.mpr hk))
theorem cl_wl_0 (g : Nat → Int) (xa xe : Int) : ∀ k : Nat, F_X5_wordIn_s0_23 g xa xe k = gw (lf_ch 0) ((30 : Nat) : Int) g xa xe k
  | 0 => rfl
  | k + 1 => by
    show F_X5_wordIn_s0_23b g xa xe (F_X5_wordIn_s0_23 g xa xe k) = gw_b (lf_ch 0) ((30 : Nat) : Int) g xa xe (gw (lf_ch 0) ((30 : Nat) : Int) g xa xe k)
    rw [cl_wl_0 g xa xe k]
    rfl
theorem cl_w_0 {g : Nat → Int} {a e : Nat} {k : Int} : F_X5_wordIn_s0 g (a : Int) (e : Int) k = if k = 1 then wfind g a e ws_0 0 else -1 := by
  unfold F_X5_wordIn_s0
  rw [cl_wl_0]
  by_cases q : k = 1
  · rw [if_pos q, if_pos q]
    exact (gw_loop (B := wj ws_0) (by decide +kernel) ws_0_ch (by decide) 33 0 0 a true (by omega) (by omega) (by omega)).trans (wi_join ws_0 0 (fun r => by cases r) (by decide +kernel))
  · rw [if_neg q, if_neg q]
def ws_1 : List (List Int) := [[97, 119, 97, 121]]
theorem ws_1_ch : ∀ k : Nat, k < 4 → lf_ch 1 (k : Int) = (wj ws_1).getD k 0 := by
  have h : (List.range 4).all (fun k => decide (lf_ch 1 ((k : Nat) : Int) = (wj ws_1).getD k 0)) = true := by decide +kernel
  intro k hk
  exact of_decide_eq_true (List.all_eq_true.mp h k (List.mem_range.mpr hk))
theorem cl_wl_1 (g : Nat → Int) (xa xe : Int) : ∀ k : Nat, F_X5_wordIn_s1_23 g xa xe k = gw (lf_ch 1) ((4 : Nat) : Int) g xa xe k
  | 0 => rfl
  | k + 1 => by
    show F_X5_wordIn_s1_23b g xa xe (F_X5_wordIn_s1_23 g xa xe k) = gw_b (lf_ch 1) ((4 : Nat) : Int) g xa xe (gw (lf_ch 1) ((4 : Nat) : Int) g xa xe k)
    rw [cl_wl_1 g xa xe k]
    rfl
theorem cl_w_1 {g : Nat → Int} {a e : Nat} {k : Int} : F_X5_wordIn_s1 g (a : Int) (e : Int) k = if k = 1 then wfind g a e ws_1 0 else -1 := by
  unfold F_X5_wordIn_s1
  rw [cl_wl_1]
  by_cases q : k = 1
  · rw [if_pos q, if_pos q]
    exact (gw_loop (B := wj ws_1) (by decide +kernel) ws_1_ch (by decide) 7 0 0 a true (by omega) (by omega) (by omega)).trans (wi_join ws_1 0 (fun r => by cases r) (by decide +kernel))
  · rw [if_neg q, if_neg q]
def ws_2 : List (List Int) := [[102, 105, 114, 115, 116], [108, 97, 115, 116], [111, 102, 116, 101, 110], [116, 111, 116, 97, 108], [109, 111, 115, 116], [108, 101, 97, 115, 116]]
theorem ws_2_ch : ∀ k : Nat, k < 33 → lf_ch 2 (k : Int) = (wj ws_2).getD k 0 := by
  have h : (List.range 33).all (fun k => decide (lf_ch 2 ((k : Nat) : Int) = (wj ws_2).getD k 0)) = true := by decide +kernel
  intro k hk
  exact of_decide_eq_true (List.all_eq_true.mp h k (List.mem_range.mpr hk))
theorem cl_wl_2 (g : Nat → Int) (xa xe : Int) : ∀ k : Nat, F_X5_wordIn_s2_23 g xa xe k = gw (lf_ch 2) ((33 : Nat) : Int) g xa xe k
  | 0 => rfl
  | k + 1 => by
    show F_X5_wordIn_s2_23b g xa xe (F_X5_wordIn_s2_23 g xa xe k) = gw_b (lf_ch 2) ((33 : Nat) : Int) g xa xe (gw (lf_ch 2) ((33 : Nat) : Int) g xa xe k)
    rw [cl_wl_2 g xa xe k]
    rfl
theorem cl_w_2 {g : Nat → Int} {a e : Nat} {k : Int} : F_X5_wordIn_s2 g (a : Int) (e : Int) k = if k = 1 then wfind g a e ws_2 0 else -1 := by
  unfold F_X5_wordIn_s2
  rw [cl_wl_2]
  by_cases q : k = 1
  · rw [if_pos q, if_pos q]
    exact (gw_loop (B := wj ws_2) (by decide +kernel) ws_2_ch (by decide) 36 0 0 a true (by omega) (by omega) (by omega)).trans (wi_join ws_2 0 (fun r => by cases r) (by decide +kernel))
  · rw [if_neg q, if_neg q]
def ws_3 : List (List Int) := [[99, 121, 99, 108, 101]]
theorem ws_3_ch : ∀ k : Nat, k < 5 → lf_ch 3 (k : Int) = (wj ws_3).getD k 0 := by
  have h : (List.range 5).all (fun k => decide (lf_ch 3 ((k : Nat) : Int) = (wj ws_3).getD k 0)) = true := by decide +kernel
  intro k hk
  exact of_decide_eq_true (List.all_eq_true.mp h k (List.mem_range.mpr hk))
theorem cl_wl_3 (g : Nat → Int) (xa xe : Int) : ∀ k : Nat, F_X5_wordIn_s3_23 g xa xe k = gw (lf_ch 3) ((5 : Nat) : Int) g xa xe k
  | 0 => rfl
  | k + 1 => by
    show F_X5_wordIn_s3_23b g xa xe (F_X5_wordIn_s3_23 g xa xe k) = gw_b (lf_ch 3) ((5 : Nat) : Int) g xa xe (gw (lf_ch 3) ((5 : Nat) : Int) g xa xe k)
    rw [cl_wl_3 g xa xe k]
    rfl
theorem cl_w_3 {g : Nat → Int} {a e : Nat} {k : Int} : F_X5_wordIn_s3 g (a : Int) (e : Int) k = if k = 1 then wfind g a e ws_3 0 else -1 := by
  unfold F_X5_wordIn_s3
  rw [cl_wl_3]
  by_cases q : k = 1
  · rw [if_pos q, if_pos q]
    exact (gw_loop (B := wj ws_3) (by decide +kernel) ws_3_ch (by decide) 8 0 0 a true (by omega) (by omega) (by omega)).trans (wi_join ws_3 0 (fun r => by cases r) (by decide +kernel))
  · rw [if_neg q, if_neg q]
def ws_4 : List (List Int) := [[103, 114, 101, 101, 110]]
theorem ws_4_ch : ∀ k : Nat, k < 5 → lf_ch 4 (k : Int) = (wj ws_4).getD k 0 := by
  have h : (List.range 5).all (fun k => decide (lf_ch 4 ((k : Nat) : Int) = (wj ws_4).getD k 0)) = true := by decide +kernel
  intro k hk
  exact of_decide_eq_true (List.all_eq_true.mp h k (List.mem_range.mpr hk))
theorem cl_wl_4 (g : Nat → Int) (xa xe : Int) : ∀ k : Nat, F_X5_wordIn_s4_23 g xa xe k = gw (lf_ch 4) ((5 : Nat) : Int) g xa xe k
  | 0 => rfl
  | k + 1 => by
    show F_X5_wordIn_s4_23b g xa xe (F_X5_wordIn_s4_23 g xa xe k) = gw_b (lf_ch 4) ((5 : Nat) : Int) g xa xe (gw (lf_ch 4) ((5 : Nat) : Int) g xa xe k)
    rw [cl_wl_4 g xa xe k]
    rfl
theorem cl_w_4 {g : Nat → Int} {a e : Nat} {k : Int} : F_X5_wordIn_s4 g (a : Int) (e : Int) k = if k = 1 then wfind g a e ws_4 0 else -1 := by
  unfold F_X5_wordIn_s4
  rw [cl_wl_4]
  by_cases q : k = 1
  · rw [if_pos q, if_pos q]
    exact (gw_loop (B := wj ws_4) (by decide +kernel) ws_4_ch (by decide) 8 0 0 a true (by omega) (by omega) (by omega)).trans (wi_join ws_4 0 (fun r => by cases r) (by decide +kernel))
  · rw [if_neg q, if_neg q]
def ws_5 : List (List Int) := [[114, 117, 108, 101]]
theorem ws_5_ch : ∀ k : Nat, k < 4 → lf_ch 5 (k : Int) = (wj ws_5).getD k 0 := by
  have h : (List.range 4).all (fun k => decide (lf_ch 5 ((k : Nat) : Int) = (wj ws_5).getD k 0)) = true := by decide +kernel
  intro k hk
  exact of_decide_eq_true (List.all_eq_true.mp h k (List.mem_range.mpr hk))
theorem cl_wl_5 (g : Nat → Int) (xa xe : Int) : ∀ k : Nat, F_X5_wordIn_s5_23 g xa xe k = gw (lf_ch 5) ((4 : Nat) : Int) g xa xe k
  | 0 => rfl
  | k + 1 => by
    show F_X5_wordIn_s5_23b g xa xe (F_X5_wordIn_s5_23 g xa xe k) = gw_b (lf_ch 5) ((4 : Nat) : Int) g xa xe (gw (lf_ch 5) ((4 : Nat) : Int) g xa xe k)
    rw [cl_wl_5 g xa xe k]
    rfl
theorem cl_w_5 {g : Nat → Int} {a e : Nat} {k : Int} : F_X5_wordIn_s5 g (a : Int) (e : Int) k = if k = 1 then wfind g a e ws_5 0 else -1 := by
  unfold F_X5_wordIn_s5
  rw [cl_wl_5]
  by_cases q : k = 1
  · rw [if_pos q, if_pos q]
    exact (gw_loop (B := wj ws_5) (by decide +kernel) ws_5_ch (by decide) 7 0 0 a true (by omega) (by omega) (by omega)).trans (wi_join ws_5 0 (fun r => by cases r) (by decide +kernel))
  · rw [if_neg q, if_neg q]
def ws_6 : List (List Int) := [[108, 101, 97, 115, 116]]
theorem ws_6_ch : ∀ k : Nat, k < 5 → lf_ch 6 (k : Int) = (wj ws_6).getD k 0 := by
  have h : (List.range 5).all (fun k => decide (lf_ch 6 ((k : Nat) : Int) = (wj ws_6).getD k 0)) = true := by decide +kernel
  intro k hk
  exact of_decide_eq_true (List.all_eq_true.mp h k (List.mem_range.mpr hk))
theorem cl_wl_6 (g : Nat → Int) (xa xe : Int) : ∀ k : Nat, F_X5_wordIn_s6_23 g xa xe k = gw (lf_ch 6) ((5 : Nat) : Int) g xa xe k
  | 0 => rfl
  | k + 1 => by
    show F_X5_wordIn_s6_23b g xa xe (F_X5_wordIn_s6_23 g xa xe k) = gw_b (lf_ch 6) ((5 : Nat) : Int) g xa xe (gw (lf_ch 6) ((5 : Nat) : Int) g xa xe k)
    rw [cl_wl_6 g xa xe k]
    rfl
theorem cl_w_6 {g : Nat → Int} {a e : Nat} {k : Int} : F_X5_wordIn_s6 g (a : Int) (e : Int) k = if k = 1 then wfind g a e ws_6 0 else -1 := by
  unfold F_X5_wordIn_s6
  rw [cl_wl_6]
  by_cases q : k = 1
  · rw [if_pos q, if_pos q]
    exact (gw_loop (B := wj ws_6) (by decide +kernel) ws_6_ch (by decide) 8 0 0 a true (by omega) (by omega) (by omega)).trans (wi_join ws_6 0 (fun r => by cases r) (by decide +kernel))
  · rw [if_neg q, if_neg q]
def ws_7 : List (List Int) := [[99, 97, 108, 109]]
theorem ws_7_ch : ∀ k : Nat, k < 4 → lf_ch 7 (k : Int) = (wj ws_7).getD k 0 := by
  have h : (List.range 4).all (fun k => decide (lf_ch 7 ((k : Nat) : Int) = (wj ws_7).getD k 0)) = true := by decide +kernel
  intro k hk
  exact of_decide_eq_true (List.all_eq_true.mp h k (List.mem_range.mpr hk))
theorem cl_wl_7 (g : Nat → Int) (xa xe : Int) : ∀ k : Nat, F_X5_wordIn_s7_23 g xa xe k = gw (lf_ch 7) ((4 : Nat) : Int) g xa xe k
  | 0 => rfl
  | k + 1 => by
    show F_X5_wordIn_s7_23b g xa xe (F_X5_wordIn_s7_23 g xa xe k) = gw_b (lf_ch 7) ((4 : Nat) : Int) g xa xe (gw (lf_ch 7) ((4 : Nat) : Int) g xa xe k)
    rw [cl_wl_7 g xa xe k]
    rfl
theorem cl_w_7 {g : Nat → Int} {a e : Nat} {k : Int} : F_X5_wordIn_s7 g (a : Int) (e : Int) k = if k = 1 then wfind g a e ws_7 0 else -1 := by
  unfold F_X5_wordIn_s7
  rw [cl_wl_7]
  by_cases q : k = 1
  · rw [if_pos q, if_pos q]
    exact (gw_loop (B := wj ws_7) (by decide +kernel) ws_7_ch (by decide) 7 0 0 a true (by omega) (by omega) (by omega)).trans (wi_join ws_7 0 (fun r => by cases r) (by decide +kernel))
  · rw [if_neg q, if_neg q]
def ws_8 : List (List Int) := [[112, 97, 99, 101]]
theorem ws_8_ch : ∀ k : Nat, k < 4 → lf_ch 8 (k : Int) = (wj ws_8).getD k 0 := by
  have h : (List.range 4).all (fun k => decide (lf_ch 8 ((k : Nat) : Int) = (wj ws_8).getD k 0)) = true := by decide +kernel
  intro k hk
  exact of_decide_eq_true (List.all_eq_true.mp h k (List.mem_range.mpr hk))
theorem cl_wl_8 (g : Nat → Int) (xa xe : Int) : ∀ k : Nat, F_X5_wordIn_s8_23 g xa xe k = gw (lf_ch 8) ((4 : Nat) : Int) g xa xe k
  | 0 => rfl
  | k + 1 => by
    show F_X5_wordIn_s8_23b g xa xe (F_X5_wordIn_s8_23 g xa xe k) = gw_b (lf_ch 8) ((4 : Nat) : Int) g xa xe (gw (lf_ch 8) ((4 : Nat) : Int) g xa xe k)
    rw [cl_wl_8 g xa xe k]
    rfl
theorem cl_w_8 {g : Nat → Int} {a e : Nat} {k : Int} : F_X5_wordIn_s8 g (a : Int) (e : Int) k = if k = 1 then wfind g a e ws_8 0 else -1 := by
  unfold F_X5_wordIn_s8
  rw [cl_wl_8]
  by_cases q : k = 1
  · rw [if_pos q, if_pos q]
    exact (gw_loop (B := wj ws_8) (by decide +kernel) ws_8_ch (by decide) 7 0 0 a true (by omega) (by omega) (by omega)).trans (wi_join ws_8 0 (fun r => by cases r) (by decide +kernel))
  · rw [if_neg q, if_neg q]
def ws_9 : List (List Int) := [[116, 114, 117, 115, 116, 115]]
theorem ws_9_ch : ∀ k : Nat, k < 6 → lf_ch 9 (k : Int) = (wj ws_9).getD k 0 := by
  have h : (List.range 6).all (fun k => decide (lf_ch 9 ((k : Nat) : Int) = (wj ws_9).getD k 0)) = true := by decide +kernel
  intro k hk
  exact of_decide_eq_true (List.all_eq_true.mp h k (List.mem_range.mpr hk))
theorem cl_wl_9 (g : Nat → Int) (xa xe : Int) : ∀ k : Nat, F_X5_wordIn_s9_23 g xa xe k = gw (lf_ch 9) ((6 : Nat) : Int) g xa xe k
  | 0 => rfl
  | k + 1 => by
    show F_X5_wordIn_s9_23b g xa xe (F_X5_wordIn_s9_23 g xa xe k) = gw_b (lf_ch 9) ((6 : Nat) : Int) g xa xe (gw (lf_ch 9) ((6 : Nat) : Int) g xa xe k)
    rw [cl_wl_9 g xa xe k]
    rfl
theorem cl_w_9 {g : Nat → Int} {a e : Nat} {k : Int} : F_X5_wordIn_s9 g (a : Int) (e : Int) k = if k = 1 then wfind g a e ws_9 0 else -1 := by
  unfold F_X5_wordIn_s9
  rw [cl_wl_9]
  by_cases q : k = 1
  · rw [if_pos q, if_pos q]
    exact (gw_loop (B := wj ws_9) (by decide +kernel) ws_9_ch (by decide) 9 0 0 a true (by omega) (by omega) (by omega)).trans (wi_join ws_9 0 (fun r => by cases r) (by decide +kernel))
  · rw [if_neg q, if_neg q]
def ws_10 : List (List Int) := [[105, 115]]
theorem ws_10_ch : ∀ k : Nat, k < 2 → lf_ch 10 (k : Int) = (wj ws_10).getD k 0 := by
  have h : (List.range 2).all (fun k => decide (lf_ch 10 ((k : Nat) : Int) = (wj ws_10).getD k 0)) = true := by decide +kernel
  intro k hk
  exact of_decide_eq_true (List.all_eq_true.mp h k (List.mem_range.mpr hk))
theorem cl_wl_10 (g : Nat → Int) (xa xe : Int) : ∀ k : Nat, F_X5_wordIn_s10_23 g xa xe k = gw (lf_ch 10) ((2 : Nat) : Int) g xa xe k
  | 0 => rfl
  | k + 1 => by
    show F_X5_wordIn_s10_23b g xa xe (F_X5_wordIn_s10_23 g xa xe k) = gw_b (lf_ch 10) ((2 : Nat) : Int) g xa xe (gw (lf_ch 10) ((2 : Nat) : Int) g xa xe k)
    rw [cl_wl_10 g xa xe k]
    rfl
theorem cl_w_10 {g : Nat → Int} {a e : Nat} {k : Int} : F_X5_wordIn_s10 g (a : Int) (e : Int) k = if k = 1 then wfind g a e ws_10 0 else -1 := by
  unfold F_X5_wordIn_s10
  rw [cl_wl_10]
  by_cases q : k = 1
  · rw [if_pos q, if_pos q]
    exact (gw_loop (B := wj ws_10) (by decide +kernel) ws_10_ch (by decide) 5 0 0 a true (by omega) (by omega) (by omega)).trans (wi_join ws_10 0 (fun r => by cases r) (by decide +kernel))
  · rw [if_neg q, if_neg q]
def ws_11 : List (List Int) := [[97, 116]]
theorem ws_11_ch : ∀ k : Nat, k < 2 → lf_ch 11 (k : Int) = (wj ws_11).getD k 0 := by
  have h : (List.range 2).all (fun k => decide (lf_ch 11 ((k : Nat) : Int) = (wj ws_11).getD k 0)) = true := by decide +kernel
  intro k hk
  exact of_decide_eq_true (List.all_eq_true.mp h k (List.mem_range.mpr hk))
theorem cl_wl_11 (g : Nat → Int) (xa xe : Int) : ∀ k : Nat, F_X5_wordIn_s11_23 g xa xe k = gw (lf_ch 11) ((2 : Nat) : Int) g xa xe k
  | 0 => rfl
  | k + 1 => by
    show F_X5_wordIn_s11_23b g xa xe (F_X5_wordIn_s11_23 g xa xe k) = gw_b (lf_ch 11) ((2 : Nat) : Int) g xa xe (gw (lf_ch 11) ((2 : Nat) : Int) g xa xe k)
    rw [cl_wl_11 g xa xe k]
    rfl
theorem cl_w_11 {g : Nat → Int} {a e : Nat} {k : Int} : F_X5_wordIn_s11 g (a : Int) (e : Int) k = if k = 1 then wfind g a e ws_11 0 else -1 := by
  unfold F_X5_wordIn_s11
  rw [cl_wl_11]
  by_cases q : k = 1
  · rw [if_pos q, if_pos q]
    exact (gw_loop (B := wj ws_11) (by decide +kernel) ws_11_ch (by decide) 5 0 0 a true (by omega) (by omega) (by omega)).trans (wi_join ws_11 0 (fun r => by cases r) (by decide +kernel))
  · rw [if_neg q, if_neg q]
def ws_12 : List (List Int) := [[99, 121, 99, 108, 101], [103, 114, 101, 101, 110], [114, 117, 108, 101], [108, 101, 97, 115, 116], [107, 105, 110, 100], [99, 97, 108, 109], [112, 97, 99, 101], [116, 114, 117, 115, 116, 115], [99, 111, 109, 101, 115], [105, 115], [97, 116], [99, 97, 114], [114, 101, 100], [108, 101, 97, 114, 110, 115], [97, 119, 97, 121], [115, 101, 99, 111, 110, 100], [100, 97, 121], [112, 104, 97, 115, 101], [119, 97, 105, 116, 101, 100], [103, 97, 112], [114, 101, 100, 115], [110, 117, 109, 98, 101, 114], [119, 101, 110, 116], [104, 97, 114, 109], [111, 114], [97, 110, 100], [110, 111, 116], [97, 108, 108], [109, 105, 110], [109, 97, 120]]
theorem ws_12_ch : ∀ k : Nat, k < 149 → lf_ch 12 (k : Int) = (wj ws_12).getD k 0 := by
  have h : (List.range 149).all (fun k => decide (lf_ch 12 ((k : Nat) : Int) = (wj ws_12).getD k 0)) = true := by decide +kernel
  intro k hk
  exact of_decide_eq_true (List.all_eq_true.mp h k (List.mem_range.mpr hk))
theorem cl_wl_12 (g : Nat → Int) (xa xe : Int) : ∀ k : Nat, F_X5_wordIn_s12_23 g xa xe k = gw (lf_ch 12) ((149 : Nat) : Int) g xa xe k
  | 0 => rfl
  | k + 1 => by
    show F_X5_wordIn_s12_23b g xa xe (F_X5_wordIn_s12_23 g xa xe k) = gw_b (lf_ch 12) ((149 : Nat) : Int) g xa xe (gw (lf_ch 12) ((149 : Nat) : Int) g xa xe k)
    rw [cl_wl_12 g xa xe k]
    rfl
theorem cl_w_12 {g : Nat → Int} {a e : Nat} {k : Int} : F_X5_wordIn_s12 g (a : Int) (e : Int) k = if k = 1 then wfind g a e ws_12 0 else -1 := by
  unfold F_X5_wordIn_s12
  rw [cl_wl_12]
  by_cases q : k = 1
  · rw [if_pos q, if_pos q]
    exact (gw_loop (B := wj ws_12) (by decide +kernel) ws_12_ch (by decide) 152 0 0 a true (by omega) (by omega) (by omega)).trans (wi_join ws_12 0 (fun r => by cases r) (by decide +kernel))
  · rw [if_neg q, if_neg q]
def ws_13 : List (List Int) := [[111, 114]]
theorem ws_13_ch : ∀ k : Nat, k < 2 → lf_ch 13 (k : Int) = (wj ws_13).getD k 0 := by
  have h : (List.range 2).all (fun k => decide (lf_ch 13 ((k : Nat) : Int) = (wj ws_13).getD k 0)) = true := by decide +kernel
  intro k hk
  exact of_decide_eq_true (List.all_eq_true.mp h k (List.mem_range.mpr hk))
theorem cl_wl_13 (g : Nat → Int) (xa xe : Int) : ∀ k : Nat, F_X5_wordIn_s13_23 g xa xe k = gw (lf_ch 13) ((2 : Nat) : Int) g xa xe k
  | 0 => rfl
  | k + 1 => by
    show F_X5_wordIn_s13_23b g xa xe (F_X5_wordIn_s13_23 g xa xe k) = gw_b (lf_ch 13) ((2 : Nat) : Int) g xa xe (gw (lf_ch 13) ((2 : Nat) : Int) g xa xe k)
    rw [cl_wl_13 g xa xe k]
    rfl
theorem cl_w_13 {g : Nat → Int} {a e : Nat} {k : Int} : F_X5_wordIn_s13 g (a : Int) (e : Int) k = if k = 1 then wfind g a e ws_13 0 else -1 := by
  unfold F_X5_wordIn_s13
  rw [cl_wl_13]
  by_cases q : k = 1
  · rw [if_pos q, if_pos q]
    exact (gw_loop (B := wj ws_13) (by decide +kernel) ws_13_ch (by decide) 5 0 0 a true (by omega) (by omega) (by omega)).trans (wi_join ws_13 0 (fun r => by cases r) (by decide +kernel))
  · rw [if_neg q, if_neg q]
def ws_14 : List (List Int) := [[97, 110, 100]]
theorem ws_14_ch : ∀ k : Nat, k < 3 → lf_ch 14 (k : Int) = (wj ws_14).getD k 0 := by
  have h : (List.range 3).all (fun k => decide (lf_ch 14 ((k : Nat) : Int) = (wj ws_14).getD k 0)) = true := by decide +kernel
  intro k hk
  exact of_decide_eq_true (List.all_eq_true.mp h k (List.mem_range.mpr hk))
theorem cl_wl_14 (g : Nat → Int) (xa xe : Int) : ∀ k : Nat, F_X5_wordIn_s14_23 g xa xe k = gw (lf_ch 14) ((3 : Nat) : Int) g xa xe k
  | 0 => rfl
  | k + 1 => by
    show F_X5_wordIn_s14_23b g xa xe (F_X5_wordIn_s14_23 g xa xe k) = gw_b (lf_ch 14) ((3 : Nat) : Int) g xa xe (gw (lf_ch 14) ((3 : Nat) : Int) g xa xe k)
    rw [cl_wl_14 g xa xe k]
    rfl
theorem cl_w_14 {g : Nat → Int} {a e : Nat} {k : Int} : F_X5_wordIn_s14 g (a : Int) (e : Int) k = if k = 1 then wfind g a e ws_14 0 else -1 := by
  unfold F_X5_wordIn_s14
  rw [cl_wl_14]
  by_cases q : k = 1
  · rw [if_pos q, if_pos q]
    exact (gw_loop (B := wj ws_14) (by decide +kernel) ws_14_ch (by decide) 6 0 0 a true (by omega) (by omega) (by omega)).trans (wi_join ws_14 0 (fun r => by cases r) (by decide +kernel))
  · rw [if_neg q, if_neg q]
def ws_15 : List (List Int) := [[110, 111, 116]]
theorem ws_15_ch : ∀ k : Nat, k < 3 → lf_ch 15 (k : Int) = (wj ws_15).getD k 0 := by
  have h : (List.range 3).all (fun k => decide (lf_ch 15 ((k : Nat) : Int) = (wj ws_15).getD k 0)) = true := by decide +kernel
  intro k hk
  exact of_decide_eq_true (List.all_eq_true.mp h k (List.mem_range.mpr hk))
theorem cl_wl_15 (g : Nat → Int) (xa xe : Int) : ∀ k : Nat, F_X5_wordIn_s15_23 g xa xe k = gw (lf_ch 15) ((3 : Nat) : Int) g xa xe k
  | 0 => rfl
  | k + 1 => by
    show F_X5_wordIn_s15_23b g xa xe (F_X5_wordIn_s15_23 g xa xe k) = gw_b (lf_ch 15) ((3 : Nat) : Int) g xa xe (gw (lf_ch 15) ((3 : Nat) : Int) g xa xe k)
    rw [cl_wl_15 g xa xe k]
    rfl
theorem cl_w_15 {g : Nat → Int} {a e : Nat} {k : Int} : F_X5_wordIn_s15 g (a : Int) (e : Int) k = if k = 1 then wfind g a e ws_15 0 else -1 := by
  unfold F_X5_wordIn_s15
  rw [cl_wl_15]
  by_cases q : k = 1
  · rw [if_pos q, if_pos q]
    exact (gw_loop (B := wj ws_15) (by decide +kernel) ws_15_ch (by decide) 6 0 0 a true (by omega) (by omega) (by omega)).trans (wi_join ws_15 0 (fun r => by cases r) (by decide +kernel))
  · rw [if_neg q, if_neg q]
def ws_16 : List (List Int) := [[97, 108, 108]]
theorem ws_16_ch : ∀ k : Nat, k < 3 → lf_ch 16 (k : Int) = (wj ws_16).getD k 0 := by
  have h : (List.range 3).all (fun k => decide (lf_ch 16 ((k : Nat) : Int) = (wj ws_16).getD k 0)) = true := by decide +kernel
  intro k hk
  exact of_decide_eq_true (List.all_eq_true.mp h k (List.mem_range.mpr hk))
theorem cl_wl_16 (g : Nat → Int) (xa xe : Int) : ∀ k : Nat, F_X5_wordIn_s16_23 g xa xe k = gw (lf_ch 16) ((3 : Nat) : Int) g xa xe k
  | 0 => rfl
  | k + 1 => by
    show F_X5_wordIn_s16_23b g xa xe (F_X5_wordIn_s16_23 g xa xe k) = gw_b (lf_ch 16) ((3 : Nat) : Int) g xa xe (gw (lf_ch 16) ((3 : Nat) : Int) g xa xe k)
    rw [cl_wl_16 g xa xe k]
    rfl
theorem cl_w_16 {g : Nat → Int} {a e : Nat} {k : Int} : F_X5_wordIn_s16 g (a : Int) (e : Int) k = if k = 1 then wfind g a e ws_16 0 else -1 := by
  unfold F_X5_wordIn_s16
  rw [cl_wl_16]
  by_cases q : k = 1
  · rw [if_pos q, if_pos q]
    exact (gw_loop (B := wj ws_16) (by decide +kernel) ws_16_ch (by decide) 6 0 0 a true (by omega) (by omega) (by omega)).trans (wi_join ws_16 0 (fun r => by cases r) (by decide +kernel))
  · rw [if_neg q, if_neg q]
def ws_17 : List (List Int) := [[109, 105, 110]]
theorem ws_17_ch : ∀ k : Nat, k < 3 → lf_ch 17 (k : Int) = (wj ws_17).getD k 0 := by
  have h : (List.range 3).all (fun k => decide (lf_ch 17 ((k : Nat) : Int) = (wj ws_17).getD k 0)) = true := by decide +kernel
  intro k hk
  exact of_decide_eq_true (List.all_eq_true.mp h k (List.mem_range.mpr hk))
theorem cl_wl_17 (g : Nat → Int) (xa xe : Int) : ∀ k : Nat, F_X5_wordIn_s17_23 g xa xe k = gw (lf_ch 17) ((3 : Nat) : Int) g xa xe k
  | 0 => rfl
  | k + 1 => by
    show F_X5_wordIn_s17_23b g xa xe (F_X5_wordIn_s17_23 g xa xe k) = gw_b (lf_ch 17) ((3 : Nat) : Int) g xa xe (gw (lf_ch 17) ((3 : Nat) : Int) g xa xe k)
    rw [cl_wl_17 g xa xe k]
    rfl
theorem cl_w_17 {g : Nat → Int} {a e : Nat} {k : Int} : F_X5_wordIn_s17 g (a : Int) (e : Int) k = if k = 1 then wfind g a e ws_17 0 else -1 := by
  unfold F_X5_wordIn_s17
  rw [cl_wl_17]
  by_cases q : k = 1
  · rw [if_pos q, if_pos q]
    exact (gw_loop (B := wj ws_17) (by decide +kernel) ws_17_ch (by decide) 6 0 0 a true (by omega) (by omega) (by omega)).trans (wi_join ws_17 0 (fun r => by cases r) (by decide +kernel))
  · rw [if_neg q, if_neg q]
def ws_18 : List (List Int) := [[109, 97, 120]]
theorem ws_18_ch : ∀ k : Nat, k < 3 → lf_ch 18 (k : Int) = (wj ws_18).getD k 0 := by
  have h : (List.range 3).all (fun k => decide (lf_ch 18 ((k : Nat) : Int) = (wj ws_18).getD k 0)) = true := by decide +kernel
  intro k hk
  exact of_decide_eq_true (List.all_eq_true.mp h k (List.mem_range.mpr hk))
theorem cl_wl_18 (g : Nat → Int) (xa xe : Int) : ∀ k : Nat, F_X5_wordIn_s18_23 g xa xe k = gw (lf_ch 18) ((3 : Nat) : Int) g xa xe k
  | 0 => rfl
  | k + 1 => by
    show F_X5_wordIn_s18_23b g xa xe (F_X5_wordIn_s18_23 g xa xe k) = gw_b (lf_ch 18) ((3 : Nat) : Int) g xa xe (gw (lf_ch 18) ((3 : Nat) : Int) g xa xe k)
    rw [cl_wl_18 g xa xe k]
    rfl
theorem cl_w_18 {g : Nat → Int} {a e : Nat} {k : Int} : F_X5_wordIn_s18 g (a : Int) (e : Int) k = if k = 1 then wfind g a e ws_18 0 else -1 := by
  unfold F_X5_wordIn_s18
  rw [cl_wl_18]
  by_cases q : k = 1
  · rw [if_pos q, if_pos q]
    exact (gw_loop (B := wj ws_18) (by decide +kernel) ws_18_ch (by decide) 6 0 0 a true (by omega) (by omega) (by omega)).trans (wi_join ws_18 0 (fun r => by cases r) (by decide +kernel))
  · rw [if_neg q, if_neg q]
def ws_19 : List (List Int) := [[107, 105, 110, 100]]
theorem ws_19_ch : ∀ k : Nat, k < 4 → lf_ch 19 (k : Int) = (wj ws_19).getD k 0 := by
  have h : (List.range 4).all (fun k => decide (lf_ch 19 ((k : Nat) : Int) = (wj ws_19).getD k 0)) = true := by decide +kernel
  intro k hk
  exact of_decide_eq_true (List.all_eq_true.mp h k (List.mem_range.mpr hk))
theorem cl_wl_19 (g : Nat → Int) (xa xe : Int) : ∀ k : Nat, F_X5_wordIn_s19_23 g xa xe k = gw (lf_ch 19) ((4 : Nat) : Int) g xa xe k
  | 0 => rfl
  | k + 1 => by
    show F_X5_wordIn_s19_23b g xa xe (F_X5_wordIn_s19_23 g xa xe k) = gw_b (lf_ch 19) ((4 : Nat) : Int) g xa xe (gw (lf_ch 19) ((4 : Nat) : Int) g xa xe k)
    rw [cl_wl_19 g xa xe k]
    rfl
theorem cl_w_19 {g : Nat → Int} {a e : Nat} {k : Int} : F_X5_wordIn_s19 g (a : Int) (e : Int) k = if k = 1 then wfind g a e ws_19 0 else -1 := by
  unfold F_X5_wordIn_s19
  rw [cl_wl_19]
  by_cases q : k = 1
  · rw [if_pos q, if_pos q]
    exact (gw_loop (B := wj ws_19) (by decide +kernel) ws_19_ch (by decide) 7 0 0 a true (by omega) (by omega) (by omega)).trans (wi_join ws_19 0 (fun r => by cases r) (by decide +kernel))
  · rw [if_neg q, if_neg q]
def ws_20 : List (List Int) := [[115, 101, 99, 111, 110, 100], [100, 97, 121], [112, 104, 97, 115, 101], [119, 97, 105, 116, 101, 100], [99, 97, 108, 109], [112, 97, 99, 101], [116, 114, 117, 115, 116, 115], [103, 97, 112], [114, 101, 100, 115], [110, 117, 109, 98, 101, 114], [119, 101, 110, 116], [104, 97, 114, 109]]
theorem ws_20_ch : ∀ k : Nat, k < 66 → lf_ch 20 (k : Int) = (wj ws_20).getD k 0 := by
  have h : (List.range 66).all (fun k => decide (lf_ch 20 ((k : Nat) : Int) = (wj ws_20).getD k 0)) = true := by decide +kernel
  intro k hk
  exact of_decide_eq_true (List.all_eq_true.mp h k (List.mem_range.mpr hk))
theorem cl_wl_20 (g : Nat → Int) (xa xe : Int) : ∀ k : Nat, F_X5_wordIn_s20_23 g xa xe k = gw (lf_ch 20) ((66 : Nat) : Int) g xa xe k
  | 0 => rfl
  | k + 1 => by
    show F_X5_wordIn_s20_23b g xa xe (F_X5_wordIn_s20_23 g xa xe k) = gw_b (lf_ch 20) ((66 : Nat) : Int) g xa xe (gw (lf_ch 20) ((66 : Nat) : Int) g xa xe k)
    rw [cl_wl_20 g xa xe k]
    rfl
theorem cl_w_20 {g : Nat → Int} {a e : Nat} {k : Int} : F_X5_wordIn_s20 g (a : Int) (e : Int) k = if k = 1 then wfind g a e ws_20 0 else -1 := by
  unfold F_X5_wordIn_s20
  rw [cl_wl_20]
  by_cases q : k = 1
  · rw [if_pos q, if_pos q]
    exact (gw_loop (B := wj ws_20) (by decide +kernel) ws_20_ch (by decide) 69 0 0 a true (by omega) (by omega) (by omega)).trans (wi_join ws_20 0 (fun r => by cases r) (by decide +kernel))
  · rw [if_neg q, if_neg q]
end
section
/-! 24 -/
/-! a reader's state: a fault and its place, or where the last token ended -/
abbrev ST : Type := Sum (Int × Int) Nat
def sb (s : ST) (k : Nat → ST) : ST := match s with
  | .inl q => .inl q
  | .inr p => k p
/-- what the class holds of it: at, behind, sort, fault, place -/
def cst (g : Nat → Int) (n : Nat) : ST → Int × Int × Int × Int × Int
  | .inl q => ((n : Int), (n : Int), (0 : Int), q.1, q.2)
  | .inr p => ((tx_a g n p : Int), (tx_e g n p : Int), (tx_k g n p : Int), (0 : Int), (-1 : Int))
def sv (n : Nat) : ST → Prop
  | .inl q => ¬ q.1 = 0
  | .inr p => p ≤ n
theorem sv_l {n : Nat} {c x : Int} (h : ¬ c = 0) : sv n (.inl (c, x)) := h
theorem sv_sb {n : Nat} {s : ST} {k : Nat → ST} (h : sv n s) (hk : ∀ p, p ≤ n → sv n (k p)) : sv n (sb s k) := by
  cases s with
  | inl q => exact h
  | inr p => exact hk p h
theorem cl_fail0 (c pl : Int) : F_X5_fail (0 : Int) (-1 : Int) c pl = (c, pl) := rfl
theorem cl_fail1 {f : Int} (h : ¬ f = 0) (q c pl : Int) : F_X5_fail f q c pl = (f, q) := by
  unfold F_X5_fail F_X5_fail_17
  rw [if_neg h]
theorem cl_mvn {g : Nat → Int} {n : Nat} (hn : n ≤ 1600) : F_X5_moveTo g (n : Int) (n : Int) = ((n : Int), (n : Int), (0 : Int)) := by
  rw [cl_mv hn (Nat.le_refl n), tx_a_n, tx_e_n, tx_k_n]
  rfl
theorem cl_mve {g : Nat → Int} {n p : Nat} (hn : n ≤ 1600) (hp : p ≤ n) : F_X5_moveTo g (n : Int) (tx_e g n p : Int) = ((tx_a g n (tx_e g n p) : Int), (tx_e g n (tx_e g n p) : Int), (tx_k g n (tx_e g n p) : Int)) := cl_mv hn (tx_e_le hp)
/-- a sign -/
def tsn (g : Nat → Int) (n : Nat) (c : Int) (p : Nat) : Prop := tx_k g n p = 3 ∧ g (tx_a g n p) = c
theorem cl_see1 {g : Nat → Int} {n p : Nat} {c : Int} (h : tsn g n c p) : F_X5_sees g (tx_a g n p : Int) (tx_k g n p : Int) c = 1 := by
  unfold F_X5_sees
  rw [Int.toNat_natCast, if_pos (by have := h.1; omega), if_pos h.2]
theorem cl_see0 {g : Nat → Int} {n p : Nat} {c : Int} (h : ¬ tsn g n c p) : F_X5_sees g (tx_a g n p : Int) (tx_k g n p : Int) c = 0 := by
  unfold F_X5_sees F_X5_sees_25
  rw [Int.toNat_natCast]
  by_cases q : tx_k g n p = 3
  · rw [if_pos (by omega), if_neg (fun r => h ⟨q, r⟩)]
  · rw [if_neg (by omega)]
theorem cl_seen (g : Nat → Int) (x c : Int) : F_X5_sees g x (0 : Int) c = 0 := by
  unfold F_X5_sees F_X5_sees_25
  rw [if_neg (by decide)]
def sp_need (g : Nat → Int) (n : Nat) (c : Int) (p : Nat) : ST := if tx_k g n p = 3 ∧ g (tx_a g n p) = c then .inr (tx_e g n p) else .inl (1, (tx_a g n p : Int))
theorem sp_need_v {g : Nat → Int} {n p : Nat} (c : Int) (hp : p ≤ n) : sv n (sp_need g n c p) := by
  unfold sp_need
  split
  · exact tx_e_le hp
  · exact sv_l (by decide)
theorem cl_need1 {g : Nat → Int} {n p : Nat} (hn : n ≤ 1600) (hp : p ≤ n) (c : Int) : F_X5_need g (n : Int) (tx_a g n p : Int) (tx_e g n p : Int) (tx_k g n p : Int) (0 : Int) (-1 : Int) c = cst g n (sp_need g n c p) := by
  unfold F_X5_need
  repeat rw [lf_b_e]
  by_cases q : tsn g n c p
  · rw [cl_see1 q, if_neg (by decide), cl_mve hn hp, show sp_need g n c p = .inr (tx_e g n p) from if_pos q]
    rfl
  · rw [cl_see0 q, if_pos rfl, cl_fail0, show sp_need g n c p = .inl (1, (tx_a g n p : Int)) from if_neg q]
    rfl
theorem cl_need0 {g : Nat → Int} {n : Nat} {f q : Int} (h : ¬ f = 0) (c : Int) : F_X5_need g (n : Int) (n : Int) (n : Int) (0 : Int) f q c = cst g n (.inl (f, q)) := by
  unfold F_X5_need
  repeat rw [lf_b_e]
  rw [cl_seen, if_pos rfl, cl_fail1 h]
  rfl
/-- a word of a list is asked -/
def gW (r : Int) (g : Nat → Int) (n a e f q : Int) : Int × Int × Int × Int × Int := if r = (-1 : Int) then (lf_p (F_X5_fail f q (1 : Int) a) (fun x y => (n, n, (0 : Int), x, y))) else (lf_p (F_X5_moveTo g n e) (fun x t => (lf_p t (fun y z => (x, y, z, f, q)))))
def wl (g : Nat → Int) (n : Nat) (ws : List (List Int)) (p : Nat) : Int := if tx_k g n p = 1 then wfind g (tx_a g n p) (tx_e g n p) ws 0 else -1
def sp_w (g : Nat → Int) (n : Nat) (ws : List (List Int)) (p : Nat) : ST := if wl g n ws p = -1 then .inl (1, (tx_a g n p : Int)) else .inr (tx_e g n p)
theorem sp_w_v {g : Nat → Int} {n p : Nat} (ws : List (List Int)) (hp : p ≤ n) : sv n (sp_w g n ws p) := by
  unfold sp_w
  split
  · exact sv_l (by decide)
  · exact tx_e_le hp
theorem gW_1 {g : Nat → Int} {n p : Nat} (hn : n ≤ 1600) (hp : p ≤ n) (ws : List (List Int)) : gW (wl g n ws p) g (n : Int) (tx_a g n p : Int) (tx_e g n p : Int) (0 : Int) (-1 : Int) = cst g n (sp_w g n ws p) := by
  unfold gW
  by_cases q : wl g n ws p = -1
  · rw [if_pos q, cl_fail0, show sp_w g n ws p = .inl (1, (tx_a g n p : Int)) from if_pos q]
    rfl
  · rw [if_neg q, cl_mve hn hp, show sp_w g n ws p = .inr (tx_e g n p) from if_neg q]
    rfl
theorem gW_0 {g : Nat → Int} {n : Nat} {f q : Int} (h : ¬ f = 0) : gW (-1) g (n : Int) (n : Int) (n : Int) f q = cst g n (.inl (f, q)) := by
  unfold gW
  rw [if_pos rfl, cl_fail1 h]
  rfl
theorem wl_c {g : Nat → Int} {n p : Nat} {ws : List (List Int)} : (if (tx_k g n p : Int) = 1 then wfind g (tx_a g n p) (tx_e g n p) ws 0 else -1) = wl g n ws p := by
  unfold wl
  by_cases q : tx_k g n p = 1
  · rw [if_pos (by omega), if_pos q]
  · rw [if_neg (by omega), if_neg q]
/-- a number -/
def dval (g : Nat → Int) : Nat → Nat → Int → Int
  | 0, _, v => v
  | k + 1, a, v => dval g k (a + 1) (v * 10 + g a - 48)
def gn_94 (n a f q lo : Int) : Int × Int × Int × Int × Int × Int := lf_p (F_X5_fail f q (2 : Int) a) (fun x y => (lo, n, n, (0 : Int), x, y))
def gn_f (g : Nat → Int) (n a e f q lo hi v : Int) : Int × Int × Int × Int × Int × Int := if v < lo then gn_94 n a f q lo else if v ≤ hi then (lf_p (F_X5_moveTo g n e) (fun x t => (lf_p t (fun y z => (v, x, y, z, f, q))))) else gn_94 n a f q lo
def gn_b (g : Nat → Int) (n a e f q lo hi : Int) (K : Int → Int → Int × Int × Int × Int × Int × Int) (v j : Int) : Int × Int × Int × Int × Int × Int := if e ≤ j then gn_f g n a e f q lo hi v else K (lf_o lf_isub (lf_o lf_iadd (lf_o lf_imul v (10 : Int)) (g (Int.toNat j))) (48 : Int)) (j + (1 : Int))
def gn (g : Nat → Int) (n a e f q lo hi : Int) : Nat → Int → Int → Int × Int × Int × Int × Int × Int
  | 0 => fun _ _ => ((0 : Int), (0 : Int), (0 : Int), (0 : Int), (0 : Int), (0 : Int))
  | k + 1 => gn_b g n a e f q lo hi (gn g n a e f q lo hi k)
def gN (g : Nat → Int) (n a e k f q lo hi : Int) : Int × Int × Int × Int × Int × Int := if k = (2 : Int) then (if (e - a) ≤ (4 : Int) then gn g n a e f q lo hi 1602 (0 : Int) a else (lf_p (F_X5_fail f q (1 : Int) (a + (4 : Int))) (fun x y => (lo, n, n, (0 : Int), x, y)))) else (lf_p (F_X5_fail f q (1 : Int) a) (fun x y => (lo, n, n, (0 : Int), x, y)))
def bd10 : Nat → Int
  | 0 => 10000
  | 1 => 1000
  | 2 => 100
  | 3 => 10
  | _ => 1
theorem gn_st {v d : Int} (h1 : 0 ≤ v) (h2 : v ≤ 99999) (h3 : 48 ≤ d) (h4 : d ≤ 57) : lf_o lf_isub (lf_o lf_iadd (lf_o lf_imul v (10 : Int)) d) (48 : Int) = v * 10 + d - 48 := by
  rw [lo_mul (by omega) (by omega) (by omega) (by omega) (by omega) (by omega), lo_add (by omega) (by omega) (by omega) (by omega) (by omega) (by omega), lo_sub (by omega) (by omega) (by omega) (by omega) (by omega) (by omega)]
theorem bd10_s {r : Nat} {v d : Int} (hr : r + 1 ≤ 4) (h0 : 0 ≤ v) (h1 : v < bd10 (r + 1)) (h3 : 48 ≤ d) (h4 : d ≤ 57) : v ≤ 99999 ∧ 0 ≤ v * 10 + d - 48 ∧ v * 10 + d - 48 < bd10 r := by
  rcases (by omega : r = 0 ∨ r = 1 ∨ r = 2 ∨ r = 3) with e | e | e | e
  · subst e
    have e1 : bd10 (0 + 1) = 1000 := rfl
    have e0 : bd10 0 = 10000 := rfl
    rw [e1] at h1
    rw [e0]
    omega
  · subst e
    have e1 : bd10 (1 + 1) = 100 := rfl
    have e0 : bd10 1 = 1000 := rfl
    rw [e1] at h1
    rw [e0]
    omega
  · subst e
    have e1 : bd10 (2 + 1) = 10 := rfl
    have e0 : bd10 2 = 100 := rfl
    rw [e1] at h1
    rw [e0]
    omega
  · subst e
    have e1 : bd10 (3 + 1) = 1 := rfl
    have e0 : bd10 3 = 10 := rfl
    rw [e1] at h1
    rw [e0]
    omega
theorem gn_loop {g : Nat → Int} {n f q lo hi : Int} {a e : Nat} (he : e ≤ 1600) (hd : ∀ k, a ≤ k → k < e → 48 ≤ g k ∧ g k ≤ 57) : ∀ (k j : Nat) (v : Int), a ≤ j → j ≤ e → e - j ≤ 4 → e - j < k → 0 ≤ v → v < bd10 (e - j) → gn g n (a : Int) (e : Int) f q lo hi k v (j : Int) = gn_f g n (a : Int) (e : Int) f q lo hi (dval g (e - j) j v) := by
  intro k
  induction k with
  | zero => intro j v h1 h2 h3 h4; omega
  | succ k ih =>
    intro j v h1 h2 h3 h4 h5 h6
    show gn_b g n (a : Int) (e : Int) f q lo hi (gn g n (a : Int) (e : Int) f q lo hi k) v (j : Int) = _
    unfold gn_b
    by_cases c : j = e
    · rw [if_pos (by omega), show e - j = 0 from by omega]
      rfl
    · have hj := hd j h1 (by omega)
      obtain ⟨r, hr⟩ : ∃ r, e - j = r + 1 := ⟨e - j - 1, by omega⟩
      rw [hr] at h6
      obtain ⟨b1, b2, b3⟩ := bd10_s (by omega) h5 h6 hj.1 hj.2
      rw [if_neg (by omega), Int.toNat_natCast, gn_st h5 b1 hj.1 hj.2, show (j : Int) + (1 : Int) = ((j + 1 : Nat) : Int) from by omega, ih (j + 1) _ (by omega) (by omega) (by omega) (by omega) b2 (by rw [show e - (j + 1) = r from by omega]; exact b3), hr, show e - (j + 1) = r from by omega]
      rfl
def sp_num (g : Nat → Int) (n : Nat) (lo hi : Int) (p : Nat) : Int × ST := if tx_k g n p = 2 then (if tx_e g n p - tx_a g n p ≤ 4 then (if dval g (tx_e g n p - tx_a g n p) (tx_a g n p) 0 < lo ∨ hi < dval g (tx_e g n p - tx_a g n p) (tx_a g n p) 0 then (lo, .inl (2, (tx_a g n p : Int))) else (dval g (tx_e g n p - tx_a g n p) (tx_a g n p) 0, .inr (tx_e g n p))) else (lo, .inl (1, (tx_a g n p : Int) + 4))) else (lo, .inl (1, (tx_a g n p : Int)))
/-- bytes of a token are of its sort -/
theorem tx_e_in {g : Nat → Int} {n p s : Nat} (hk : tx_k g n p = s) (h1 : s = 1 ∨ s = 2) : tx_a g n p < tx_e g n p ∧ ∀ k, tx_a g n p ≤ k → k < tx_e g n p → tx_so g n k = s := by
  have hs : tx_so g n (tx_a g n p) = s := by
    unfold tx_k at hk
    split at hk
    · omega
    · exact hk
  have e : tx_e g n p = tx_run (tx_s g n (tx_so g n (tx_a g n p))) n (tx_a g n p + 1) := by
    unfold tx_e
    rw [if_neg (by omega), if_neg (by omega)]
  have ge := tx_run_ge (tx_s g n (tx_so g n (tx_a g n p))) n (tx_a g n p + 1)
  refine ⟨by omega, fun k h2 h3 => ?_⟩
  by_cases c : k = tx_a g n p
  · rw [c]
    exact hs
  · rw [e] at h3
    have := of_decide_eq_true (tx_run_in (P := tx_s g n (tx_so g n (tx_a g n p))) (i := tx_a g n p + 1) (by omega) h3)
    omega
theorem tx_so_2 {g : Nat → Int} {n k : Nat} (h : tx_so g n k = 2) : k < n ∧ 48 ≤ g k ∧ g k ≤ 57 := by
  unfold tx_so at h
  split at h
  · omega
  · split at h
    · omega
    · split at h
      · omega
      · omega
theorem tx_so_1 {g : Nat → Int} {n k : Nat} (h : tx_so g n k = 1) : k < n ∧ 97 ≤ g k ∧ g k ≤ 122 := by
  unfold tx_so at h
  split at h
  · omega
  · split at h
    · omega
    · split at h
      · omega
      · omega
theorem sp_num_v {g : Nat → Int} {n p : Nat} (lo hi : Int) (hp : p ≤ n) : sv n (sp_num g n lo hi p).2 := by
  unfold sp_num
  split
  · split
    · split
      · exact sv_l (by decide)
      · exact tx_e_le hp
    · exact sv_l (by decide)
  · exact sv_l (by decide)
theorem gN_1 {g : Nat → Int} {n p : Nat} (hn : n ≤ 1600) (hp : p ≤ n) (lo hi : Int) : gN g (n : Int) (tx_a g n p : Int) (tx_e g n p : Int) (tx_k g n p : Int) (0 : Int) (-1 : Int) lo hi = ((sp_num g n lo hi p).1, cst g n (sp_num g n lo hi p).2) := by
  have he := tx_e_le (f := g) hp
  unfold gN sp_num
  by_cases q : tx_k g n p = 2
  · have h9 := tx_e_in q (Or.inr rfl)
    rw [if_pos (by omega), if_pos q]
    by_cases q2 : tx_e g n p - tx_a g n p ≤ 4
    · rw [if_pos (by omega), if_pos q2, gn_loop (by omega) (fun k h1 h2 => (tx_so_2 (h9.2 k h1 h2)).2) 1602 (tx_a g n p) 0 (Nat.le_refl _) (by omega) q2 (by omega) (by omega) (by
        rcases (by omega : tx_e g n p - tx_a g n p = 0 ∨ tx_e g n p - tx_a g n p = 1 ∨ tx_e g n p - tx_a g n p = 2 ∨ tx_e g n p - tx_a g n p = 3 ∨ tx_e g n p - tx_a g n p = 4) with e | e | e | e | e <;> (rw [e]; decide))]
      generalize dval g (tx_e g n p - tx_a g n p) (tx_a g n p) 0 = v
      unfold gn_f gn_94
      rw [cl_fail0, cl_mve hn hp]
      by_cases q3 : v < lo
      · rw [if_pos q3, if_pos (Or.inl q3)]
        rfl
      · by_cases q4 : v ≤ hi
        · rw [if_neg q3, if_pos q4, if_neg (by omega)]
          rfl
        · rw [if_neg q3, if_neg q4, if_pos (Or.inr (by omega))]
          rfl
    · rw [if_neg (by omega), if_neg q2, cl_fail0]
      rfl
  · rw [if_neg (by omega), if_neg q, cl_fail0]
    rfl
theorem gN_0 {g : Nat → Int} {n : Nat} {f q : Int} (h : ¬ f = 0) (lo hi : Int) : gN g (n : Int) (n : Int) (n : Int) (0 : Int) f q lo hi = (lo, cst g n (.inl (f, q))) := by
  unfold gN
  rw [if_neg (by decide), cl_fail1 h]
  rfl
end
section
/-! 25 -/
/-- a word, then a number -/
def sp_nb (g : Nat → Int) (n : Nat) (ws : List (List Int)) (lo hi : Int) (p : Nat) : Int × ST := match sp_w g n ws p with
  | .inl q => (lo, .inl q)
  | .inr p2 => sp_num g n lo hi p2
theorem sp_nb_v {g : Nat → Int} {n p : Nat} (ws : List (List Int)) (lo hi : Int) (hp : p ≤ n) : sv n (sp_nb g n ws lo hi p).2 := by
  unfold sp_nb
  have h := sp_w_v (g := g) ws hp
  cases e : sp_w g n ws p with
  | inl q => rw [e] at h; exact h
  | inr p2 => rw [e] at h; exact sp_num_v lo hi h
theorem F_X5_needWord_s3_g (g : Nat → Int) (n a e k f q : Int) : F_X5_needWord_s3 g n a e k f q = gW (F_X5_wordIn_s3 g a e k) g n a e f q := rfl
theorem F_X5_needWord_s3_1 {g : Nat → Int} {n : Nat} {p : Nat} (hn : n ≤ 1600) (hp : p ≤ n) : F_X5_needWord_s3 g (n : Int) (tx_a g n p : Int) (tx_e g n p : Int) (tx_k g n p : Int) (0 : Int) (-1 : Int) = cst g n (sp_w g n ws_3 p) := by
  rw [F_X5_needWord_s3_g, cl_w_3, wl_c]
  exact gW_1 hn hp ws_3
theorem F_X5_needWord_s3_0 {g : Nat → Int} {n : Nat} {f q : Int} (h : ¬ f = 0) : F_X5_needWord_s3 g (n : Int) (n : Int) (n : Int) (0 : Int) f q = cst g n (.inl (f, q)) := by
  rw [F_X5_needWord_s3_g, cl_w_3, if_neg (by decide)]
  exact gW_0 h
theorem F_X5_needWord_s4_g (g : Nat → Int) (n a e k f q : Int) : F_X5_needWord_s4 g n a e k f q = gW (F_X5_wordIn_s4 g a e k) g n a e f q := rfl
theorem F_X5_needWord_s4_1 {g : Nat → Int} {n : Nat} {p : Nat} (hn : n ≤ 1600) (hp : p ≤ n) : F_X5_needWord_s4 g (n : Int) (tx_a g n p : Int) (tx_e g n p : Int) (tx_k g n p : Int) (0 : Int) (-1 : Int) = cst g n (sp_w g n ws_4 p) := by
  rw [F_X5_needWord_s4_g, cl_w_4, wl_c]
  exact gW_1 hn hp ws_4
theorem F_X5_needWord_s4_0 {g : Nat → Int} {n : Nat} {f q : Int} (h : ¬ f = 0) : F_X5_needWord_s4 g (n : Int) (n : Int) (n : Int) (0 : Int) f q = cst g n (.inl (f, q)) := by
  rw [F_X5_needWord_s4_g, cl_w_4, if_neg (by decide)]
  exact gW_0 h
theorem F_X5_needWord_s5_g (g : Nat → Int) (n a e k f q : Int) : F_X5_needWord_s5 g n a e k f q = gW (F_X5_wordIn_s5 g a e k) g n a e f q := rfl
theorem F_X5_needWord_s5_1 {g : Nat → Int} {n : Nat} {p : Nat} (hn : n ≤ 1600) (hp : p ≤ n) : F_X5_needWord_s5 g (n : Int) (tx_a g n p : Int) (tx_e g n p : Int) (tx_k g n p : Int) (0 : Int) (-1 : Int) = cst g n (sp_w g n ws_5 p) := by
  rw [F_X5_needWord_s5_g, cl_w_5, wl_c]
  exact gW_1 hn hp ws_5
theorem F_X5_needWord_s5_0 {g : Nat → Int} {n : Nat} {f q : Int} (h : ¬ f = 0) : F_X5_needWord_s5 g (n : Int) (n : Int) (n : Int) (0 : Int) f q = cst g n (.inl (f, q)) := by
  rw [F_X5_needWord_s5_g, cl_w_5, if_neg (by decide)]
  exact gW_0 h
theorem F_X5_needWord_s6_g (g : Nat → Int) (n a e k f q : Int) : F_X5_needWord_s6 g n a e k f q = gW (F_X5_wordIn_s6 g a e k) g n a e f q := rfl
theorem F_X5_needWord_s6_1 {g : Nat → Int} {n : Nat} {p : Nat} (hn : n ≤ 1600) (hp : p ≤ n) : F_X5_needWord_s6 g (n : Int) (tx_a g n p : Int) (tx_e g n p : Int) (tx_k g n p : Int) (0 : Int) (-1 : Int) = cst g n (sp_w g n ws_6 p) := by
  rw [F_X5_needWord_s6_g, cl_w_6, wl_c]
  exact gW_1 hn hp ws_6
theorem F_X5_needWord_s6_0 {g : Nat → Int} {n : Nat} {f q : Int} (h : ¬ f = 0) : F_X5_needWord_s6 g (n : Int) (n : Int) (n : Int) (0 : Int) f q = cst g n (.inl (f, q)) := by
  rw [F_X5_needWord_s6_g, cl_w_6, if_neg (by decide)]
  exact gW_0 h
theorem F_X5_needWord_s7_g (g : Nat → Int) (n a e k f q : Int) : F_X5_needWord_s7 g n a e k f q = gW (F_X5_wordIn_s7 g a e k) g n a e f q := rfl
theorem F_X5_needWord_s7_1 {g : Nat → Int} {n : Nat} {p : Nat} (hn : n ≤ 1600) (hp : p ≤ n) : F_X5_needWord_s7 g (n : Int) (tx_a g n p : Int) (tx_e g n p : Int) (tx_k g n p : Int) (0 : Int) (-1 : Int) = cst g n (sp_w g n ws_7 p) := by
  rw [F_X5_needWord_s7_g, cl_w_7, wl_c]
  exact gW_1 hn hp ws_7
theorem F_X5_needWord_s7_0 {g : Nat → Int} {n : Nat} {f q : Int} (h : ¬ f = 0) : F_X5_needWord_s7 g (n : Int) (n : Int) (n : Int) (0 : Int) f q = cst g n (.inl (f, q)) := by
  rw [F_X5_needWord_s7_g, cl_w_7, if_neg (by decide)]
  exact gW_0 h
theorem F_X5_needWord_s8_g (g : Nat → Int) (n a e k f q : Int) : F_X5_needWord_s8 g n a e k f q = gW (F_X5_wordIn_s8 g a e k) g n a e f q := rfl
theorem F_X5_needWord_s8_1 {g : Nat → Int} {n : Nat} {p : Nat} (hn : n ≤ 1600) (hp : p ≤ n) : F_X5_needWord_s8 g (n : Int) (tx_a g n p : Int) (tx_e g n p : Int) (tx_k g n p : Int) (0 : Int) (-1 : Int) = cst g n (sp_w g n ws_8 p) := by
  rw [F_X5_needWord_s8_g, cl_w_8, wl_c]
  exact gW_1 hn hp ws_8
theorem F_X5_needWord_s8_0 {g : Nat → Int} {n : Nat} {f q : Int} (h : ¬ f = 0) : F_X5_needWord_s8 g (n : Int) (n : Int) (n : Int) (0 : Int) f q = cst g n (.inl (f, q)) := by
  rw [F_X5_needWord_s8_g, cl_w_8, if_neg (by decide)]
  exact gW_0 h
theorem F_X5_needWord_s9_g (g : Nat → Int) (n a e k f q : Int) : F_X5_needWord_s9 g n a e k f q = gW (F_X5_wordIn_s9 g a e k) g n a e f q := rfl
theorem F_X5_needWord_s9_1 {g : Nat → Int} {n : Nat} {p : Nat} (hn : n ≤ 1600) (hp : p ≤ n) : F_X5_needWord_s9 g (n : Int) (tx_a g n p : Int) (tx_e g n p : Int) (tx_k g n p : Int) (0 : Int) (-1 : Int) = cst g n (sp_w g n ws_9 p) := by
  rw [F_X5_needWord_s9_g, cl_w_9, wl_c]
  exact gW_1 hn hp ws_9
theorem F_X5_needWord_s9_0 {g : Nat → Int} {n : Nat} {f q : Int} (h : ¬ f = 0) : F_X5_needWord_s9 g (n : Int) (n : Int) (n : Int) (0 : Int) f q = cst g n (.inl (f, q)) := by
  rw [F_X5_needWord_s9_g, cl_w_9, if_neg (by decide)]
  exact gW_0 h
theorem F_X5_needWord_s10_g (g : Nat → Int) (n a e k f q : Int) : F_X5_needWord_s10 g n a e k f q = gW (F_X5_wordIn_s10 g a e k) g n a e f q := rfl
theorem F_X5_needWord_s10_1 {g : Nat → Int} {n : Nat} {p : Nat} (hn : n ≤ 1600) (hp : p ≤ n) : F_X5_needWord_s10 g (n : Int) (tx_a g n p : Int) (tx_e g n p : Int) (tx_k g n p : Int) (0 : Int) (-1 : Int) = cst g n (sp_w g n ws_10 p) := by
  rw [F_X5_needWord_s10_g, cl_w_10, wl_c]
  exact gW_1 hn hp ws_10
theorem F_X5_needWord_s10_0 {g : Nat → Int} {n : Nat} {f q : Int} (h : ¬ f = 0) : F_X5_needWord_s10 g (n : Int) (n : Int) (n : Int) (0 : Int) f q = cst g n (.inl (f, q)) := by
  rw [F_X5_needWord_s10_g, cl_w_10, if_neg (by decide)]
  exact gW_0 h
theorem F_X5_needWord_s11_g (g : Nat → Int) (n a e k f q : Int) : F_X5_needWord_s11 g n a e k f q = gW (F_X5_wordIn_s11 g a e k) g n a e f q := rfl
theorem F_X5_needWord_s11_1 {g : Nat → Int} {n : Nat} {p : Nat} (hn : n ≤ 1600) (hp : p ≤ n) : F_X5_needWord_s11 g (n : Int) (tx_a g n p : Int) (tx_e g n p : Int) (tx_k g n p : Int) (0 : Int) (-1 : Int) = cst g n (sp_w g n ws_11 p) := by
  rw [F_X5_needWord_s11_g, cl_w_11, wl_c]
  exact gW_1 hn hp ws_11
theorem F_X5_needWord_s11_0 {g : Nat → Int} {n : Nat} {f q : Int} (h : ¬ f = 0) : F_X5_needWord_s11 g (n : Int) (n : Int) (n : Int) (0 : Int) f q = cst g n (.inl (f, q)) := by
  rw [F_X5_needWord_s11_g, cl_w_11, if_neg (by decide)]
  exact gW_0 h
theorem F_X5_needWord_s1_g (g : Nat → Int) (n a e k f q : Int) : F_X5_needWord_s1 g n a e k f q = gW (F_X5_wordIn_s1 g a e k) g n a e f q := rfl
theorem F_X5_needWord_s1_1 {g : Nat → Int} {n : Nat} {p : Nat} (hn : n ≤ 1600) (hp : p ≤ n) : F_X5_needWord_s1 g (n : Int) (tx_a g n p : Int) (tx_e g n p : Int) (tx_k g n p : Int) (0 : Int) (-1 : Int) = cst g n (sp_w g n ws_1 p) := by
  rw [F_X5_needWord_s1_g, cl_w_1, wl_c]
  exact gW_1 hn hp ws_1
theorem F_X5_needWord_s1_0 {g : Nat → Int} {n : Nat} {f q : Int} (h : ¬ f = 0) : F_X5_needWord_s1 g (n : Int) (n : Int) (n : Int) (0 : Int) f q = cst g n (.inl (f, q)) := by
  rw [F_X5_needWord_s1_g, cl_w_1, if_neg (by decide)]
  exact gW_0 h
theorem F_X5_number_a0_0_a1_100_l (g : Nat → Int) (n a e f q : Int) : ∀ k : Nat, F_X5_number_a0_0_a1_100_53 g n a e f q k = gn g n a e f q (0 : Int) (100 : Int) k
  | 0 => rfl
  | k + 1 => by
    show F_X5_number_a0_0_a1_100_53b g n a e f q (F_X5_number_a0_0_a1_100_53 g n a e f q k) = gn_b g n a e f q (0 : Int) (100 : Int) (gn g n a e f q (0 : Int) (100 : Int) k)
    rw [F_X5_number_a0_0_a1_100_l g n a e f q k]
    rfl
theorem F_X5_number_a0_0_a1_100_g (g : Nat → Int) (n a e k f q : Int) : F_X5_number_a0_0_a1_100 g n a e k f q = gN g n a e k f q (0 : Int) (100 : Int) := by
  unfold F_X5_number_a0_0_a1_100
  rw [F_X5_number_a0_0_a1_100_l]
  rfl
theorem F_X5_number_a0_0_a1_199_l (g : Nat → Int) (n a e f q : Int) : ∀ k : Nat, F_X5_number_a0_0_a1_199_53 g n a e f q k = gn g n a e f q (0 : Int) (199 : Int) k
  | 0 => rfl
  | k + 1 => by
    show F_X5_number_a0_0_a1_199_53b g n a e f q (F_X5_number_a0_0_a1_199_53 g n a e f q k) = gn_b g n a e f q (0 : Int) (199 : Int) (gn g n a e f q (0 : Int) (199 : Int) k)
    rw [F_X5_number_a0_0_a1_199_l g n a e f q k]
    rfl
theorem F_X5_number_a0_0_a1_199_g (g : Nat → Int) (n a e k f q : Int) : F_X5_number_a0_0_a1_199 g n a e k f q = gN g n a e k f q (0 : Int) (199 : Int) := by
  unfold F_X5_number_a0_0_a1_199
  rw [F_X5_number_a0_0_a1_199_l]
  rfl
theorem F_X5_number_a0_0_a1_2_l (g : Nat → Int) (n a e f q : Int) : ∀ k : Nat, F_X5_number_a0_0_a1_2_53 g n a e f q k = gn g n a e f q (0 : Int) (2 : Int) k
  | 0 => rfl
  | k + 1 => by
    show F_X5_number_a0_0_a1_2_53b g n a e f q (F_X5_number_a0_0_a1_2_53 g n a e f q k) = gn_b g n a e f q (0 : Int) (2 : Int) (gn g n a e f q (0 : Int) (2 : Int) k)
    rw [F_X5_number_a0_0_a1_2_l g n a e f q k]
    rfl
theorem F_X5_number_a0_0_a1_2_g (g : Nat → Int) (n a e k f q : Int) : F_X5_number_a0_0_a1_2 g n a e k f q = gN g n a e k f q (0 : Int) (2 : Int) := by
  unfold F_X5_number_a0_0_a1_2
  rw [F_X5_number_a0_0_a1_2_l]
  rfl
theorem F_X5_number_a0_0_a1_9_l (g : Nat → Int) (n a e f q : Int) : ∀ k : Nat, F_X5_number_a0_0_a1_9_53 g n a e f q k = gn g n a e f q (0 : Int) (9 : Int) k
  | 0 => rfl
  | k + 1 => by
    show F_X5_number_a0_0_a1_9_53b g n a e f q (F_X5_number_a0_0_a1_9_53 g n a e f q k) = gn_b g n a e f q (0 : Int) (9 : Int) (gn g n a e f q (0 : Int) (9 : Int) k)
    rw [F_X5_number_a0_0_a1_9_l g n a e f q k]
    rfl
theorem F_X5_number_a0_0_a1_9_g (g : Nat → Int) (n a e k f q : Int) : F_X5_number_a0_0_a1_9 g n a e k f q = gN g n a e k f q (0 : Int) (9 : Int) := by
  unfold F_X5_number_a0_0_a1_9
  rw [F_X5_number_a0_0_a1_9_l]
  rfl
theorem F_X5_number_a0_0_a1_99_l (g : Nat → Int) (n a e f q : Int) : ∀ k : Nat, F_X5_number_a0_0_a1_99_53 g n a e f q k = gn g n a e f q (0 : Int) (99 : Int) k
  | 0 => rfl
  | k + 1 => by
    show F_X5_number_a0_0_a1_99_53b g n a e f q (F_X5_number_a0_0_a1_99_53 g n a e f q k) = gn_b g n a e f q (0 : Int) (99 : Int) (gn g n a e f q (0 : Int) (99 : Int) k)
    rw [F_X5_number_a0_0_a1_99_l g n a e f q k]
    rfl
theorem F_X5_number_a0_0_a1_99_g (g : Nat → Int) (n a e k f q : Int) : F_X5_number_a0_0_a1_99 g n a e k f q = gN g n a e k f q (0 : Int) (99 : Int) := by
  unfold F_X5_number_a0_0_a1_99
  rw [F_X5_number_a0_0_a1_99_l]
  rfl
theorem F_X5_number_a0_0_a1_9999_l (g : Nat → Int) (n a e f q : Int) : ∀ k : Nat, F_X5_number_a0_0_a1_9999_53 g n a e f q k = gn g n a e f q (0 : Int) (9999 : Int) k
  | 0 => rfl
  | k + 1 => by
    show F_X5_number_a0_0_a1_9999_53b g n a e f q (F_X5_number_a0_0_a1_9999_53 g n a e f q k) = gn_b g n a e f q (0 : Int) (9999 : Int) (gn g n a e f q (0 : Int) (9999 : Int) k)
    rw [F_X5_number_a0_0_a1_9999_l g n a e f q k]
    rfl
theorem F_X5_number_a0_0_a1_9999_g (g : Nat → Int) (n a e k f q : Int) : F_X5_number_a0_0_a1_9999 g n a e k f q = gN g n a e k f q (0 : Int) (9999 : Int) := by
  unfold F_X5_number_a0_0_a1_9999
  rw [F_X5_number_a0_0_a1_9999_l]
  rfl
theorem F_X5_number_a0_1_l (g : Nat → Int) (n a e f q : Int) (h : Int) : ∀ k : Nat, F_X5_number_a0_1_53 g n a e f q h k = gn g n a e f q (1 : Int) h k
  | 0 => rfl
  | k + 1 => by
    show F_X5_number_a0_1_53b g n a e f q h (F_X5_number_a0_1_53 g n a e f q h k) = gn_b g n a e f q (1 : Int) h (gn g n a e f q (1 : Int) h k)
    rw [F_X5_number_a0_1_l g n a e f q h k]
    rfl
theorem F_X5_number_a0_1_g (g : Nat → Int) (n a e k f q : Int) (h : Int) : F_X5_number_a0_1 g n a e k f q h = gN g n a e k f q (1 : Int) h := by
  unfold F_X5_number_a0_1
  rw [F_X5_number_a0_1_l]
  rfl
theorem F_X5_number_a0_10_a1_120_l (g : Nat → Int) (n a e f q : Int) : ∀ k : Nat, F_X5_number_a0_10_a1_120_53 g n a e f q k = gn g n a e f q (10 : Int) (120 : Int) k
  | 0 => rfl
  | k + 1 => by
    show F_X5_number_a0_10_a1_120_53b g n a e f q (F_X5_number_a0_10_a1_120_53 g n a e f q k) = gn_b g n a e f q (10 : Int) (120 : Int) (gn g n a e f q (10 : Int) (120 : Int) k)
    rw [F_X5_number_a0_10_a1_120_l g n a e f q k]
    rfl
theorem F_X5_number_a0_10_a1_120_g (g : Nat → Int) (n a e k f q : Int) : F_X5_number_a0_10_a1_120 g n a e k f q = gN g n a e k f q (10 : Int) (120 : Int) := by
  unfold F_X5_number_a0_10_a1_120
  rw [F_X5_number_a0_10_a1_120_l]
  rfl
theorem F_X5_number_a0_1_a1_20_l (g : Nat → Int) (n a e f q : Int) : ∀ k : Nat, F_X5_number_a0_1_a1_20_53 g n a e f q k = gn g n a e f q (1 : Int) (20 : Int) k
  | 0 => rfl
  | k + 1 => by
    show F_X5_number_a0_1_a1_20_53b g n a e f q (F_X5_number_a0_1_a1_20_53 g n a e f q k) = gn_b g n a e f q (1 : Int) (20 : Int) (gn g n a e f q (1 : Int) (20 : Int) k)
    rw [F_X5_number_a0_1_a1_20_l g n a e f q k]
    rfl
theorem F_X5_number_a0_1_a1_20_g (g : Nat → Int) (n a e k f q : Int) : F_X5_number_a0_1_a1_20 g n a e k f q = gN g n a e k f q (1 : Int) (20 : Int) := by
  unfold F_X5_number_a0_1_a1_20
  rw [F_X5_number_a0_1_a1_20_l]
  rfl
theorem F_X5_numberBehind_a1_10_a2_120_s3_1 {g : Nat → Int} {n : Nat} {p : Nat} (hn : n ≤ 1600) (hp : p ≤ n) : F_X5_numberBehind_a1_10_a2_120_s3 g (n : Int) (tx_a g n p : Int) (tx_e g n p : Int) (tx_k g n p : Int) (0 : Int) (-1 : Int) = ((sp_nb g n ws_3 10 (120 : Int) p).1, cst g n (sp_nb g n ws_3 10 (120 : Int) p).2) := by
  unfold F_X5_numberBehind_a1_10_a2_120_s3
  rw [F_X5_needWord_s3_1 hn hp]
  unfold sp_nb
  have hv := sp_w_v (g := g) ws_3 hp
  cases e : sp_w g n ws_3 p with
  | inl q =>
    rw [e] at hv
    show lf_p (F_X5_number_a0_10_a1_120 g (n : Int) (n : Int) (n : Int) (0 : Int) q.1 q.2) _ = _
    rw [F_X5_number_a0_10_a1_120_g, gN_0 hv]
    rfl
  | inr p2 =>
    rw [e] at hv
    show lf_p (F_X5_number_a0_10_a1_120 g (n : Int) (tx_a g n p2 : Int) (tx_e g n p2 : Int) (tx_k g n p2 : Int) (0 : Int) (-1 : Int)) _ = _
    rw [F_X5_number_a0_10_a1_120_g, gN_1 hn hv]
    rfl
theorem F_X5_numberBehind_a1_10_a2_120_s3_0 {g : Nat → Int} {n : Nat} {f q : Int} (h0 : ¬ f = 0) : F_X5_numberBehind_a1_10_a2_120_s3 g (n : Int) (n : Int) (n : Int) (0 : Int) f q = ((10 : Int), cst g n (.inl (f, q))) := by
  unfold F_X5_numberBehind_a1_10_a2_120_s3
  rw [F_X5_needWord_s3_0 h0]
  show lf_p (F_X5_number_a0_10_a1_120 g (n : Int) (n : Int) (n : Int) (0 : Int) f q) _ = _
  rw [F_X5_number_a0_10_a1_120_g, gN_0 h0]
  rfl
theorem F_X5_numberBehind_a1_1_s4_1 {g : Nat → Int} {n : Nat} {p : Nat} (hn : n ≤ 1600) (hp : p ≤ n) (h : Int) : F_X5_numberBehind_a1_1_s4 g (n : Int) (tx_a g n p : Int) (tx_e g n p : Int) (tx_k g n p : Int) (0 : Int) (-1 : Int) h = ((sp_nb g n ws_4 1 h p).1, cst g n (sp_nb g n ws_4 1 h p).2) := by
  unfold F_X5_numberBehind_a1_1_s4
  rw [F_X5_needWord_s4_1 hn hp]
  unfold sp_nb
  have hv := sp_w_v (g := g) ws_4 hp
  cases e : sp_w g n ws_4 p with
  | inl q =>
    rw [e] at hv
    show lf_p (F_X5_number_a0_1 g (n : Int) (n : Int) (n : Int) (0 : Int) q.1 q.2 h) _ = _
    rw [F_X5_number_a0_1_g, gN_0 hv]
    rfl
  | inr p2 =>
    rw [e] at hv
    show lf_p (F_X5_number_a0_1 g (n : Int) (tx_a g n p2 : Int) (tx_e g n p2 : Int) (tx_k g n p2 : Int) (0 : Int) (-1 : Int) h) _ = _
    rw [F_X5_number_a0_1_g, gN_1 hn hv]
    rfl
theorem F_X5_numberBehind_a1_1_s4_0 {g : Nat → Int} {n : Nat} {f q : Int} (h0 : ¬ f = 0) (h : Int) : F_X5_numberBehind_a1_1_s4 g (n : Int) (n : Int) (n : Int) (0 : Int) f q h = ((1 : Int), cst g n (.inl (f, q))) := by
  unfold F_X5_numberBehind_a1_1_s4
  rw [F_X5_needWord_s4_0 h0]
  show lf_p (F_X5_number_a0_1 g (n : Int) (n : Int) (n : Int) (0 : Int) f q h) _ = _
  rw [F_X5_number_a0_1_g, gN_0 h0]
  rfl
theorem F_X5_numberBehind_a1_0_a2_2_s5_1 {g : Nat → Int} {n : Nat} {p : Nat} (hn : n ≤ 1600) (hp : p ≤ n) : F_X5_numberBehind_a1_0_a2_2_s5 g (n : Int) (tx_a g n p : Int) (tx_e g n p : Int) (tx_k g n p : Int) (0 : Int) (-1 : Int) = ((sp_nb g n ws_5 0 (2 : Int) p).1, cst g n (sp_nb g n ws_5 0 (2 : Int) p).2) := by
  unfold F_X5_numberBehind_a1_0_a2_2_s5
  rw [F_X5_needWord_s5_1 hn hp]
  unfold sp_nb
  have hv := sp_w_v (g := g) ws_5 hp
  cases e : sp_w g n ws_5 p with
  | inl q =>
    rw [e] at hv
    show lf_p (F_X5_number_a0_0_a1_2 g (n : Int) (n : Int) (n : Int) (0 : Int) q.1 q.2) _ = _
    rw [F_X5_number_a0_0_a1_2_g, gN_0 hv]
    rfl
  | inr p2 =>
    rw [e] at hv
    show lf_p (F_X5_number_a0_0_a1_2 g (n : Int) (tx_a g n p2 : Int) (tx_e g n p2 : Int) (tx_k g n p2 : Int) (0 : Int) (-1 : Int)) _ = _
    rw [F_X5_number_a0_0_a1_2_g, gN_1 hn hv]
    rfl
theorem F_X5_numberBehind_a1_0_a2_2_s5_0 {g : Nat → Int} {n : Nat} {f q : Int} (h0 : ¬ f = 0) : F_X5_numberBehind_a1_0_a2_2_s5 g (n : Int) (n : Int) (n : Int) (0 : Int) f q = ((0 : Int), cst g n (.inl (f, q))) := by
  unfold F_X5_numberBehind_a1_0_a2_2_s5
  rw [F_X5_needWord_s5_0 h0]
  show lf_p (F_X5_number_a0_0_a1_2 g (n : Int) (n : Int) (n : Int) (0 : Int) f q) _ = _
  rw [F_X5_number_a0_0_a1_2_g, gN_0 h0]
  rfl
theorem F_X5_numberBehind_a1_0_a2_99_s6_1 {g : Nat → Int} {n : Nat} {p : Nat} (hn : n ≤ 1600) (hp : p ≤ n) : F_X5_numberBehind_a1_0_a2_99_s6 g (n : Int) (tx_a g n p : Int) (tx_e g n p : Int) (tx_k g n p : Int) (0 : Int) (-1 : Int) = ((sp_nb g n ws_6 0 (99 : Int) p).1, cst g n (sp_nb g n ws_6 0 (99 : Int) p).2) := by
  unfold F_X5_numberBehind_a1_0_a2_99_s6
  rw [F_X5_needWord_s6_1 hn hp]
  unfold sp_nb
  have hv := sp_w_v (g := g) ws_6 hp
  cases e : sp_w g n ws_6 p with
  | inl q =>
    rw [e] at hv
    show lf_p (F_X5_number_a0_0_a1_99 g (n : Int) (n : Int) (n : Int) (0 : Int) q.1 q.2) _ = _
    rw [F_X5_number_a0_0_a1_99_g, gN_0 hv]
    rfl
  | inr p2 =>
    rw [e] at hv
    show lf_p (F_X5_number_a0_0_a1_99 g (n : Int) (tx_a g n p2 : Int) (tx_e g n p2 : Int) (tx_k g n p2 : Int) (0 : Int) (-1 : Int)) _ = _
    rw [F_X5_number_a0_0_a1_99_g, gN_1 hn hv]
    rfl
theorem F_X5_numberBehind_a1_0_a2_99_s6_0 {g : Nat → Int} {n : Nat} {f q : Int} (h0 : ¬ f = 0) : F_X5_numberBehind_a1_0_a2_99_s6 g (n : Int) (n : Int) (n : Int) (0 : Int) f q = ((0 : Int), cst g n (.inl (f, q))) := by
  unfold F_X5_numberBehind_a1_0_a2_99_s6
  rw [F_X5_needWord_s6_0 h0]
  show lf_p (F_X5_number_a0_0_a1_99 g (n : Int) (n : Int) (n : Int) (0 : Int) f q) _ = _
  rw [F_X5_number_a0_0_a1_99_g, gN_0 h0]
  rfl
theorem F_X5_numberBehind_a1_0_a2_99_s7_1 {g : Nat → Int} {n : Nat} {p : Nat} (hn : n ≤ 1600) (hp : p ≤ n) : F_X5_numberBehind_a1_0_a2_99_s7 g (n : Int) (tx_a g n p : Int) (tx_e g n p : Int) (tx_k g n p : Int) (0 : Int) (-1 : Int) = ((sp_nb g n ws_7 0 (99 : Int) p).1, cst g n (sp_nb g n ws_7 0 (99 : Int) p).2) := by
  unfold F_X5_numberBehind_a1_0_a2_99_s7
  rw [F_X5_needWord_s7_1 hn hp]
  unfold sp_nb
  have hv := sp_w_v (g := g) ws_7 hp
  cases e : sp_w g n ws_7 p with
  | inl q =>
    rw [e] at hv
    show lf_p (F_X5_number_a0_0_a1_99 g (n : Int) (n : Int) (n : Int) (0 : Int) q.1 q.2) _ = _
    rw [F_X5_number_a0_0_a1_99_g, gN_0 hv]
    rfl
  | inr p2 =>
    rw [e] at hv
    show lf_p (F_X5_number_a0_0_a1_99 g (n : Int) (tx_a g n p2 : Int) (tx_e g n p2 : Int) (tx_k g n p2 : Int) (0 : Int) (-1 : Int)) _ = _
    rw [F_X5_number_a0_0_a1_99_g, gN_1 hn hv]
    rfl
theorem F_X5_numberBehind_a1_0_a2_99_s7_0 {g : Nat → Int} {n : Nat} {f q : Int} (h0 : ¬ f = 0) : F_X5_numberBehind_a1_0_a2_99_s7 g (n : Int) (n : Int) (n : Int) (0 : Int) f q = ((0 : Int), cst g n (.inl (f, q))) := by
  unfold F_X5_numberBehind_a1_0_a2_99_s7
  rw [F_X5_needWord_s7_0 h0]
  show lf_p (F_X5_number_a0_0_a1_99 g (n : Int) (n : Int) (n : Int) (0 : Int) f q) _ = _
  rw [F_X5_number_a0_0_a1_99_g, gN_0 h0]
  rfl
theorem F_X5_numberBehind_a1_1_a2_20_s8_1 {g : Nat → Int} {n : Nat} {p : Nat} (hn : n ≤ 1600) (hp : p ≤ n) : F_X5_numberBehind_a1_1_a2_20_s8 g (n : Int) (tx_a g n p : Int) (tx_e g n p : Int) (tx_k g n p : Int) (0 : Int) (-1 : Int) = ((sp_nb g n ws_8 1 (20 : Int) p).1, cst g n (sp_nb g n ws_8 1 (20 : Int) p).2) := by
  unfold F_X5_numberBehind_a1_1_a2_20_s8
  rw [F_X5_needWord_s8_1 hn hp]
  unfold sp_nb
  have hv := sp_w_v (g := g) ws_8 hp
  cases e : sp_w g n ws_8 p with
  | inl q =>
    rw [e] at hv
    show lf_p (F_X5_number_a0_1_a1_20 g (n : Int) (n : Int) (n : Int) (0 : Int) q.1 q.2) _ = _
    rw [F_X5_number_a0_1_a1_20_g, gN_0 hv]
    rfl
  | inr p2 =>
    rw [e] at hv
    show lf_p (F_X5_number_a0_1_a1_20 g (n : Int) (tx_a g n p2 : Int) (tx_e g n p2 : Int) (tx_k g n p2 : Int) (0 : Int) (-1 : Int)) _ = _
    rw [F_X5_number_a0_1_a1_20_g, gN_1 hn hv]
    rfl
theorem F_X5_numberBehind_a1_1_a2_20_s8_0 {g : Nat → Int} {n : Nat} {f q : Int} (h0 : ¬ f = 0) : F_X5_numberBehind_a1_1_a2_20_s8 g (n : Int) (n : Int) (n : Int) (0 : Int) f q = ((1 : Int), cst g n (.inl (f, q))) := by
  unfold F_X5_numberBehind_a1_1_a2_20_s8
  rw [F_X5_needWord_s8_0 h0]
  show lf_p (F_X5_number_a0_1_a1_20 g (n : Int) (n : Int) (n : Int) (0 : Int) f q) _ = _
  rw [F_X5_number_a0_1_a1_20_g, gN_0 h0]
  rfl
theorem F_X5_numberBehind_a1_0_a2_9_s9_1 {g : Nat → Int} {n : Nat} {p : Nat} (hn : n ≤ 1600) (hp : p ≤ n) : F_X5_numberBehind_a1_0_a2_9_s9 g (n : Int) (tx_a g n p : Int) (tx_e g n p : Int) (tx_k g n p : Int) (0 : Int) (-1 : Int) = ((sp_nb g n ws_9 0 (9 : Int) p).1, cst g n (sp_nb g n ws_9 0 (9 : Int) p).2) := by
  unfold F_X5_numberBehind_a1_0_a2_9_s9
  rw [F_X5_needWord_s9_1 hn hp]
  unfold sp_nb
  have hv := sp_w_v (g := g) ws_9 hp
  cases e : sp_w g n ws_9 p with
  | inl q =>
    rw [e] at hv
    show lf_p (F_X5_number_a0_0_a1_9 g (n : Int) (n : Int) (n : Int) (0 : Int) q.1 q.2) _ = _
    rw [F_X5_number_a0_0_a1_9_g, gN_0 hv]
    rfl
  | inr p2 =>
    rw [e] at hv
    show lf_p (F_X5_number_a0_0_a1_9 g (n : Int) (tx_a g n p2 : Int) (tx_e g n p2 : Int) (tx_k g n p2 : Int) (0 : Int) (-1 : Int)) _ = _
    rw [F_X5_number_a0_0_a1_9_g, gN_1 hn hv]
    rfl
theorem F_X5_numberBehind_a1_0_a2_9_s9_0 {g : Nat → Int} {n : Nat} {f q : Int} (h0 : ¬ f = 0) : F_X5_numberBehind_a1_0_a2_9_s9 g (n : Int) (n : Int) (n : Int) (0 : Int) f q = ((0 : Int), cst g n (.inl (f, q))) := by
  unfold F_X5_numberBehind_a1_0_a2_9_s9
  rw [F_X5_needWord_s9_0 h0]
  show lf_p (F_X5_number_a0_0_a1_9 g (n : Int) (n : Int) (n : Int) (0 : Int) f q) _ = _
  rw [F_X5_number_a0_0_a1_9_g, gN_0 h0]
  rfl
theorem F_X5_numberBehind_a1_0_a2_199_s11_1 {g : Nat → Int} {n : Nat} {p : Nat} (hn : n ≤ 1600) (hp : p ≤ n) : F_X5_numberBehind_a1_0_a2_199_s11 g (n : Int) (tx_a g n p : Int) (tx_e g n p : Int) (tx_k g n p : Int) (0 : Int) (-1 : Int) = ((sp_nb g n ws_11 0 (199 : Int) p).1, cst g n (sp_nb g n ws_11 0 (199 : Int) p).2) := by
  unfold F_X5_numberBehind_a1_0_a2_199_s11
  rw [F_X5_needWord_s11_1 hn hp]
  unfold sp_nb
  have hv := sp_w_v (g := g) ws_11 hp
  cases e : sp_w g n ws_11 p with
  | inl q =>
    rw [e] at hv
    show lf_p (F_X5_number_a0_0_a1_199 g (n : Int) (n : Int) (n : Int) (0 : Int) q.1 q.2) _ = _
    rw [F_X5_number_a0_0_a1_199_g, gN_0 hv]
    rfl
  | inr p2 =>
    rw [e] at hv
    show lf_p (F_X5_number_a0_0_a1_199 g (n : Int) (tx_a g n p2 : Int) (tx_e g n p2 : Int) (tx_k g n p2 : Int) (0 : Int) (-1 : Int)) _ = _
    rw [F_X5_number_a0_0_a1_199_g, gN_1 hn hv]
    rfl
theorem F_X5_numberBehind_a1_0_a2_199_s11_0 {g : Nat → Int} {n : Nat} {f q : Int} (h0 : ¬ f = 0) : F_X5_numberBehind_a1_0_a2_199_s11 g (n : Int) (n : Int) (n : Int) (0 : Int) f q = ((0 : Int), cst g n (.inl (f, q))) := by
  unfold F_X5_numberBehind_a1_0_a2_199_s11
  rw [F_X5_needWord_s11_0 h0]
  show lf_p (F_X5_number_a0_0_a1_199 g (n : Int) (n : Int) (n : Int) (0 : Int) f q) _ = _
  rw [F_X5_number_a0_0_a1_199_g, gN_0 h0]
  rfl
theorem F_X5_numberBehind_a1_0_a2_100_s1_1 {g : Nat → Int} {n : Nat} {p : Nat} (hn : n ≤ 1600) (hp : p ≤ n) : F_X5_numberBehind_a1_0_a2_100_s1 g (n : Int) (tx_a g n p : Int) (tx_e g n p : Int) (tx_k g n p : Int) (0 : Int) (-1 : Int) = ((sp_nb g n ws_1 0 (100 : Int) p).1, cst g n (sp_nb g n ws_1 0 (100 : Int) p).2) := by
  unfold F_X5_numberBehind_a1_0_a2_100_s1
  rw [F_X5_needWord_s1_1 hn hp]
  unfold sp_nb
  have hv := sp_w_v (g := g) ws_1 hp
  cases e : sp_w g n ws_1 p with
  | inl q =>
    rw [e] at hv
    show lf_p (F_X5_number_a0_0_a1_100 g (n : Int) (n : Int) (n : Int) (0 : Int) q.1 q.2) _ = _
    rw [F_X5_number_a0_0_a1_100_g, gN_0 hv]
    rfl
  | inr p2 =>
    rw [e] at hv
    show lf_p (F_X5_number_a0_0_a1_100 g (n : Int) (tx_a g n p2 : Int) (tx_e g n p2 : Int) (tx_k g n p2 : Int) (0 : Int) (-1 : Int)) _ = _
    rw [F_X5_number_a0_0_a1_100_g, gN_1 hn hv]
    rfl
theorem F_X5_numberBehind_a1_0_a2_100_s1_0 {g : Nat → Int} {n : Nat} {f q : Int} (h0 : ¬ f = 0) : F_X5_numberBehind_a1_0_a2_100_s1 g (n : Int) (n : Int) (n : Int) (0 : Int) f q = ((0 : Int), cst g n (.inl (f, q))) := by
  unfold F_X5_numberBehind_a1_0_a2_100_s1
  rw [F_X5_needWord_s1_0 h0]
  show lf_p (F_X5_number_a0_0_a1_100 g (n : Int) (n : Int) (n : Int) (0 : Int) f q) _ = _
  rw [F_X5_number_a0_0_a1_100_g, gN_0 h0]
  rfl
end
section
/-! 26 -/
/-! names: words of small letters; the class keeps six numbers for each -/
def wd (g : Nat → Int) (n p : Nat) : List Int := (List.range (tx_e g n p - tx_a g n p)).map (fun i => g (tx_a g n p + i))
/-- a letter of a name: 0 behind its end -/
def nl (w : List Int) (k : Nat) : Int := if k < w.length then w.getD k 0 - 97 + 1 else 0
theorem wd_len (g : Nat → Int) (n p : Nat) : (wd g n p).length = tx_e g n p - tx_a g n p := by
  unfold wd
  rw [List.length_map, List.length_range]
theorem wd_get {g : Nat → Int} {n p k : Nat} (h : k < tx_e g n p - tx_a g n p) : (wd g n p).getD k 0 = g (tx_a g n p + k) := by
  unfold wd
  rw [List.getD_eq_getElem?_getD, List.getElem?_map, List.getElem?_range h]
  rfl
theorem cl_nl {g : Nat → Int} {n p k : Nat} : F_X5_nameLetter g (tx_a g n p : Int) (tx_e g n p : Int) (k : Int) = nl (wd g n p) k := by
  unfold F_X5_nameLetter nl
  rw [wd_len, show Int.toNat ((tx_a g n p : Int) + (k : Int)) = tx_a g n p + k from by omega]
  by_cases q : k < tx_e g n p - tx_a g n p
  · rw [if_neg (by omega), if_pos q, wd_get q]
  · rw [if_pos (by omega), if_neg q]
/-- a word of at most six small letters -/
def isW (w : List Int) : Prop := w.length ≤ 6 ∧ ∀ k, k < w.length → 97 ≤ w.getD k 0 ∧ w.getD k 0 ≤ 122
theorem wd_isW {g : Nat → Int} {n p : Nat} (hk : tx_k g n p = 1) (h6 : tx_e g n p - tx_a g n p ≤ 6) : isW (wd g n p) := by
  have h := tx_e_in hk (Or.inl rfl)
  refine ⟨by rw [wd_len]; exact h6, fun k hk2 => ?_⟩
  rw [wd_len] at hk2
  rw [wd_get hk2]
  exact (tx_so_1 (h.2 _ (by omega) (by omega))).2
theorem nl_inj {v w : List Int} (hv : isW v) (hw : isW w) (h : ∀ k, k < 6 → nl v k = nl w k) : v = w := by
  have hl : v.length = w.length := by
    rcases Nat.lt_trichotomy v.length w.length with q | q | q
    · have h1 := h v.length (by have := hw.1; omega)
      have h2 := hw.2 v.length q
      unfold nl at h1
      rw [if_neg (Nat.lt_irrefl _), if_pos q] at h1
      omega
    · exact q
    · have h1 := h w.length (by have := hv.1; omega)
      have h2 := hv.2 w.length q
      unfold nl at h1
      rw [if_neg (Nat.lt_irrefl _), if_pos q] at h1
      omega
  apply List.ext_getElem hl
  intro k h1 h2
  have h3 := h k (by have := hv.1; omega)
  unfold nl at h3
  rw [if_pos h1, if_pos h2, List.getD_eq_getElem?_getD, List.getD_eq_getElem?_getD, List.getElem?_eq_getElem h1, List.getElem?_eq_getElem h2] at h3
  have h4 : v[k] - 97 + 1 = w[k] - 97 + 1 := h3
  omega
/-- a name's place among names -/
def fi (w : List Int) : List (List Int) → Nat → Int
  | [], _ => -1
  | x :: xs, i => if x = w then (i : Int) else fi w xs (i + 1)
def s6 (N : Nat → Int) (s : Nat) (w : List Int) : Bool := (List.range 6).all (fun k => decide (N (6 * s + k) = nl w k))
theorem s6_t {N : Nat → Int} {s : Nat} {w : List Int} (h : ∀ k, k < 6 → N (6 * s + k) = nl w k) : s6 N s w = true := List.all_eq_true.mpr (fun k hk => decide_eq_true (h k (List.mem_range.mp hk)))
theorem s6_f {N : Nat → Int} {s : Nat} {w : List Int} (h : s6 N s w = true) {k : Nat} (hk : k < 6) : N (6 * s + k) = nl w k := of_decide_eq_true (List.all_eq_true.mp h k (List.mem_range.mpr hk))
def gs_49 (s : Int) (K : Int → Int) (j : Int) : Int := if j = (6 : Int) then s else K (s + (1 : Int))
def gs_12b (g : Nat → Int) (a e : Int) (N : Nat → Int) (s : Int) (K K2 : Int → Int) (j : Int) : Int := if (6 : Int) ≤ j then gs_49 s K j else (lf_b (F_X5_nameLetter g a e j) (fun r => (if N (Int.toNat ((s * (6 : Int)) + j)) = r then K2 (j + (1 : Int)) else gs_49 s K j)))
def gs_12 (g : Nat → Int) (a e : Int) (N : Nat → Int) (s : Int) (K : Int → Int) : Nat → Int → Int
  | 0 => fun _ => (0 : Int)
  | k + 1 => gs_12b g a e N s K (gs_12 g a e N s K k)
def gs_2b (g : Nat → Int) (a e : Int) (N : Nat → Int) (t : Int) (K : Int → Int) (s : Int) : Int := if t ≤ s then (-1 : Int) else gs_12 g a e N s K 8 (0 : Int)
def gs_2 (g : Nat → Int) (a e : Int) (N : Nat → Int) (t : Int) : Nat → Int → Int
  | 0 => fun _ => (0 : Int)
  | k + 1 => gs_2b g a e N t (gs_2 g a e N t k)
theorem gs_12s {g : Nat → Int} {n p : Nat} {N : Nat → Int} {s : Nat} {K : Int → Int} : ∀ (f j : Nat), j ≤ 6 → 6 - j < f → (∀ k, k < j → N (6 * s + k) = nl (wd g n p) k) → gs_12 g (tx_a g n p : Int) (tx_e g n p : Int) N (s : Int) K f (j : Int) = if s6 N s (wd g n p) = true then (s : Int) else K ((s : Int) + 1) := by
  intro f
  induction f with
  | zero => intro j h1 h2; omega
  | succ f ih =>
    intro j h1 h2 h3
    show gs_12b g (tx_a g n p : Int) (tx_e g n p : Int) N (s : Int) K (gs_12 g (tx_a g n p : Int) (tx_e g n p : Int) N (s : Int) K f) (j : Int) = _
    unfold gs_12b
    repeat rw [lf_b_e]
    rw [cl_nl, show Int.toNat ((s : Int) * (6 : Int) + (j : Int)) = 6 * s + j from by omega]
    by_cases q : j = 6
    · rw [if_pos (by omega)]
      unfold gs_49
      rw [if_pos (by omega), if_pos (s6_t (fun k hk => h3 k (by omega)))]
    · rw [if_neg (by omega)]
      by_cases q2 : N (6 * s + j) = nl (wd g n p) j
      · rw [if_pos q2, show (j : Int) + (1 : Int) = ((j + 1 : Nat) : Int) from by omega]
        exact ih (j + 1) (by omega) (by omega) (fun k hk => by
          by_cases q3 : k = j
          · rw [q3]; exact q2
          · exact h3 k (by omega))
      · rw [if_neg q2]
        unfold gs_49
        rw [if_neg (by omega), if_neg (fun r => q2 (s6_f r (by omega)))]
/-- names kept from a slot on -/
def kept (N : Nat → Int) (fr : Nat) (L : List (List Int)) : Prop := ∀ i, i < L.length → ∀ k, k < 6 → N (6 * (fr + i) + k) = nl (L.getD i []) k
theorem s6_iff {N : Nat → Int} {s : Nat} {v w : List Int} (hv : isW v) (hw : isW w) (h : ∀ k, k < 6 → N (6 * s + k) = nl v k) : s6 N s w = true ↔ v = w := by
  constructor
  · intro q
    exact nl_inj hv hw (fun k hk => (h k hk).symm.trans (s6_f q hk))
  · intro q
    exact s6_t (fun k hk => by rw [← q]; exact h k hk)
theorem gs_2s {g : Nat → Int} {n p : Nat} {N : Nat → Int} {fr : Nat} (hw : isW (wd g n p)) : ∀ (L : List (List Int)) (f i : Nat), (∀ j, j < L.length → isW (L.getD j [])) → kept N (fr + i) L → L.length < f → gs_2 g (tx_a g n p : Int) (tx_e g n p : Int) N ((fr + i + L.length : Nat) : Int) f ((fr + i : Nat) : Int) = if fi (wd g n p) L i = -1 then -1 else fi (wd g n p) L i + (fr : Int) := by
  intro L
  induction L with
  | nil =>
    intro f i h1 h2 h3
    obtain ⟨k, rfl⟩ : ∃ k, f = k + 1 := ⟨f - 1, by have : 0 < f := h3; omega⟩
    show gs_2b g _ _ N _ _ _ = _
    unfold gs_2b
    rw [if_pos (by show ((fr + i + 0 : Nat) : Int) ≤ _; omega)]
    rfl
  | cons x L ih =>
    intro f i h1 h2 h3
    obtain ⟨k, rfl⟩ : ∃ k, f = k + 1 := ⟨f - 1, by have : 0 < f := Nat.lt_of_le_of_lt (Nat.zero_le _) h3; omega⟩
    have h3' : L.length + 1 < k + 1 := h3
    show gs_2b g _ _ N _ (gs_2 g _ _ N _ k) _ = _
    unfold gs_2b
    rw [if_neg (by show ¬ ((fr + i + (L.length + 1) : Nat) : Int) ≤ _; omega)]
    have hx : ∀ k, k < 6 → N (6 * (fr + i) + k) = nl x k := fun k hk => h2 0 (by show 0 < L.length + 1; omega) k hk
    have e := gs_12s (g := g) (n := n) (p := p) (N := N) (s := fr + i) (K := gs_2 g (tx_a g n p : Int) (tx_e g n p : Int) N ((fr + i + (x :: L).length : Nat) : Int) k) 8 0 (by omega) (by omega) (fun k hk => by omega)
    refine Eq.trans e ?_
    show _ = if (if x = wd g n p then (i : Int) else fi (wd g n p) L (i + 1)) = -1 then -1 else (if x = wd g n p then (i : Int) else fi (wd g n p) L (i + 1)) + (fr : Int)
    have h1x : isW x := h1 0 (by show 0 < L.length + 1; omega)
    by_cases q : x = wd g n p
    · rw [if_pos ((s6_iff h1x hw hx).mpr q), if_pos q, if_neg (by omega)]
      omega
    · rw [if_neg (fun r => q ((s6_iff h1x hw hx).mp r)), if_neg q]
      have := ih k (i + 1) (fun j hj => h1 (j + 1) (by show j + 1 < L.length + 1; omega)) (fun j hj k hk => by
        have := h2 (j + 1) (by show j + 1 < L.length + 1; omega) k hk
        rw [show fr + (i + 1) + j = fr + i + (j + 1) from by omega]
        exact this) (by omega)
      rw [show ((fr + i : Nat) : Int) + 1 = ((fr + (i + 1) : Nat) : Int) from by omega, show (fr + i + (x :: L).length) = fr + (i + 1) + L.length from by show fr + i + (L.length + 1) = _; omega]
      exact this
end
section
/-! 27 -/
/-- a name stands here: a word of at most six letters that is none of the language's own -/
def isNm (g : Nat → Int) (n p : Nat) : Bool := decide (tx_k g n p = 1) && decide (tx_e g n p - tx_a g n p ≤ 6) && decide (wl g n ws_12 p = -1)
def wrN (g : Nat → Int) (n p : Nat) : Int := if tx_k g n p = 1 ∧ ¬ tx_e g n p - tx_a g n p ≤ 6 then (tx_a g n p : Int) + 6 else (tx_a g n p : Int)
theorem cl_isN {g : Nat → Int} {n p : Nat} : F_X5_isName g (tx_a g n p : Int) (tx_e g n p : Int) (tx_k g n p : Int) = b2 (isNm g n p) := by
  unfold F_X5_isName F_X5_isName_36 isNm
  repeat rw [lf_b_e]
  rw [cl_w_12, wl_c]
  by_cases q : tx_k g n p = 1
  · have h := tx_e_in q (Or.inl rfl)
    rw [if_pos (by omega), decide_eq_true q]
    by_cases q2 : tx_e g n p - tx_a g n p ≤ 6
    · rw [if_neg (by omega), decide_eq_true q2]
      by_cases q3 : wl g n ws_12 p = -1
      · rw [if_pos q3, decide_eq_true q3]
        rfl
      · rw [if_neg q3, decide_eq_false q3]
        rfl
    · rw [if_pos (by omega), decide_eq_false q2]
      rfl
  · rw [if_neg (by omega), decide_eq_false q]
    rfl
theorem cl_isN0 (g : Nat → Int) (a e : Int) : F_X5_isName g a e (0 : Int) = 0 := by
  unfold F_X5_isName F_X5_isName_36
  rw [if_neg (by decide)]
theorem cl_wrN {g : Nat → Int} {n p : Nat} : F_X5_wrongInName (tx_a g n p : Int) (tx_e g n p : Int) (tx_k g n p : Int) = wrN g n p := by
  unfold F_X5_wrongInName F_X5_wrongInName_32 wrN
  by_cases q : tx_k g n p = 1
  · have h := tx_e_in q (Or.inl rfl)
    rw [if_pos (by omega)]
    by_cases q2 : tx_e g n p - tx_a g n p ≤ 6
    · rw [if_pos (by omega), if_neg (fun r => r.2 q2)]
    · rw [if_neg (by omega), if_pos ⟨q, q2⟩]
  · rw [if_neg (by omega), if_neg (fun r => q r.1)]
theorem isNm_W {g : Nat → Int} {n p : Nat} (h : isNm g n p = true) : tx_k g n p = 1 ∧ isW (wd g n p) := by
  unfold isNm at h
  rw [Bool.and_eq_true, Bool.and_eq_true] at h
  have h1 := of_decide_eq_true h.1.1
  exact ⟨h1, wd_isW h1 (of_decide_eq_true h.1.2)⟩
theorem sl_0l (g : Nat → Int) (a e : Int) (N : Nat → Int) (s : Int) (K : Int → Int) : ∀ k : Nat, F_X5_slotOf_a0_0_i1_0_6_12 g a e N s K k = gs_12 g a e N s K k
  | 0 => rfl
  | k + 1 => by
    show F_X5_slotOf_a0_0_i1_0_6_12b g a e N s K (F_X5_slotOf_a0_0_i1_0_6_12 g a e N s K k) = gs_12b g a e N s K (gs_12 g a e N s K k)
    rw [sl_0l g a e N s K k]
    rfl
theorem sl_0m (g : Nat → Int) (a e : Int) (N : Nat → Int) (c : Int) : ∀ k : Nat, F_X5_slotOf_a0_0_i1_0_6_2 g a e N c k = gs_2 g a e N ((0 : Int) + c) k
  | 0 => rfl
  | k + 1 => by
    show F_X5_slotOf_a0_0_i1_0_6_2b g a e N c (F_X5_slotOf_a0_0_i1_0_6_2 g a e N c k) = gs_2b g a e N ((0 : Int) + c) (gs_2 g a e N ((0 : Int) + c) k)
    rw [sl_0m g a e N c k]
    funext s
    unfold F_X5_slotOf_a0_0_i1_0_6_2b gs_2b
    rw [sl_0l]
theorem sl_6l (g : Nat → Int) (a e : Int) (N : Nat → Int) (s : Int) (K : Int → Int) : ∀ k : Nat, F_X5_slotOf_a0_6_i1_0_12_12 g a e N s K k = gs_12 g a e N s K k
  | 0 => rfl
  | k + 1 => by
    show F_X5_slotOf_a0_6_i1_0_12_12b g a e N s K (F_X5_slotOf_a0_6_i1_0_12_12 g a e N s K k) = gs_12b g a e N s K (gs_12 g a e N s K k)
    rw [sl_6l g a e N s K k]
    rfl
theorem sl_6m (g : Nat → Int) (a e : Int) (N : Nat → Int) (c : Int) : ∀ k : Nat, F_X5_slotOf_a0_6_i1_0_12_2 g a e N c k = gs_2 g a e N ((6 : Int) + c) k
  | 0 => rfl
  | k + 1 => by
    show F_X5_slotOf_a0_6_i1_0_12_2b g a e N c (F_X5_slotOf_a0_6_i1_0_12_2 g a e N c k) = gs_2b g a e N ((6 : Int) + c) (gs_2 g a e N ((6 : Int) + c) k)
    rw [sl_6m g a e N c k]
    funext s
    unfold F_X5_slotOf_a0_6_i1_0_12_2b gs_2b
    rw [sl_6l]
theorem fi_ge (w : List Int) : ∀ (L : List (List Int)) (i : Nat), fi w L i = -1 ∨ (i : Int) ≤ fi w L i
  | [], _ => Or.inl rfl
  | x :: L, i => by
    show (if x = w then (i : Int) else fi w L (i + 1)) = -1 ∨ (i : Int) ≤ (if x = w then (i : Int) else fi w L (i + 1))
    by_cases q : x = w
    · rw [if_pos q]
      exact Or.inr (Int.le_refl _)
    · rw [if_neg q]
      rcases fi_ge w L (i + 1) with r | r
      · exact Or.inl r
      · exact Or.inr (by omega)
/-- the names that stand: kinds, walkers -/
def nms (N : Nat → Int) (Ks Ws : List (List Int)) : Prop := (∀ j, j < Ks.length → isW (Ks.getD j [])) ∧ (∀ j, j < Ws.length → isW (Ws.getD j [])) ∧ kept N 0 Ks ∧ kept N 6 Ws ∧ Ks.length ≤ 6 ∧ Ws.length ≤ 12
theorem cl_sl0 {g : Nat → Int} {n p : Nat} {N : Nat → Int} {Ks Ws : List (List Int)} (hw : isW (wd g n p)) (h : nms N Ks Ws) : F_X5_slotOf_a0_0_i1_0_6 g (tx_a g n p : Int) (tx_e g n p : Int) N (Ks.length : Int) = fi (wd g n p) Ks 0 := by
  unfold F_X5_slotOf_a0_0_i1_0_6
  rw [sl_0m]
  have e := gs_2s (fr := 0) hw Ks 8 0 h.1 h.2.2.1 (by have := h.2.2.2.2.1; omega)
  rw [show (0 : Int) + (Ks.length : Int) = ((0 + 0 + Ks.length : Nat) : Int) from by omega]
  refine Eq.trans e ?_
  split
  · rename_i q; exact q.symm
  · show fi (wd g n p) Ks 0 + ((0 : Nat) : Int) = _; omega
theorem cl_sl6 {g : Nat → Int} {n p : Nat} {N : Nat → Int} {Ks Ws : List (List Int)} (hw : isW (wd g n p)) (h : nms N Ks Ws) : F_X5_slotOf_a0_6_i1_0_12 g (tx_a g n p : Int) (tx_e g n p : Int) N (Ws.length : Int) = -1 ↔ fi (wd g n p) Ws 0 = -1 := by
  unfold F_X5_slotOf_a0_6_i1_0_12
  rw [sl_6m]
  have e := gs_2s (fr := 6) hw Ws 14 0 h.2.1 h.2.2.2.1 (by have := h.2.2.2.2.2; omega)
  rw [show (6 : Int) + (Ws.length : Int) = ((6 + 0 + Ws.length : Nat) : Int) from by omega]
  have e2 : gs_2 g (tx_a g n p : Int) (tx_e g n p : Int) N ((6 + 0 + Ws.length : Nat) : Int) 14 (6 : Int) = _ := e
  rw [e2]
  have h9 := fi_ge (wd g n p) Ws 0
  split
  · rename_i q; exact ⟨fun _ => q, fun _ => rfl⟩
  · rename_i q; exact ⟨fun r => by omega, fun r => absurd r q⟩
def ap5 {α : Type} (c : Int × Int × Int × Int × Int) (x : α) : Int × Int × Int × Int × Int × α := (c.1, c.2.1, c.2.2.1, c.2.2.2.1, c.2.2.2.2, x)
/-- a name put into a slot: its first j letters -/
def nputj (N : Nat → Int) (s : Nat) (w : List Int) (j : Nat) : Nat → Int := fun i => if 6 * s ≤ i ∧ i < 6 * s + j then nl w (i - 6 * s) else N i
theorem nputj_s {N : Nat → Int} {s j : Nat} {w : List Int} : lf_up (nputj N s w j) ((s : Int) * (6 : Int) + (j : Int)) (nl w j) = nputj N s w (j + 1) := by
  funext i
  unfold lf_up nputj
  rw [show Int.toNat ((s : Int) * (6 : Int) + (j : Int)) = 6 * s + j from by omega]
  by_cases q : i = 6 * s + j
  · rw [if_pos q, if_pos (by omega), show i - 6 * s = j from by omega]
  · rw [if_neg q]
    by_cases q2 : 6 * s ≤ i ∧ i < 6 * s + j
    · rw [if_pos q2, if_pos (by omega)]
    · rw [if_neg q2, if_neg (by omega)]
theorem nputj_0 (N : Nat → Int) (s : Nat) (w : List Int) : nputj N s w 0 = N := by
  funext i
  unfold nputj
  rw [if_neg (by omega)]
theorem cl_new66 {g : Nat → Int} {n p : Nat} {N : Nat → Int} {s : Nat} (hn : n ≤ 1600) (hp : p ≤ n) : ∀ (f j : Nat), j ≤ 6 → 6 - j < f → F_X5_newName_66 g (n : Int) (tx_a g n p : Int) (tx_e g n p : Int) (0 : Int) (-1 : Int) (s : Int) f (j : Int) (nputj N s (wd g n p) j) = ap5 (cst g n (.inr (tx_e g n p))) (nputj N s (wd g n p) 6) := by
  intro f
  induction f with
  | zero => intro j h1 h2; omega
  | succ f ih =>
    intro j h1 h2
    show F_X5_newName_66b g (n : Int) (tx_a g n p : Int) (tx_e g n p : Int) (0 : Int) (-1 : Int) (s : Int) (F_X5_newName_66 g (n : Int) (tx_a g n p : Int) (tx_e g n p : Int) (0 : Int) (-1 : Int) (s : Int) f) (j : Int) (nputj N s (wd g n p) j) = _
    unfold F_X5_newName_66b
    repeat rw [lf_b_e]
    rw [cl_nl]
    by_cases q : j = 6
    · rw [if_pos (by omega), cl_mve hn hp, q]
      rfl
    · rw [if_neg (by omega), nputj_s, show (j : Int) + (1 : Int) = ((j + 1 : Nat) : Int) from by omega]
      exact ih (j + 1) (by omega) (by omega)
/-- a new name is read -/
def sp_new (g : Nat → Int) (n : Nat) (Ks Ws : List (List Int)) (p : Nat) : ST := if isNm g n p = true then (if fi (wd g n p) Ks 0 = -1 ∧ fi (wd g n p) Ws 0 = -1 then .inr (tx_e g n p) else .inl (3, (tx_a g n p : Int))) else .inl (1, wrN g n p)
theorem sp_new_v {g : Nat → Int} {n p : Nat} (Ks Ws : List (List Int)) (hp : p ≤ n) : sv n (sp_new g n Ks Ws p) := by
  unfold sp_new
  split
  · split
    · exact tx_e_le hp
    · exact sv_l (by decide)
  · exact sv_l (by decide)
theorem cl_new1 {g : Nat → Int} {n p : Nat} {N : Nat → Int} {Ks Ws : List (List Int)} {s : Nat} (hn : n ≤ 1600) (hp : p ≤ n) (h : nms N Ks Ws) : F_X5_newName g (n : Int) (tx_a g n p : Int) (tx_e g n p : Int) (tx_k g n p : Int) (Ks.length : Int) (Ws.length : Int) N (0 : Int) (-1 : Int) (s : Int) = ap5 (cst g n (sp_new g n Ks Ws p)) (match sp_new g n Ks Ws p with | .inl _ => N | .inr _ => nputj N s (wd g n p) 6) := by
  unfold F_X5_newName F_X5_newName_52
  repeat rw [lf_b_e]
  rw [cl_isN, cl_wrN]
  unfold sp_new
  cases c : isNm g n p with
  | false =>
    rw [if_pos (show b2 false = 0 from rfl), cl_fail0, if_neg (fun r => Bool.noConfusion r)]
    rfl
  | true =>
    have hw := (isNm_W c).2
    rw [if_neg (show ¬ b2 true = 0 from by decide), if_pos rfl, cl_sl0 hw h]
    by_cases q1 : fi (wd g n p) Ks 0 = -1
    · rw [if_pos q1]
      by_cases q2 : fi (wd g n p) Ws 0 = -1
      · rw [if_pos ((cl_sl6 hw h).mpr q2), if_pos ⟨q1, q2⟩]
        have e := cl_new66 (g := g) (N := N) (s := s) hn hp 8 0 (by omega) (by omega)
        rw [nputj_0] at e
        exact e
      · rw [if_neg (fun r => q2 ((cl_sl6 hw h).mp r)), if_neg (fun r => q2 r.2), cl_fail0]
        rfl
    · rw [if_neg q1, if_neg (fun r => q1 r.1), cl_fail0]
      rfl
theorem cl_new0 {g : Nat → Int} {n : Nat} {N : Nat → Int} {f q : Int} (h : ¬ f = 0) (x y s : Int) : F_X5_newName g (n : Int) (n : Int) (n : Int) (0 : Int) x y N f q s = ap5 (cst g n (.inl (f, q))) N := by
  unfold F_X5_newName
  repeat rw [lf_b_e]
  rw [cl_isN0, if_pos rfl, cl_fail1 h]
  rfl
/-- a kind's name is read -/
def sp_kn (g : Nat → Int) (n : Nat) (Ks : List (List Int)) (p : Nat) : Int × ST := if isNm g n p = true then (if fi (wd g n p) Ks 0 = -1 then (0, .inl (3, (tx_a g n p : Int))) else (fi (wd g n p) Ks 0, .inr (tx_e g n p))) else (0, .inl (1, wrN g n p))
theorem sp_kn_v {g : Nat → Int} {n p : Nat} (Ks : List (List Int)) (hp : p ≤ n) : sv n (sp_kn g n Ks p).2 := by
  unfold sp_kn
  split
  · split
    · exact sv_l (by decide)
    · exact tx_e_le hp
  · exact sv_l (by decide)
theorem cl_kn1 {g : Nat → Int} {n p : Nat} {N : Nat → Int} {Ks Ws : List (List Int)} (hn : n ≤ 1600) (hp : p ≤ n) (h : nms N Ks Ws) : F_X5_knownKind g (n : Int) (tx_a g n p : Int) (tx_e g n p : Int) (tx_k g n p : Int) (Ks.length : Int) N (0 : Int) (-1 : Int) = ((sp_kn g n Ks p).1, cst g n (sp_kn g n Ks p).2) := by
  unfold F_X5_knownKind
  repeat rw [lf_b_e]
  rw [cl_isN, cl_wrN]
  unfold sp_kn
  cases c : isNm g n p with
  | false =>
    rw [if_pos (show b2 false = 0 from rfl), cl_fail0, if_neg (fun r => Bool.noConfusion r)]
    rfl
  | true =>
    have hw := (isNm_W c).2
    rw [if_neg (show ¬ b2 true = 0 from by decide), if_pos rfl, cl_sl0 hw h]
    by_cases q1 : fi (wd g n p) Ks 0 = -1
    · rw [if_pos q1, if_pos q1, cl_fail0]
      rfl
    · rw [if_neg q1, if_neg q1, cl_mve hn hp]
      rfl
theorem cl_kn0 {g : Nat → Int} {n : Nat} {N : Nat → Int} {f q : Int} (h : ¬ f = 0) (x : Int) : F_X5_knownKind g (n : Int) (n : Int) (n : Int) (0 : Int) x N f q = ((0 : Int), cst g n (.inl (f, q))) := by
  unfold F_X5_knownKind
  repeat rw [lf_b_e]
  rw [cl_isN0, if_pos rfl, cl_fail1 h]
  rfl
end
section
/-! 30 -/
/-! the model's lexical methods -/
theorem ml_look0 {g : Nat → Int} {n : Nat} : ∀ (k a : Nat), a ≤ n → n - a < k → F_X10_look_0 (n : Int) g k (a : Int) = ((if tx_run (tx_b g) n a < n then g (tx_run (tx_b g) n a) else -1), ((tx_run (tx_b g) n a : Nat) : Int)) := by
  intro k
  induction k with
  | zero => intro a h1 h2; omega
  | succ k ih =>
    intro a h1 h2
    show F_X10_look_0b (n : Int) g (F_X10_look_0 (n : Int) g k) (a : Int) = _
    unfold F_X10_look_0b
    rw [Int.toNat_natCast]
    by_cases h3 : a < n
    · rw [if_neg (by omega)]
      by_cases h4 : g a = 10
      · rw [if_pos h4, show (a : Int) + (1 : Int) = ((a + 1 : Nat) : Int) from by omega, ih (a + 1) (by omega) (by omega), ← tx_run_step h3 (decide_eq_true (Or.inl h4))]
      · rw [if_neg h4]
        by_cases h5 : g a = 32
        · rw [if_pos h5, show (a : Int) + (1 : Int) = ((a + 1 : Nat) : Int) from by omega, ih (a + 1) (by omega) (by omega), ← tx_run_step h3 (decide_eq_true (Or.inr h5))]
        · rw [if_neg h5, if_neg (by omega), tx_run_stop (fun q => (of_decide_eq_true q.2).elim h4 h5), if_pos h3]
    · rw [if_pos (by omega), if_pos (by omega), tx_run_stop (fun q => h3 q.1), if_neg h3]
/-- the byte that stands next -/
def lk (g : Nat → Int) (n p : Nat) : Int := if tx_a g n p < n then g (tx_a g n p) else -1
/-- what the model holds of a place: at, ended -/
def mp (g : Nat → Int) (n p : Nat) (xa xe : Int) : Prop := p ≤ n ∧ (∃ a : Nat, xa = (a : Int) ∧ p ≤ a ∧ a ≤ n ∧ tx_a g n a = tx_a g n p) ∧ xe ≤ (p : Int) ∧ (xe = (p : Int) ↔ (¬ p = 0 ∧ ¬ tx_so g n (p - 1) = 3))
def rm (g : Nat → Int) (n : Nat) (s : ST) (xa xe xb xp : Int) : Prop := match s with
  | .inl q => xb = q.1 ∧ xp = q.2
  | .inr p => xb = 0 ∧ xp = -1 ∧ mp g n p xa xe
theorem ml_look {g : Nat → Int} {n p : Nat} {xa xe : Int} (hn : n ≤ 1600) (h : mp g n p xa xe) : F_X10_look xa (n : Int) g = (lk g n p, (tx_a g n p : Int)) := by
  obtain ⟨h0, ⟨a, e1, h1, h2, h3⟩, h4, h5⟩ := h
  unfold F_X10_look
  rw [e1, ml_look0 1602 a h2 (by omega)]
  show ((if tx_a g n a < n then g (tx_a g n a) else -1), ((tx_a g n a : Nat) : Int)) = _
  rw [h3]
  rfl
theorem mp_a {g : Nat → Int} {n p : Nat} {xa xe : Int} (h : mp g n p xa xe) : mp g n p (tx_a g n p : Int) xe := ⟨h.1, ⟨tx_a g n p, rfl, tx_a_ge g n p, tx_a_le h.1, tx_a_idem g n p⟩, h.2.2⟩
theorem mp_gl {g : Nat → Int} {n p : Nat} {xa xe : Int} (h : mp g n p xa xe) : (tx_a g n p : Int) = xe ↔ (tx_a g n p = p ∧ ¬ p = 0 ∧ ¬ tx_so g n (p - 1) = 3) := by
  obtain ⟨h0, _, h4, h5⟩ := h
  have h6 := tx_a_ge g n p
  constructor
  · intro q
    exact ⟨by omega, h5.mp (by omega)⟩
  · intro q
    have := h5.mpr q.2
    omega
/-- a word or number has been taken -/
theorem mp_tok {g : Nat → Int} {n p s : Nat} (hp : p ≤ n) (hk : tx_k g n p = s) (hs : s = 1 ∨ s = 2) : mp g n (tx_e g n p) (tx_e g n p : Int) (tx_e g n p : Int) := by
  have h := tx_e_in hk hs
  have h1 := h.2 (tx_e g n p - 1) (by omega) (by omega)
  exact ⟨tx_e_le hp, ⟨_, rfl, Nat.le_refl _, tx_e_le hp, rfl⟩, Int.le_refl _, ⟨fun _ => ⟨by omega, by omega⟩, fun _ => rfl⟩⟩
theorem tx_k_so {g : Nat → Int} {n p : Nat} : tx_k g n p = 4 ∨ tx_k g n p = tx_so g n (tx_a g n p) := by
  unfold tx_k
  split
  · exact Or.inl rfl
  · exact Or.inr rfl
theorem tx_k3 {g : Nat → Int} {n p : Nat} : tx_k g n p = 3 ↔ tx_so g n (tx_a g n p) = 3 := by
  unfold tx_k
  split
  · rename_i h
    constructor
    · intro q
      omega
    · intro q
      omega
  · exact Iff.rfl
/-- a sign has been taken -/
theorem mp_sgn {g : Nat → Int} {n p : Nat} {xa xe : Int} (h : mp g n p xa xe) (hk : tx_k g n p = 3) : mp g n (tx_e g n p) ((tx_a g n p : Int) + 1) xe := by
  obtain ⟨h0, _, h4, h5⟩ := h
  have hs := tx_k3.mp hk
  have h6 := tx_a_ge g n p
  have h8 := tx_e_le (f := g) h0
  have h7 : tx_e g n p = tx_a g n p + 1 := by
    unfold tx_e
    rw [if_neg (by omega), if_pos hs]
  refine ⟨h8, ⟨tx_e g n p, by omega, Nat.le_refl _, h8, rfl⟩, by omega, ⟨fun q => by omega, fun q => absurd (by rw [h7]; exact hs) q.2⟩⟩
theorem ml_let (c : Int) : F_X10_isLetter c = if 97 ≤ c ∧ c ≤ 122 then 1 else 0 := by
  unfold F_X10_isLetter F_X10_isLetter_16
  (repeat' split) <;> omega
theorem ml_dig (c : Int) : F_X10_isDigit c = if 48 ≤ c ∧ c ≤ 57 then 1 else 0 := by
  unfold F_X10_isDigit
  (repeat' split) <;> omega
theorem lk_let {g : Nat → Int} {n p : Nat} : F_X10_isLetter (lk g n p) = if tx_so g n (tx_a g n p) = 1 then 1 else 0 := by
  rw [ml_let]
  unfold lk tx_so
  (repeat' split) <;> omega
theorem lk_dig {g : Nat → Int} {n p : Nat} : F_X10_isDigit (lk g n p) = if tx_so g n (tx_a g n p) = 2 then 1 else 0 := by
  rw [ml_dig]
  unfold lk tx_so
  (repeat' split) <;> omega
theorem so_let {g : Nat → Int} {n k : Nat} (h : k < n) : F_X10_isLetter (g k) = if tx_so g n k = 1 then 1 else 0 := by
  rw [ml_let]
  unfold tx_so
  (repeat' split) <;> omega
theorem so_dig {g : Nat → Int} {n k : Nat} (h : k < n) : F_X10_isDigit (g k) = if tx_so g n k = 2 then 1 else 0 := by
  rw [ml_dig]
  unfold tx_so
  (repeat' split) <;> omega
/-- is a word here? for any length -/
def gh_76b (r : Int) (g w : Nat → Int) (K : Int → Int → Int → Int × Int) (k a i : Int) : Int × Int := if r ≤ i then ((1 : Int), a) else if g (Int.toNat (a + i)) = w (Int.toNat i) then K k a (i + (1 : Int)) else ((0 : Int), a)
def gh_76 (r : Int) (g w : Nat → Int) : Nat → Int → Int → Int → Int × Int
  | 0 => fun _ _ _ => ((0 : Int), (0 : Int))
  | n + 1 => gh_76b r g w (gh_76 r g w n)
def gh_61 (r : Int) (f : Nat) (g w : Nat → Int) (k a : Int) : Int × Int := if (k - a) = r then gh_76 r g w f k a (0 : Int) else ((0 : Int), a)
def gh_35b (r : Int) (f : Nat) (n : Int) (g w : Nat → Int) (K : Int → Int → Int × Int) (k a : Int) : Int × Int := if n ≤ k then gh_61 r f g w k a else (lf_b (F_X10_isLetter (g (Int.toNat k))) (fun q => (if q = (0 : Int) then gh_61 r f g w k a else K (k + (1 : Int)) a)))
def gh_35 (r : Int) (f : Nat) (n : Int) (g w : Nat → Int) : Nat → Int → Int → Int × Int
  | 0 => fun _ _ => ((0 : Int), (0 : Int))
  | k + 1 => gh_35b r f n g w (gh_35 r f n g w k)
def gH (r : Int) (f : Nat) (xa n xe xb : Int) (g w : Nat → Int) : Int × Int := if xb = (0 : Int) then (lf_p (F_X10_look xa n g) (fun c v => (lf_b (F_X10_isLetter c) (fun q => (if q = (0 : Int) then ((0 : Int), v) else (if v = xe then ((0 : Int), v) else gh_35 r f n g w 1602 v v)))))) else ((0 : Int), xa)
theorem wq_len {g : Nat → Int} {e : Nat} : ∀ (w : List Int) (nx : Nat), wq g e w nx = true → e = nx + w.length := by
  intro w
  induction w with
  | nil =>
    intro nx h
    have := of_decide_eq_true h
    show e = nx + 0
    omega
  | cons c w ih =>
    intro nx h
    have h1 : (decide (nx < e) && decide (g nx = c) && wq g e w (nx + 1)) = true := h
    rw [Bool.and_eq_true] at h1
    have := ih (nx + 1) h1.2
    show e = nx + (w.length + 1)
    omega
/-- a row of bytes holds a word -/
def wa (w : Nat → Int) (W : List Int) : Prop := ∀ i, i < W.length → w i = W.getD i 0
theorem gh_76s {g w : Nat → Int} {W : List Int} {k : Int} {a e : Nat} (hw : wa w W) (he : e = a + W.length) : ∀ (f i : Nat), i ≤ W.length → W.length - i < f → gh_76 (W.length : Int) g w f k (a : Int) (i : Int) = (b2 (wq g e (W.drop i) (a + i)), (a : Int)) := by
  intro f
  induction f with
  | zero => intro i h1 h2; omega
  | succ f ih =>
    intro i h1 h2
    show gh_76b (W.length : Int) g w (gh_76 (W.length : Int) g w f) k (a : Int) (i : Int) = _
    unfold gh_76b
    rw [Int.toNat_natCast, show Int.toNat ((a : Int) + (i : Int)) = a + i from by omega]
    by_cases h3 : i = W.length
    · rw [if_pos (by omega), List.drop_eq_nil_of_le (by omega)]
      show _ = (b2 (decide (a + i = e)), (a : Int))
      rw [decide_eq_true (by omega)]
      rfl
    · rw [if_neg (by omega), hw i (by omega), wi_drop (by omega : i < W.length)]
      show _ = (b2 (decide (a + i < e) && decide (g (a + i) = W.getD i 0) && wq g e (W.drop (i + 1)) (a + i + 1)), (a : Int))
      rw [decide_eq_true (by omega : a + i < e)]
      by_cases h4 : g (a + i) = W.getD i 0
      · rw [if_pos h4, decide_eq_true h4, show (i : Int) + (1 : Int) = ((i + 1 : Nat) : Int) from by omega, ih (i + 1) (by omega) (by omega)]
        rfl
      · rw [if_neg h4, decide_eq_false h4]
        rfl
theorem gh_61s {g w : Nat → Int} {W : List Int} {a e : Nat} {f : Nat} (hf : W.length < f) (hw : wa w W) (he : a ≤ e) : gh_61 (W.length : Int) f g w (e : Int) (a : Int) = (b2 (wq g e W a), (a : Int)) := by
  unfold gh_61
  by_cases q : e = a + W.length
  · rw [if_pos (by omega)]
    exact gh_76s hw q f 0 (by omega) (by omega)
  · rw [if_neg (by omega)]
    cases c : wq g e W a with
    | false => rfl
    | true => exact absurd (wq_len W a c) q
theorem gh_35s {g w : Nat → Int} {W : List Int} {n a : Nat} {f : Nat} (hf : W.length < f) (hw : wa w W) : ∀ (m k : Nat), a ≤ k → k ≤ n → n - k < m → gh_35 (W.length : Int) f (n : Int) g w m (k : Int) (a : Int) = (b2 (wq g (tx_run (tx_s g n 1) n k) W a), (a : Int)) := by
  intro m
  induction m with
  | zero => intro k h1 h2 h3; omega
  | succ m ih =>
    intro k h1 h2 h3
    show gh_35b (W.length : Int) f (n : Int) g w (gh_35 (W.length : Int) f (n : Int) g w m) (k : Int) (a : Int) = _
    unfold gh_35b
    repeat rw [lf_b_e]
    rw [Int.toNat_natCast]
    by_cases h4 : k < n
    · rw [if_neg (by omega), so_let h4]
      by_cases h5 : tx_so g n k = 1
      · rw [if_pos h5, if_neg (by decide), show (k : Int) + (1 : Int) = ((k + 1 : Nat) : Int) from by omega, ih (k + 1) (by omega) (by omega) (by omega), ← tx_run_step h4 (decide_eq_true h5)]
      · rw [if_neg h5, if_pos rfl, tx_run_stop (fun q => h5 (of_decide_eq_true q.2))]
        exact gh_61s hf hw h1
    · rw [if_pos (by omega), tx_run_stop (fun q => h4 q.1)]
      exact gh_61s hf hw h1
/-- the word W stands here -/
def wh (g : Nat → Int) (n : Nat) (W : List Int) (p : Nat) : Bool := decide (tx_k g n p = 1) && wq g (tx_e g n p) W (tx_a g n p)
theorem gH_1 {g w : Nat → Int} {W : List Int} {n p : Nat} {f : Nat} {xa xe : Int} (hn : n ≤ 1600) (hf : W.length < f) (hw : wa w W) (h : mp g n p xa xe) : gH (W.length : Int) f xa (n : Int) xe (0 : Int) g w = (b2 (wh g n W p), (tx_a g n p : Int)) := by
  unfold gH
  repeat rw [lf_b_e]
  rw [if_pos rfl, ml_look hn h]
  show (if F_X10_isLetter (lk g n p) = (0 : Int) then ((0 : Int), (tx_a g n p : Int)) else (if (tx_a g n p : Int) = xe then ((0 : Int), (tx_a g n p : Int)) else gh_35 (W.length : Int) f (n : Int) g w 1602 (tx_a g n p : Int) (tx_a g n p : Int))) = _
  rw [lk_let]
  unfold wh
  by_cases q : tx_so g n (tx_a g n p) = 1
  · have hlt := tx_so_1 q
    rw [if_pos q, if_neg (by decide)]
    by_cases q2 : (tx_a g n p : Int) = xe
    · have q3 := (mp_gl h).mp q2
      rw [if_pos q2, tx_k_yes rfl q3.1 q3.2.1 q3.2.2 (Or.inl q)]
      rfl
    · have hk : tx_k g n p = 1 := by
        rw [tx_k_no rfl (fun r => q2 ((mp_gl h).mpr ⟨r.1, r.2.1, r.2.2.1⟩))]
        exact q
      rw [if_neg q2, gh_35s hf hw 1602 (tx_a g n p) (Nat.le_refl _) (by omega) (by omega), hk]
      have e : tx_e g n p = tx_run (tx_s g n 1) n (tx_a g n p) := by
        unfold tx_e
        rw [if_neg (by omega), if_neg (by omega), q, tx_run_step hlt.1 (decide_eq_true q)]
      rw [e]
      rfl
  · rw [if_neg q, if_pos rfl]
    have hk : ¬ tx_k g n p = 1 := by
      rcases tx_k_so (g := g) (n := n) (p := p) with r | r
      · omega
      · omega
    rw [decide_eq_false hk]
    rfl
theorem gH_0 {g w : Nat → Int} {r : Int} {f : Nat} {xa n xe xb : Int} (h : ¬ xb = 0) : gH r f xa n xe xb g w = ((0 : Int), xa) := by
  unfold gH
  rw [if_neg h]
end
section
/-! 31 -/
theorem F_X10_isHere_r2_76g (g w : Nat → Int) : ∀ k : Nat, F_X10_isHere_r2_76 g w k = gh_76 (2 : Int) g w k
  | 0 => rfl
  | k + 1 => by
    show F_X10_isHere_r2_76b g w (F_X10_isHere_r2_76 g w k) = gh_76b (2 : Int) g w (gh_76 (2 : Int) g w k)
    rw [F_X10_isHere_r2_76g g w k]
    rfl
theorem F_X10_isHere_r2_61g (g w : Nat → Int) (k a : Int) : F_X10_isHere_r2_61 g w k a = gh_61 (2 : Int) 4 g w k a := by
  unfold F_X10_isHere_r2_61
  rw [F_X10_isHere_r2_76g]
  rfl
theorem F_X10_isHere_r2_35g (n : Int) (g w : Nat → Int) : ∀ k : Nat, F_X10_isHere_r2_35 n g w k = gh_35 (2 : Int) 4 n g w k
  | 0 => rfl
  | k + 1 => by
    show F_X10_isHere_r2_35b n g w (F_X10_isHere_r2_35 n g w k) = gh_35b (2 : Int) 4 n g w (gh_35 (2 : Int) 4 n g w k)
    rw [F_X10_isHere_r2_35g n g w k]
    funext x y
    unfold F_X10_isHere_r2_35b gh_35b
    rw [F_X10_isHere_r2_61g]
theorem F_X10_isHere_r2_g (xa n xe xb : Int) (g w : Nat → Int) : F_X10_isHere_r2 xa n xe xb g w = gH (2 : Int) 4 xa n xe xb g w := by
  unfold F_X10_isHere_r2
  simp only [F_X10_isHere_r2_35g]
  rfl
theorem F_X10_isHere_r2_1 {g w : Nat → Int} {W : List Int} {n p : Nat} {xa xe : Int} (hn : n ≤ 1600) (hW : W.length = 2) (hw : wa w W) (h : mp g n p xa xe) : F_X10_isHere_r2 xa (n : Int) xe (0 : Int) g w = (b2 (wh g n W p), (tx_a g n p : Int)) := by
  rw [F_X10_isHere_r2_g, ← gH_1 (f := 4) hn (by omega) hw h, hW]
  rfl
theorem F_X10_isHere_r2_0 {g w : Nat → Int} {xa n xe xb : Int} (h : ¬ xb = 0) : F_X10_isHere_r2 xa n xe xb g w = ((0 : Int), xa) := by
  rw [F_X10_isHere_r2_g, gH_0 h]
theorem F_X10_isHere_76g (g w : Nat → Int) : ∀ k : Nat, F_X10_isHere_76 g w k = gh_76 (3 : Int) g w k
  | 0 => rfl
  | k + 1 => by
    show F_X10_isHere_76b g w (F_X10_isHere_76 g w k) = gh_76b (3 : Int) g w (gh_76 (3 : Int) g w k)
    rw [F_X10_isHere_76g g w k]
    rfl
theorem F_X10_isHere_61g (g w : Nat → Int) (k a : Int) : F_X10_isHere_61 g w k a = gh_61 (3 : Int) 5 g w k a := by
  unfold F_X10_isHere_61
  rw [F_X10_isHere_76g]
  rfl
theorem F_X10_isHere_35g (n : Int) (g w : Nat → Int) : ∀ k : Nat, F_X10_isHere_35 n g w k = gh_35 (3 : Int) 5 n g w k
  | 0 => rfl
  | k + 1 => by
    show F_X10_isHere_35b n g w (F_X10_isHere_35 n g w k) = gh_35b (3 : Int) 5 n g w (gh_35 (3 : Int) 5 n g w k)
    rw [F_X10_isHere_35g n g w k]
    funext x y
    unfold F_X10_isHere_35b gh_35b
    rw [F_X10_isHere_61g]
theorem F_X10_isHere_g (xa n xe xb : Int) (g w : Nat → Int) : F_X10_isHere xa n xe xb g w = gH (3 : Int) 5 xa n xe xb g w := by
  unfold F_X10_isHere
  simp only [F_X10_isHere_35g]
  rfl
theorem F_X10_isHere_1 {g w : Nat → Int} {W : List Int} {n p : Nat} {xa xe : Int} (hn : n ≤ 1600) (hW : W.length = 3) (hw : wa w W) (h : mp g n p xa xe) : F_X10_isHere xa (n : Int) xe (0 : Int) g w = (b2 (wh g n W p), (tx_a g n p : Int)) := by
  rw [F_X10_isHere_g, ← gH_1 (f := 5) hn (by omega) hw h, hW]
  rfl
theorem F_X10_isHere_0 {g w : Nat → Int} {xa n xe xb : Int} (h : ¬ xb = 0) : F_X10_isHere xa n xe xb g w = ((0 : Int), xa) := by
  rw [F_X10_isHere_g, gH_0 h]
theorem F_X10_isHere_r4_76g (g w : Nat → Int) : ∀ k : Nat, F_X10_isHere_r4_76 g w k = gh_76 (4 : Int) g w k
  | 0 => rfl
  | k + 1 => by
    show F_X10_isHere_r4_76b g w (F_X10_isHere_r4_76 g w k) = gh_76b (4 : Int) g w (gh_76 (4 : Int) g w k)
    rw [F_X10_isHere_r4_76g g w k]
    rfl
theorem F_X10_isHere_r4_61g (g w : Nat → Int) (k a : Int) : F_X10_isHere_r4_61 g w k a = gh_61 (4 : Int) 6 g w k a := by
  unfold F_X10_isHere_r4_61
  rw [F_X10_isHere_r4_76g]
  rfl
theorem F_X10_isHere_r4_35g (n : Int) (g w : Nat → Int) : ∀ k : Nat, F_X10_isHere_r4_35 n g w k = gh_35 (4 : Int) 6 n g w k
  | 0 => rfl
  | k + 1 => by
    show F_X10_isHere_r4_35b n g w (F_X10_isHere_r4_35 n g w k) = gh_35b (4 : Int) 6 n g w (gh_35 (4 : Int) 6 n g w k)
    rw [F_X10_isHere_r4_35g n g w k]
    funext x y
    unfold F_X10_isHere_r4_35b gh_35b
    rw [F_X10_isHere_r4_61g]
theorem F_X10_isHere_r4_g (xa n xe xb : Int) (g w : Nat → Int) : F_X10_isHere_r4 xa n xe xb g w = gH (4 : Int) 6 xa n xe xb g w := by
  unfold F_X10_isHere_r4
  simp only [F_X10_isHere_r4_35g]
  rfl
theorem F_X10_isHere_r4_1 {g w : Nat → Int} {W : List Int} {n p : Nat} {xa xe : Int} (hn : n ≤ 1600) (hW : W.length = 4) (hw : wa w W) (h : mp g n p xa xe) : F_X10_isHere_r4 xa (n : Int) xe (0 : Int) g w = (b2 (wh g n W p), (tx_a g n p : Int)) := by
  rw [F_X10_isHere_r4_g, ← gH_1 (f := 6) hn (by omega) hw h, hW]
  rfl
theorem F_X10_isHere_r4_0 {g w : Nat → Int} {xa n xe xb : Int} (h : ¬ xb = 0) : F_X10_isHere_r4 xa n xe xb g w = ((0 : Int), xa) := by
  rw [F_X10_isHere_r4_g, gH_0 h]
theorem F_X10_isHere_r5_76g (g w : Nat → Int) : ∀ k : Nat, F_X10_isHere_r5_76 g w k = gh_76 (5 : Int) g w k
  | 0 => rfl
  | k + 1 => by
    show F_X10_isHere_r5_76b g w (F_X10_isHere_r5_76 g w k) = gh_76b (5 : Int) g w (gh_76 (5 : Int) g w k)
    rw [F_X10_isHere_r5_76g g w k]
    rfl
theorem F_X10_isHere_r5_61g (g w : Nat → Int) (k a : Int) : F_X10_isHere_r5_61 g w k a = gh_61 (5 : Int) 7 g w k a := by
  unfold F_X10_isHere_r5_61
  rw [F_X10_isHere_r5_76g]
  rfl
theorem F_X10_isHere_r5_35g (n : Int) (g w : Nat → Int) : ∀ k : Nat, F_X10_isHere_r5_35 n g w k = gh_35 (5 : Int) 7 n g w k
  | 0 => rfl
  | k + 1 => by
    show F_X10_isHere_r5_35b n g w (F_X10_isHere_r5_35 n g w k) = gh_35b (5 : Int) 7 n g w (gh_35 (5 : Int) 7 n g w k)
    rw [F_X10_isHere_r5_35g n g w k]
    funext x y
    unfold F_X10_isHere_r5_35b gh_35b
    rw [F_X10_isHere_r5_61g]
theorem F_X10_isHere_r5_g (xa n xe xb : Int) (g w : Nat → Int) : F_X10_isHere_r5 xa n xe xb g w = gH (5 : Int) 7 xa n xe xb g w := by
  unfold F_X10_isHere_r5
  simp only [F_X10_isHere_r5_35g]
  rfl
theorem F_X10_isHere_r5_1 {g w : Nat → Int} {W : List Int} {n p : Nat} {xa xe : Int} (hn : n ≤ 1600) (hW : W.length = 5) (hw : wa w W) (h : mp g n p xa xe) : F_X10_isHere_r5 xa (n : Int) xe (0 : Int) g w = (b2 (wh g n W p), (tx_a g n p : Int)) := by
  rw [F_X10_isHere_r5_g, ← gH_1 (f := 7) hn (by omega) hw h, hW]
  rfl
theorem F_X10_isHere_r5_0 {g w : Nat → Int} {xa n xe xb : Int} (h : ¬ xb = 0) : F_X10_isHere_r5 xa n xe xb g w = ((0 : Int), xa) := by
  rw [F_X10_isHere_r5_g, gH_0 h]
theorem F_X10_isHere_r6_76g (g w : Nat → Int) : ∀ k : Nat, F_X10_isHere_r6_76 g w k = gh_76 (6 : Int) g w k
  | 0 => rfl
  | k + 1 => by
    show F_X10_isHere_r6_76b g w (F_X10_isHere_r6_76 g w k) = gh_76b (6 : Int) g w (gh_76 (6 : Int) g w k)
    rw [F_X10_isHere_r6_76g g w k]
    rfl
theorem F_X10_isHere_r6_61g (g w : Nat → Int) (k a : Int) : F_X10_isHere_r6_61 g w k a = gh_61 (6 : Int) 8 g w k a := by
  unfold F_X10_isHere_r6_61
  rw [F_X10_isHere_r6_76g]
  rfl
theorem F_X10_isHere_r6_35g (n : Int) (g w : Nat → Int) : ∀ k : Nat, F_X10_isHere_r6_35 n g w k = gh_35 (6 : Int) 8 n g w k
  | 0 => rfl
  | k + 1 => by
    show F_X10_isHere_r6_35b n g w (F_X10_isHere_r6_35 n g w k) = gh_35b (6 : Int) 8 n g w (gh_35 (6 : Int) 8 n g w k)
    rw [F_X10_isHere_r6_35g n g w k]
    funext x y
    unfold F_X10_isHere_r6_35b gh_35b
    rw [F_X10_isHere_r6_61g]
theorem F_X10_isHere_r6_g (xa n xe xb : Int) (g w : Nat → Int) : F_X10_isHere_r6 xa n xe xb g w = gH (6 : Int) 8 xa n xe xb g w := by
  unfold F_X10_isHere_r6
  simp only [F_X10_isHere_r6_35g]
  rfl
theorem F_X10_isHere_r6_1 {g w : Nat → Int} {W : List Int} {n p : Nat} {xa xe : Int} (hn : n ≤ 1600) (hW : W.length = 6) (hw : wa w W) (h : mp g n p xa xe) : F_X10_isHere_r6 xa (n : Int) xe (0 : Int) g w = (b2 (wh g n W p), (tx_a g n p : Int)) := by
  rw [F_X10_isHere_r6_g, ← gH_1 (f := 8) hn (by omega) hw h, hW]
  rfl
theorem F_X10_isHere_r6_0 {g w : Nat → Int} {xa n xe xb : Int} (h : ¬ xb = 0) : F_X10_isHere_r6 xa n xe xb g w = ((0 : Int), xa) := by
  rw [F_X10_isHere_r6_g, gH_0 h]
end
section
/-! 32 -/
theorem sp_w1 {g : Nat → Int} {n p : Nat} (W : List Int) : sp_w g n [W] p = if wh g n W p = true then .inr (tx_e g n p) else .inl (1, (tx_a g n p : Int)) := by
  unfold sp_w wl wh wfind wfind
  by_cases q : tx_k g n p = 1
  · rw [if_pos q, decide_eq_true q]
    cases wq g (tx_e g n p) W (tx_a g n p) with
    | true => rfl
    | false => rfl
  · rw [if_neg q, decide_eq_false q]
    rfl
theorem wh_k {g : Nat → Int} {n p : Nat} {W : List Int} (h : wh g n W p = true) : tx_k g n p = 1 ∧ tx_e g n p = tx_a g n p + W.length := by
  unfold wh at h
  rw [Bool.and_eq_true] at h
  exact ⟨of_decide_eq_true h.1, wq_len W _ h.2⟩
/-- what is asked: a state behind it -/
def rm4 (g : Nat → Int) (n : Nat) (s : ST) (o : Int × Int × Int × Int) : Prop := rm g n s o.1 o.2.1 o.2.2.1 o.2.2.2
/-- a sign taken -/
def sp_s (g : Nat → Int) (n : Nat) (c : Int) (p : Nat) : ST := sp_need g n c p
theorem lk_sgn {g : Nat → Int} {n p : Nat} {c : Int} (hc : (0 ≤ c ∧ c ≤ 47 ∧ ¬ c = 10 ∧ ¬ c = 32) ∨ (58 ≤ c ∧ c ≤ 96)) : lk g n p = c ↔ (tx_k g n p = 3 ∧ g (tx_a g n p) = c) := by
  rw [tx_k3]
  unfold lk tx_so
  constructor
  · intro h
    (repeat' split at h) <;> (repeat' split) <;> omega
  · intro h
    obtain ⟨h1, h2⟩ := h
    (repeat' split at h1) <;> (repeat' split) <;> omega
theorem F_X10_takes_r2_1 {g w : Nat → Int} {W : List Int} {n p : Nat} {xa xe : Int} (hn : n ≤ 1600) (hW : W.length = 2) (hw : wa w W) (h : mp g n p xa xe) : F_X10_takes_r2 xa (n : Int) xe (0 : Int) g w = if wh g n W p = true then ((1 : Int), (tx_e g n p : Int), (tx_e g n p : Int)) else ((0 : Int), (tx_a g n p : Int), xe) := by
  unfold F_X10_takes_r2
  rw [F_X10_isHere_r2_1 hn hW hw h]
  cases c : wh g n W p with
  | false => rfl
  | true =>
    have h2 := (wh_k c).2
    show ((1 : Int), (tx_a g n p : Int) + (2 : Int), (tx_a g n p : Int) + (2 : Int)) = ((1 : Int), (tx_e g n p : Int), (tx_e g n p : Int))
    rw [show (tx_a g n p : Int) + (2 : Int) = (tx_e g n p : Int) from by omega]
theorem F_X10_takes_r2_0 {g w : Nat → Int} {xa n xe xb : Int} (h : ¬ xb = 0) : F_X10_takes_r2 xa n xe xb g w = ((0 : Int), xa, xe) := by
  unfold F_X10_takes_r2
  rw [F_X10_isHere_r2_0 h]
  rfl
theorem F_X10_asks_r2_s {g w : Nat → Int} {W : List Int} {n : Nat} {s : ST} {xa xe xb xp : Int} (hn : n ≤ 1600) (hW : W.length = 2) (hw : wa w W) (hv : sv n s) (h : rm g n s xa xe xb xp) : rm4 g n (sb s (sp_w g n [W])) (F_X10_asks_r2 xa (n : Int) xe xb xp g w) := by
  unfold F_X10_asks_r2
  cases s with
  | inl q =>
    have hb : ¬ xb = 0 := fun r => hv (h.1.symm.trans r)
    rw [if_neg hb]
    exact h
  | inr p =>
    obtain ⟨h1, h2, h3⟩ := h
    subst h1
    subst h2
    rw [if_pos rfl, F_X10_takes_r2_1 hn hW hw h3]
    show rm4 g n (sp_w g n [W] p) _
    rw [sp_w1]
    cases c : wh g n W p with
    | false => exact ⟨rfl, rfl⟩
    | true => exact ⟨rfl, rfl, mp_tok h3.1 (wh_k c).1 (Or.inl rfl)⟩
theorem F_X10_takes_1 {g w : Nat → Int} {W : List Int} {n p : Nat} {xa xe : Int} (hn : n ≤ 1600) (hW : W.length = 3) (hw : wa w W) (h : mp g n p xa xe) : F_X10_takes xa (n : Int) xe (0 : Int) g w = if wh g n W p = true then ((1 : Int), (tx_e g n p : Int), (tx_e g n p : Int)) else ((0 : Int), (tx_a g n p : Int), xe) := by
  unfold F_X10_takes
  rw [F_X10_isHere_1 hn hW hw h]
  cases c : wh g n W p with
  | false => rfl
  | true =>
    have h2 := (wh_k c).2
    show ((1 : Int), (tx_a g n p : Int) + (3 : Int), (tx_a g n p : Int) + (3 : Int)) = ((1 : Int), (tx_e g n p : Int), (tx_e g n p : Int))
    rw [show (tx_a g n p : Int) + (3 : Int) = (tx_e g n p : Int) from by omega]
theorem F_X10_takes_0 {g w : Nat → Int} {xa n xe xb : Int} (h : ¬ xb = 0) : F_X10_takes xa n xe xb g w = ((0 : Int), xa, xe) := by
  unfold F_X10_takes
  rw [F_X10_isHere_0 h]
  rfl
theorem F_X10_asks_s {g w : Nat → Int} {W : List Int} {n : Nat} {s : ST} {xa xe xb xp : Int} (hn : n ≤ 1600) (hW : W.length = 3) (hw : wa w W) (hv : sv n s) (h : rm g n s xa xe xb xp) : rm4 g n (sb s (sp_w g n [W])) (F_X10_asks xa (n : Int) xe xb xp g w) := by
  unfold F_X10_asks
  cases s with
  | inl q =>
    have hb : ¬ xb = 0 := fun r => hv (h.1.symm.trans r)
    rw [if_neg hb]
    exact h
  | inr p =>
    obtain ⟨h1, h2, h3⟩ := h
    subst h1
    subst h2
    rw [if_pos rfl, F_X10_takes_1 hn hW hw h3]
    show rm4 g n (sp_w g n [W] p) _
    rw [sp_w1]
    cases c : wh g n W p with
    | false => exact ⟨rfl, rfl⟩
    | true => exact ⟨rfl, rfl, mp_tok h3.1 (wh_k c).1 (Or.inl rfl)⟩
theorem F_X10_takes_r4_1 {g w : Nat → Int} {W : List Int} {n p : Nat} {xa xe : Int} (hn : n ≤ 1600) (hW : W.length = 4) (hw : wa w W) (h : mp g n p xa xe) : F_X10_takes_r4 xa (n : Int) xe (0 : Int) g w = if wh g n W p = true then ((1 : Int), (tx_e g n p : Int), (tx_e g n p : Int)) else ((0 : Int), (tx_a g n p : Int), xe) := by
  unfold F_X10_takes_r4
  rw [F_X10_isHere_r4_1 hn hW hw h]
  cases c : wh g n W p with
  | false => rfl
  | true =>
    have h2 := (wh_k c).2
    show ((1 : Int), (tx_a g n p : Int) + (4 : Int), (tx_a g n p : Int) + (4 : Int)) = ((1 : Int), (tx_e g n p : Int), (tx_e g n p : Int))
    rw [show (tx_a g n p : Int) + (4 : Int) = (tx_e g n p : Int) from by omega]
theorem F_X10_takes_r4_0 {g w : Nat → Int} {xa n xe xb : Int} (h : ¬ xb = 0) : F_X10_takes_r4 xa n xe xb g w = ((0 : Int), xa, xe) := by
  unfold F_X10_takes_r4
  rw [F_X10_isHere_r4_0 h]
  rfl
theorem F_X10_asks_r4_s {g w : Nat → Int} {W : List Int} {n : Nat} {s : ST} {xa xe xb xp : Int} (hn : n ≤ 1600) (hW : W.length = 4) (hw : wa w W) (hv : sv n s) (h : rm g n s xa xe xb xp) : rm4 g n (sb s (sp_w g n [W])) (F_X10_asks_r4 xa (n : Int) xe xb xp g w) := by
  unfold F_X10_asks_r4
  cases s with
  | inl q =>
    have hb : ¬ xb = 0 := fun r => hv (h.1.symm.trans r)
    rw [if_neg hb]
    exact h
  | inr p =>
    obtain ⟨h1, h2, h3⟩ := h
    subst h1
    subst h2
    rw [if_pos rfl, F_X10_takes_r4_1 hn hW hw h3]
    show rm4 g n (sp_w g n [W] p) _
    rw [sp_w1]
    cases c : wh g n W p with
    | false => exact ⟨rfl, rfl⟩
    | true => exact ⟨rfl, rfl, mp_tok h3.1 (wh_k c).1 (Or.inl rfl)⟩
theorem F_X10_takes_r5_1 {g w : Nat → Int} {W : List Int} {n p : Nat} {xa xe : Int} (hn : n ≤ 1600) (hW : W.length = 5) (hw : wa w W) (h : mp g n p xa xe) : F_X10_takes_r5 xa (n : Int) xe (0 : Int) g w = if wh g n W p = true then ((1 : Int), (tx_e g n p : Int), (tx_e g n p : Int)) else ((0 : Int), (tx_a g n p : Int), xe) := by
  unfold F_X10_takes_r5
  rw [F_X10_isHere_r5_1 hn hW hw h]
  cases c : wh g n W p with
  | false => rfl
  | true =>
    have h2 := (wh_k c).2
    show ((1 : Int), (tx_a g n p : Int) + (5 : Int), (tx_a g n p : Int) + (5 : Int)) = ((1 : Int), (tx_e g n p : Int), (tx_e g n p : Int))
    rw [show (tx_a g n p : Int) + (5 : Int) = (tx_e g n p : Int) from by omega]
theorem F_X10_takes_r5_0 {g w : Nat → Int} {xa n xe xb : Int} (h : ¬ xb = 0) : F_X10_takes_r5 xa n xe xb g w = ((0 : Int), xa, xe) := by
  unfold F_X10_takes_r5
  rw [F_X10_isHere_r5_0 h]
  rfl
theorem F_X10_asks_r5_s {g w : Nat → Int} {W : List Int} {n : Nat} {s : ST} {xa xe xb xp : Int} (hn : n ≤ 1600) (hW : W.length = 5) (hw : wa w W) (hv : sv n s) (h : rm g n s xa xe xb xp) : rm4 g n (sb s (sp_w g n [W])) (F_X10_asks_r5 xa (n : Int) xe xb xp g w) := by
  unfold F_X10_asks_r5
  cases s with
  | inl q =>
    have hb : ¬ xb = 0 := fun r => hv (h.1.symm.trans r)
    rw [if_neg hb]
    exact h
  | inr p =>
    obtain ⟨h1, h2, h3⟩ := h
    subst h1
    subst h2
    rw [if_pos rfl, F_X10_takes_r5_1 hn hW hw h3]
    show rm4 g n (sp_w g n [W] p) _
    rw [sp_w1]
    cases c : wh g n W p with
    | false => exact ⟨rfl, rfl⟩
    | true => exact ⟨rfl, rfl, mp_tok h3.1 (wh_k c).1 (Or.inl rfl)⟩
theorem F_X10_takes_r6_1 {g w : Nat → Int} {W : List Int} {n p : Nat} {xa xe : Int} (hn : n ≤ 1600) (hW : W.length = 6) (hw : wa w W) (h : mp g n p xa xe) : F_X10_takes_r6 xa (n : Int) xe (0 : Int) g w = if wh g n W p = true then ((1 : Int), (tx_e g n p : Int), (tx_e g n p : Int)) else ((0 : Int), (tx_a g n p : Int), xe) := by
  unfold F_X10_takes_r6
  rw [F_X10_isHere_r6_1 hn hW hw h]
  cases c : wh g n W p with
  | false => rfl
  | true =>
    have h2 := (wh_k c).2
    show ((1 : Int), (tx_a g n p : Int) + (6 : Int), (tx_a g n p : Int) + (6 : Int)) = ((1 : Int), (tx_e g n p : Int), (tx_e g n p : Int))
    rw [show (tx_a g n p : Int) + (6 : Int) = (tx_e g n p : Int) from by omega]
theorem F_X10_takes_r6_0 {g w : Nat → Int} {xa n xe xb : Int} (h : ¬ xb = 0) : F_X10_takes_r6 xa n xe xb g w = ((0 : Int), xa, xe) := by
  unfold F_X10_takes_r6
  rw [F_X10_isHere_r6_0 h]
  rfl
theorem F_X10_asks_r6_s {g w : Nat → Int} {W : List Int} {n : Nat} {s : ST} {xa xe xb xp : Int} (hn : n ≤ 1600) (hW : W.length = 6) (hw : wa w W) (hv : sv n s) (h : rm g n s xa xe xb xp) : rm4 g n (sb s (sp_w g n [W])) (F_X10_asks_r6 xa (n : Int) xe xb xp g w) := by
  unfold F_X10_asks_r6
  cases s with
  | inl q =>
    have hb : ¬ xb = 0 := fun r => hv (h.1.symm.trans r)
    rw [if_neg hb]
    exact h
  | inr p =>
    obtain ⟨h1, h2, h3⟩ := h
    subst h1
    subst h2
    rw [if_pos rfl, F_X10_takes_r6_1 hn hW hw h3]
    show rm4 g n (sp_w g n [W] p) _
    rw [sp_w1]
    cases c : wh g n W p with
    | false => exact ⟨rfl, rfl⟩
    | true => exact ⟨rfl, rfl, mp_tok h3.1 (wh_k c).1 (Or.inl rfl)⟩
theorem F_X10_takesSign_a0_40_1 {g : Nat → Int} {n p : Nat} {xa xe : Int} (hn : n ≤ 1600) (h : mp g n p xa xe) : F_X10_takesSign_a0_40 xa (n : Int) (0 : Int) g = if tx_k g n p = 3 ∧ g (tx_a g n p) = 40 then ((1 : Int), (tx_a g n p : Int) + 1) else ((0 : Int), (tx_a g n p : Int)) := by
  unfold F_X10_takesSign_a0_40
  rw [if_pos rfl, ml_look hn h]
  show (if lk g n p = (40 : Int) then _ else _) = _
  by_cases q : lk g n p = 40
  · rw [if_pos q, if_pos ((lk_sgn (by omega)).mp q)]
  · rw [if_neg q, if_neg (fun r => q ((lk_sgn (by omega)).mpr r))]
theorem F_X10_takesSign_a0_40_0 {g : Nat → Int} {xa n xb : Int} (h : ¬ xb = 0) : F_X10_takesSign_a0_40 xa n xb g = ((0 : Int), xa) := by
  unfold F_X10_takesSign_a0_40
  rw [if_neg h]
theorem F_X10_asksSign_a0_40_s {g : Nat → Int} {n : Nat} {s : ST} {xa xe xb xp : Int} (hn : n ≤ 1600) (hv : sv n s) (h : rm g n s xa xe xb xp) : rm g n (sb s (sp_need g n 40)) (F_X10_asksSign_a0_40 xa (n : Int) xb xp g).1 xe (F_X10_asksSign_a0_40 xa (n : Int) xb xp g).2.1 (F_X10_asksSign_a0_40 xa (n : Int) xb xp g).2.2 := by
  unfold F_X10_asksSign_a0_40
  cases s with
  | inl q =>
    have hb : ¬ xb = 0 := fun r => hv (h.1.symm.trans r)
    rw [if_neg hb]
    exact h
  | inr p =>
    obtain ⟨h1, h2, h3⟩ := h
    subst h1
    subst h2
    rw [if_pos rfl, F_X10_takesSign_a0_40_1 hn h3]
    show rm g n (sp_need g n 40 p) _ _ _ _
    unfold sp_need
    by_cases q : tx_k g n p = 3 ∧ g (tx_a g n p) = 40
    · rw [if_pos q, if_pos q]
      exact ⟨rfl, rfl, mp_sgn h3 q.1⟩
    · rw [if_neg q, if_neg q]
      exact ⟨rfl, rfl⟩
theorem F_X10_takesSign_a0_42_1 {g : Nat → Int} {n p : Nat} {xa xe : Int} (hn : n ≤ 1600) (h : mp g n p xa xe) : F_X10_takesSign_a0_42 xa (n : Int) (0 : Int) g = if tx_k g n p = 3 ∧ g (tx_a g n p) = 42 then ((1 : Int), (tx_a g n p : Int) + 1) else ((0 : Int), (tx_a g n p : Int)) := by
  unfold F_X10_takesSign_a0_42
  rw [if_pos rfl, ml_look hn h]
  show (if lk g n p = (42 : Int) then _ else _) = _
  by_cases q : lk g n p = 42
  · rw [if_pos q, if_pos ((lk_sgn (by omega)).mp q)]
  · rw [if_neg q, if_neg (fun r => q ((lk_sgn (by omega)).mpr r))]
theorem F_X10_takesSign_a0_42_0 {g : Nat → Int} {xa n xb : Int} (h : ¬ xb = 0) : F_X10_takesSign_a0_42 xa n xb g = ((0 : Int), xa) := by
  unfold F_X10_takesSign_a0_42
  rw [if_neg h]
theorem F_X10_takesSign_a0_43_1 {g : Nat → Int} {n p : Nat} {xa xe : Int} (hn : n ≤ 1600) (h : mp g n p xa xe) : F_X10_takesSign_a0_43 xa (n : Int) (0 : Int) g = if tx_k g n p = 3 ∧ g (tx_a g n p) = 43 then ((1 : Int), (tx_a g n p : Int) + 1) else ((0 : Int), (tx_a g n p : Int)) := by
  unfold F_X10_takesSign_a0_43
  rw [if_pos rfl, ml_look hn h]
  show (if lk g n p = (43 : Int) then _ else _) = _
  by_cases q : lk g n p = 43
  · rw [if_pos q, if_pos ((lk_sgn (by omega)).mp q)]
  · rw [if_neg q, if_neg (fun r => q ((lk_sgn (by omega)).mpr r))]
theorem F_X10_takesSign_a0_43_0 {g : Nat → Int} {xa n xb : Int} (h : ¬ xb = 0) : F_X10_takesSign_a0_43 xa n xb g = ((0 : Int), xa) := by
  unfold F_X10_takesSign_a0_43
  rw [if_neg h]
theorem F_X10_takesSign_a0_44_1 {g : Nat → Int} {n p : Nat} {xa xe : Int} (hn : n ≤ 1600) (h : mp g n p xa xe) : F_X10_takesSign_a0_44 xa (n : Int) (0 : Int) g = if tx_k g n p = 3 ∧ g (tx_a g n p) = 44 then ((1 : Int), (tx_a g n p : Int) + 1) else ((0 : Int), (tx_a g n p : Int)) := by
  unfold F_X10_takesSign_a0_44
  rw [if_pos rfl, ml_look hn h]
  show (if lk g n p = (44 : Int) then _ else _) = _
  by_cases q : lk g n p = 44
  · rw [if_pos q, if_pos ((lk_sgn (by omega)).mp q)]
  · rw [if_neg q, if_neg (fun r => q ((lk_sgn (by omega)).mpr r))]
theorem F_X10_takesSign_a0_44_0 {g : Nat → Int} {xa n xb : Int} (h : ¬ xb = 0) : F_X10_takesSign_a0_44 xa n xb g = ((0 : Int), xa) := by
  unfold F_X10_takesSign_a0_44
  rw [if_neg h]
theorem F_X10_asksSign_a0_44_s {g : Nat → Int} {n : Nat} {s : ST} {xa xe xb xp : Int} (hn : n ≤ 1600) (hv : sv n s) (h : rm g n s xa xe xb xp) : rm g n (sb s (sp_need g n 44)) (F_X10_asksSign_a0_44 xa (n : Int) xb xp g).1 xe (F_X10_asksSign_a0_44 xa (n : Int) xb xp g).2.1 (F_X10_asksSign_a0_44 xa (n : Int) xb xp g).2.2 := by
  unfold F_X10_asksSign_a0_44
  cases s with
  | inl q =>
    have hb : ¬ xb = 0 := fun r => hv (h.1.symm.trans r)
    rw [if_neg hb]
    exact h
  | inr p =>
    obtain ⟨h1, h2, h3⟩ := h
    subst h1
    subst h2
    rw [if_pos rfl, F_X10_takesSign_a0_44_1 hn h3]
    show rm g n (sp_need g n 44 p) _ _ _ _
    unfold sp_need
    by_cases q : tx_k g n p = 3 ∧ g (tx_a g n p) = 44
    · rw [if_pos q, if_pos q]
      exact ⟨rfl, rfl, mp_sgn h3 q.1⟩
    · rw [if_neg q, if_neg q]
      exact ⟨rfl, rfl⟩
theorem F_X10_takesSign_a0_45_1 {g : Nat → Int} {n p : Nat} {xa xe : Int} (hn : n ≤ 1600) (h : mp g n p xa xe) : F_X10_takesSign_a0_45 xa (n : Int) (0 : Int) g = if tx_k g n p = 3 ∧ g (tx_a g n p) = 45 then ((1 : Int), (tx_a g n p : Int) + 1) else ((0 : Int), (tx_a g n p : Int)) := by
  unfold F_X10_takesSign_a0_45
  rw [if_pos rfl, ml_look hn h]
  show (if lk g n p = (45 : Int) then _ else _) = _
  by_cases q : lk g n p = 45
  · rw [if_pos q, if_pos ((lk_sgn (by omega)).mp q)]
  · rw [if_neg q, if_neg (fun r => q ((lk_sgn (by omega)).mpr r))]
theorem F_X10_takesSign_a0_45_0 {g : Nat → Int} {xa n xb : Int} (h : ¬ xb = 0) : F_X10_takesSign_a0_45 xa n xb g = ((0 : Int), xa) := by
  unfold F_X10_takesSign_a0_45
  rw [if_neg h]
theorem F_X10_takesSign_a0_47_1 {g : Nat → Int} {n p : Nat} {xa xe : Int} (hn : n ≤ 1600) (h : mp g n p xa xe) : F_X10_takesSign_a0_47 xa (n : Int) (0 : Int) g = if tx_k g n p = 3 ∧ g (tx_a g n p) = 47 then ((1 : Int), (tx_a g n p : Int) + 1) else ((0 : Int), (tx_a g n p : Int)) := by
  unfold F_X10_takesSign_a0_47
  rw [if_pos rfl, ml_look hn h]
  show (if lk g n p = (47 : Int) then _ else _) = _
  by_cases q : lk g n p = 47
  · rw [if_pos q, if_pos ((lk_sgn (by omega)).mp q)]
  · rw [if_neg q, if_neg (fun r => q ((lk_sgn (by omega)).mpr r))]
theorem F_X10_takesSign_a0_47_0 {g : Nat → Int} {xa n xb : Int} (h : ¬ xb = 0) : F_X10_takesSign_a0_47 xa n xb g = ((0 : Int), xa) := by
  unfold F_X10_takesSign_a0_47
  rw [if_neg h]
theorem F_X10_takesSign_a0_59_1 {g : Nat → Int} {n p : Nat} {xa xe : Int} (hn : n ≤ 1600) (h : mp g n p xa xe) : F_X10_takesSign_a0_59 xa (n : Int) (0 : Int) g = if tx_k g n p = 3 ∧ g (tx_a g n p) = 59 then ((1 : Int), (tx_a g n p : Int) + 1) else ((0 : Int), (tx_a g n p : Int)) := by
  unfold F_X10_takesSign_a0_59
  rw [if_pos rfl, ml_look hn h]
  show (if lk g n p = (59 : Int) then _ else _) = _
  by_cases q : lk g n p = 59
  · rw [if_pos q, if_pos ((lk_sgn (by omega)).mp q)]
  · rw [if_neg q, if_neg (fun r => q ((lk_sgn (by omega)).mpr r))]
theorem F_X10_takesSign_a0_59_0 {g : Nat → Int} {xa n xb : Int} (h : ¬ xb = 0) : F_X10_takesSign_a0_59 xa n xb g = ((0 : Int), xa) := by
  unfold F_X10_takesSign_a0_59
  rw [if_neg h]
theorem F_X10_asksSign_a0_59_s {g : Nat → Int} {n : Nat} {s : ST} {xa xe xb xp : Int} (hn : n ≤ 1600) (hv : sv n s) (h : rm g n s xa xe xb xp) : rm g n (sb s (sp_need g n 59)) (F_X10_asksSign_a0_59 xa (n : Int) xb xp g).1 xe (F_X10_asksSign_a0_59 xa (n : Int) xb xp g).2.1 (F_X10_asksSign_a0_59 xa (n : Int) xb xp g).2.2 := by
  unfold F_X10_asksSign_a0_59
  cases s with
  | inl q =>
    have hb : ¬ xb = 0 := fun r => hv (h.1.symm.trans r)
    rw [if_neg hb]
    exact h
  | inr p =>
    obtain ⟨h1, h2, h3⟩ := h
    subst h1
    subst h2
    rw [if_pos rfl, F_X10_takesSign_a0_59_1 hn h3]
    show rm g n (sp_need g n 59 p) _ _ _ _
    unfold sp_need
    by_cases q : tx_k g n p = 3 ∧ g (tx_a g n p) = 59
    · rw [if_pos q, if_pos q]
      exact ⟨rfl, rfl, mp_sgn h3 q.1⟩
    · rw [if_neg q, if_neg q]
      exact ⟨rfl, rfl⟩
/-- the model's number, any bounds -/
def gm_f (lo hi xb xp : Int) (b a v : Int) : Int × Int × Int × Int × Int := if (lf_isin v lo hi) = (0 : Int) then (v, a, a, (2 : Int), b) else (v, a, a, xb, xp)
def gm_b (n xe xb xp : Int) (g : Nat → Int) (lo hi : Int) (K : Int → Int → Int → Int × Int × Int × Int × Int) (b a v : Int) : Int × Int × Int × Int × Int := if n ≤ a then gm_f lo hi xb xp b a v else (lf_b (F_X10_isDigit (g (Int.toNat a))) (fun r => (if r = (0 : Int) then gm_f lo hi xb xp b a v else (if (a - b) = (4 : Int) then ((0 : Int), a, xe, (1 : Int), a) else (K b (a + (1 : Int)) (lf_o lf_isub (lf_o lf_iadd (lf_o lf_imul (10 : Int) v) (g (Int.toNat a))) (48 : Int)))))))
def gm (n xe xb xp : Int) (g : Nat → Int) (lo hi : Int) : Nat → Int → Int → Int → Int × Int × Int × Int × Int
  | 0 => fun _ _ _ => ((0 : Int), (0 : Int), (0 : Int), (0 : Int), (0 : Int))
  | k + 1 => gm_b n xe xb xp g lo hi (gm n xe xb xp g lo hi k)
def gM (xa n xe xb xp : Int) (g : Nat → Int) (lo hi : Int) : Int × Int × Int × Int × Int := if xb = (0 : Int) then (lf_p (F_X10_look xa n g) (fun c v => (lf_b (F_X10_isDigit c) (fun r => (if r = (0 : Int) then ((0 : Int), v, xe, (1 : Int), v) else (if v = xe then ((0 : Int), v, xe, (1 : Int), v) else gm n xe xb xp g lo hi 1602 v v (0 : Int))))))) else ((0 : Int), xa, xe, xb, xp)
theorem gm_st {v d : Int} (h1 : 0 ≤ v) (h2 : v ≤ 99999) (h3 : 48 ≤ d) (h4 : d ≤ 57) : lf_o lf_isub (lf_o lf_iadd (lf_o lf_imul (10 : Int) v) d) (48 : Int) = v * 10 + d - 48 := by
  rw [lo_mul (by omega) (by omega) (by omega) (by omega) (by omega) (by omega), lo_add (by omega) (by omega) (by omega) (by omega) (by omega) (by omega), lo_sub (by omega) (by omega) (by omega) (by omega) (by omega) (by omega)]
  omega
/-- digits from b on up to e: as many as there are, or a fifth -/
theorem gm_loop {g : Nat → Int} {n b e : Nat} {xe xb xp lo hi : Int} (he : e ≤ n) (hd : ∀ k, b ≤ k → k < e → tx_so g n k = 2) (hx : e < n → ¬ tx_so g n e = 2) : ∀ (k a : Nat) (v : Int), b ≤ a → a ≤ e → a ≤ b + 4 → n - a < k → 0 ≤ v → v < bd10 (4 - (a - b)) → gm (n : Int) xe xb xp g lo hi k (b : Int) (a : Int) v = if e ≤ b + 4 then gm_f lo hi xb xp (b : Int) (e : Int) (dval g (e - a) a v) else ((0 : Int), (b : Int) + 4, xe, (1 : Int), (b : Int) + 4) := by
  intro k
  induction k with
  | zero => intro a v h1 h2 h3 h4; omega
  | succ k ih =>
    intro a v h1 h2 h3 h4 h5 h6
    show gm_b (n : Int) xe xb xp g lo hi (gm (n : Int) xe xb xp g lo hi k) (b : Int) (a : Int) v = _
    unfold gm_b
    repeat rw [lf_b_e]
    rw [Int.toNat_natCast]
    by_cases c : a = e
    · have e0 : e - a = 0 := by omega
      rw [if_pos (by omega : e ≤ b + 4), e0]
      by_cases c2 : a < n
      · rw [if_neg (by omega), so_dig c2, if_neg (show ¬ tx_so g n a = 2 from by rw [c]; exact hx (by omega)), if_pos rfl, c]
        rfl
      · rw [if_pos (by omega), c]
        rfl
    · have h7 := hd a h1 (by omega)
      have h8 := tx_so_2 h7
      rw [if_neg (by omega), so_dig h8.1, if_pos h7, if_neg (by decide)]
      by_cases c3 : a = b + 4
      · rw [if_pos (by omega), if_neg (by omega), show (a : Int) = (b : Int) + 4 from by omega]
      · obtain ⟨r, hr⟩ : ∃ r, 4 - (a - b) = r + 1 := ⟨4 - (a - b) - 1, by omega⟩
        rw [hr] at h6
        obtain ⟨b1, b2, b3⟩ := bd10_s (by omega) h5 h6 h8.2.1 h8.2.2
        rw [if_neg (by omega), gm_st h5 b1 h8.2.1 h8.2.2, show (a : Int) + (1 : Int) = ((a + 1 : Nat) : Int) from by omega, ih (a + 1) _ (by omega) (by omega) (by omega) (by omega) b2 (by rw [show 4 - (a + 1 - b) = r from by omega]; exact b3)]
        obtain ⟨r2, hr2⟩ : ∃ r2, e - a = r2 + 1 := ⟨e - a - 1, by omega⟩
        rw [hr2, show e - (a + 1) = r2 from by omega]
        rfl
def rm5 (g : Nat → Int) (n : Nat) (s : Int × ST) (o : Int × Int × Int × Int × Int) : Prop := rm g n s.2 o.2.1 o.2.2.1 o.2.2.2.1 o.2.2.2.2 ∧ ∀ p, s.2 = .inr p → o.1 = s.1
theorem gM_1 {g : Nat → Int} {n p : Nat} {xa xe : Int} (hn : n ≤ 1600) (h : mp g n p xa xe) (lo hi : Int) : rm5 g n (sp_num g n lo hi p) (gM xa (n : Int) xe (0 : Int) (-1 : Int) g lo hi) := by
  unfold gM
  repeat rw [lf_b_e]
  rw [if_pos rfl, ml_look hn h]
  show rm5 g n (sp_num g n lo hi p) (if F_X10_isDigit (lk g n p) = (0 : Int) then ((0 : Int), (tx_a g n p : Int), xe, (1 : Int), (tx_a g n p : Int)) else (if (tx_a g n p : Int) = xe then ((0 : Int), (tx_a g n p : Int), xe, (1 : Int), (tx_a g n p : Int)) else gm (n : Int) xe (0 : Int) (-1 : Int) g lo hi 1602 (tx_a g n p : Int) (tx_a g n p : Int) (0 : Int)))
  rw [lk_dig]
  unfold sp_num
  by_cases q : tx_so g n (tx_a g n p) = 2
  · have hlt := tx_so_2 q
    rw [if_pos q, if_neg (show ¬ (1 : Int) = 0 from by decide)]
    by_cases q2 : (tx_a g n p : Int) = xe
    · have q3 := (mp_gl h).mp q2
      rw [if_pos q2, tx_k_yes rfl q3.1 q3.2.1 q3.2.2 (Or.inr q), if_neg (show ¬ (4 : Nat) = 2 from by decide)]
      exact ⟨⟨rfl, rfl⟩, fun p r => by cases r⟩
    · have hk : tx_k g n p = 2 := by
        rw [tx_k_no rfl (fun r => q2 ((mp_gl h).mpr ⟨r.1, r.2.1, r.2.2.1⟩))]
        exact q
      have h9 := tx_e_in hk (Or.inr rfl)
      have he := tx_e_le (f := g) h.1
      have hx : tx_e g n p < n → ¬ tx_so g n (tx_e g n p) = 2 := by
        intro r1 r2
        have e : tx_e g n p = tx_run (tx_s g n 2) n (tx_a g n p + 1) := by
          unfold tx_e
          rw [if_neg (by omega), if_neg (by omega), q]
        have := tx_run_end (tx_s g n 2) n (tx_a g n p + 1)
        rw [← e] at this
        exact this ⟨r1, decide_eq_true r2⟩
      rw [if_neg q2, if_pos hk, gm_loop he (fun k h1 h2 => h9.2 k h1 h2) hx 1602 (tx_a g n p) 0 (Nat.le_refl _) (by omega) (by omega) (by omega) (by omega) (by rw [show 4 - (tx_a g n p - tx_a g n p) = 4 from by omega]; decide)]
      by_cases q4 : tx_e g n p ≤ tx_a g n p + 4
      · rw [if_pos q4, if_pos (by omega)]
        generalize dval g (tx_e g n p - tx_a g n p) (tx_a g n p) 0 = v
        unfold gm_f lf_isin
        by_cases q5 : v < lo ∨ hi < v
        · rw [if_pos q5, if_neg (by omega : ¬ (lo ≤ v ∧ v ≤ hi)), if_pos rfl]
          exact ⟨⟨rfl, rfl⟩, fun p r => by cases r⟩
        · rw [if_neg q5, if_pos (by omega : lo ≤ v ∧ v ≤ hi), if_neg (show ¬ (1 : Int) = 0 from by decide)]
          exact ⟨⟨rfl, rfl, mp_tok h.1 hk (Or.inr rfl)⟩, fun p r => rfl⟩
      · rw [if_neg q4, if_neg (by omega)]
        exact ⟨⟨rfl, rfl⟩, fun p r => by cases r⟩
  · rw [if_neg q, if_pos rfl]
    have hk : ¬ tx_k g n p = 2 := by
      rcases tx_k_so (g := g) (n := n) (p := p) with r | r
      · omega
      · omega
    rw [if_neg hk]
    exact ⟨⟨rfl, rfl⟩, fun p r => by cases r⟩
theorem F_X10_number_a0_0_a1_100_l (n xe xb xp : Int) (g : Nat → Int) : ∀ k : Nat, F_X10_number_a0_0_a1_100_49 n xe xb xp g k = gm n xe xb xp g (0 : Int) (100 : Int) k
  | 0 => rfl
  | k + 1 => by
    show F_X10_number_a0_0_a1_100_49b n xe xb xp g (F_X10_number_a0_0_a1_100_49 n xe xb xp g k) = gm_b n xe xb xp g (0 : Int) (100 : Int) (gm n xe xb xp g (0 : Int) (100 : Int) k)
    rw [F_X10_number_a0_0_a1_100_l n xe xb xp g k]
    rfl
theorem F_X10_number_a0_0_a1_100_g (xa n xe xb xp : Int) (g : Nat → Int) : F_X10_number_a0_0_a1_100 xa n xe xb xp g = gM xa n xe xb xp g (0 : Int) (100 : Int) := by
  unfold F_X10_number_a0_0_a1_100
  simp only [F_X10_number_a0_0_a1_100_l]
  rfl
theorem F_X10_number_a0_0_a1_199_l (n xe xb xp : Int) (g : Nat → Int) : ∀ k : Nat, F_X10_number_a0_0_a1_199_49 n xe xb xp g k = gm n xe xb xp g (0 : Int) (199 : Int) k
  | 0 => rfl
  | k + 1 => by
    show F_X10_number_a0_0_a1_199_49b n xe xb xp g (F_X10_number_a0_0_a1_199_49 n xe xb xp g k) = gm_b n xe xb xp g (0 : Int) (199 : Int) (gm n xe xb xp g (0 : Int) (199 : Int) k)
    rw [F_X10_number_a0_0_a1_199_l n xe xb xp g k]
    rfl
theorem F_X10_number_a0_0_a1_199_g (xa n xe xb xp : Int) (g : Nat → Int) : F_X10_number_a0_0_a1_199 xa n xe xb xp g = gM xa n xe xb xp g (0 : Int) (199 : Int) := by
  unfold F_X10_number_a0_0_a1_199
  simp only [F_X10_number_a0_0_a1_199_l]
  rfl
theorem F_X10_number_a0_0_a1_2_l (n xe xb xp : Int) (g : Nat → Int) : ∀ k : Nat, F_X10_number_a0_0_a1_2_49 n xe xb xp g k = gm n xe xb xp g (0 : Int) (2 : Int) k
  | 0 => rfl
  | k + 1 => by
    show F_X10_number_a0_0_a1_2_49b n xe xb xp g (F_X10_number_a0_0_a1_2_49 n xe xb xp g k) = gm_b n xe xb xp g (0 : Int) (2 : Int) (gm n xe xb xp g (0 : Int) (2 : Int) k)
    rw [F_X10_number_a0_0_a1_2_l n xe xb xp g k]
    rfl
theorem F_X10_number_a0_0_a1_2_g (xa n xe xb xp : Int) (g : Nat → Int) : F_X10_number_a0_0_a1_2 xa n xe xb xp g = gM xa n xe xb xp g (0 : Int) (2 : Int) := by
  unfold F_X10_number_a0_0_a1_2
  simp only [F_X10_number_a0_0_a1_2_l]
  rfl
theorem F_X10_number_a0_0_a1_9_l (n xe xb xp : Int) (g : Nat → Int) : ∀ k : Nat, F_X10_number_a0_0_a1_9_49 n xe xb xp g k = gm n xe xb xp g (0 : Int) (9 : Int) k
  | 0 => rfl
  | k + 1 => by
    show F_X10_number_a0_0_a1_9_49b n xe xb xp g (F_X10_number_a0_0_a1_9_49 n xe xb xp g k) = gm_b n xe xb xp g (0 : Int) (9 : Int) (gm n xe xb xp g (0 : Int) (9 : Int) k)
    rw [F_X10_number_a0_0_a1_9_l n xe xb xp g k]
    rfl
theorem F_X10_number_a0_0_a1_9_g (xa n xe xb xp : Int) (g : Nat → Int) : F_X10_number_a0_0_a1_9 xa n xe xb xp g = gM xa n xe xb xp g (0 : Int) (9 : Int) := by
  unfold F_X10_number_a0_0_a1_9
  simp only [F_X10_number_a0_0_a1_9_l]
  rfl
theorem F_X10_number_a0_0_a1_99_l (n xe xb xp : Int) (g : Nat → Int) : ∀ k : Nat, F_X10_number_a0_0_a1_99_49 n xe xb xp g k = gm n xe xb xp g (0 : Int) (99 : Int) k
  | 0 => rfl
  | k + 1 => by
    show F_X10_number_a0_0_a1_99_49b n xe xb xp g (F_X10_number_a0_0_a1_99_49 n xe xb xp g k) = gm_b n xe xb xp g (0 : Int) (99 : Int) (gm n xe xb xp g (0 : Int) (99 : Int) k)
    rw [F_X10_number_a0_0_a1_99_l n xe xb xp g k]
    rfl
theorem F_X10_number_a0_0_a1_99_g (xa n xe xb xp : Int) (g : Nat → Int) : F_X10_number_a0_0_a1_99 xa n xe xb xp g = gM xa n xe xb xp g (0 : Int) (99 : Int) := by
  unfold F_X10_number_a0_0_a1_99
  simp only [F_X10_number_a0_0_a1_99_l]
  rfl
theorem F_X10_number_a0_0_a1_9999_l (n xe xb xp : Int) (g : Nat → Int) : ∀ k : Nat, F_X10_number_a0_0_a1_9999_49 n xe xb xp g k = gm n xe xb xp g (0 : Int) (9999 : Int) k
  | 0 => rfl
  | k + 1 => by
    show F_X10_number_a0_0_a1_9999_49b n xe xb xp g (F_X10_number_a0_0_a1_9999_49 n xe xb xp g k) = gm_b n xe xb xp g (0 : Int) (9999 : Int) (gm n xe xb xp g (0 : Int) (9999 : Int) k)
    rw [F_X10_number_a0_0_a1_9999_l n xe xb xp g k]
    rfl
theorem F_X10_number_a0_0_a1_9999_g (xa n xe xb xp : Int) (g : Nat → Int) : F_X10_number_a0_0_a1_9999 xa n xe xb xp g = gM xa n xe xb xp g (0 : Int) (9999 : Int) := by
  unfold F_X10_number_a0_0_a1_9999
  simp only [F_X10_number_a0_0_a1_9999_l]
  rfl
theorem F_X10_number_a0_1_l (n xe xb xp : Int) (g : Nat → Int) (h : Int) : ∀ k : Nat, F_X10_number_a0_1_49 n xe xb xp g h k = gm n xe xb xp g (1 : Int) h k
  | 0 => rfl
  | k + 1 => by
    show F_X10_number_a0_1_49b n xe xb xp g h (F_X10_number_a0_1_49 n xe xb xp g h k) = gm_b n xe xb xp g (1 : Int) h (gm n xe xb xp g (1 : Int) h k)
    rw [F_X10_number_a0_1_l n xe xb xp g h k]
    rfl
theorem F_X10_number_a0_1_g (xa n xe xb xp : Int) (g : Nat → Int) (h : Int) : F_X10_number_a0_1 xa n xe xb xp g h = gM xa n xe xb xp g (1 : Int) h := by
  unfold F_X10_number_a0_1
  simp only [F_X10_number_a0_1_l]
  rfl
theorem F_X10_number_a0_10_a1_120_l (n xe xb xp : Int) (g : Nat → Int) : ∀ k : Nat, F_X10_number_a0_10_a1_120_49 n xe xb xp g k = gm n xe xb xp g (10 : Int) (120 : Int) k
  | 0 => rfl
  | k + 1 => by
    show F_X10_number_a0_10_a1_120_49b n xe xb xp g (F_X10_number_a0_10_a1_120_49 n xe xb xp g k) = gm_b n xe xb xp g (10 : Int) (120 : Int) (gm n xe xb xp g (10 : Int) (120 : Int) k)
    rw [F_X10_number_a0_10_a1_120_l n xe xb xp g k]
    rfl
theorem F_X10_number_a0_10_a1_120_g (xa n xe xb xp : Int) (g : Nat → Int) : F_X10_number_a0_10_a1_120 xa n xe xb xp g = gM xa n xe xb xp g (10 : Int) (120 : Int) := by
  unfold F_X10_number_a0_10_a1_120
  simp only [F_X10_number_a0_10_a1_120_l]
  rfl
theorem F_X10_number_a0_1_a1_20_l (n xe xb xp : Int) (g : Nat → Int) : ∀ k : Nat, F_X10_number_a0_1_a1_20_49 n xe xb xp g k = gm n xe xb xp g (1 : Int) (20 : Int) k
  | 0 => rfl
  | k + 1 => by
    show F_X10_number_a0_1_a1_20_49b n xe xb xp g (F_X10_number_a0_1_a1_20_49 n xe xb xp g k) = gm_b n xe xb xp g (1 : Int) (20 : Int) (gm n xe xb xp g (1 : Int) (20 : Int) k)
    rw [F_X10_number_a0_1_a1_20_l n xe xb xp g k]
    rfl
theorem F_X10_number_a0_1_a1_20_g (xa n xe xb xp : Int) (g : Nat → Int) : F_X10_number_a0_1_a1_20 xa n xe xb xp g = gM xa n xe xb xp g (1 : Int) (20 : Int) := by
  unfold F_X10_number_a0_1_a1_20
  simp only [F_X10_number_a0_1_a1_20_l]
  rfl
theorem F_X10_number_a0_1_a1_60_l (n xe xb xp : Int) (g : Nat → Int) : ∀ k : Nat, F_X10_number_a0_1_a1_60_49 n xe xb xp g k = gm n xe xb xp g (1 : Int) (60 : Int) k
  | 0 => rfl
  | k + 1 => by
    show F_X10_number_a0_1_a1_60_49b n xe xb xp g (F_X10_number_a0_1_a1_60_49 n xe xb xp g k) = gm_b n xe xb xp g (1 : Int) (60 : Int) (gm n xe xb xp g (1 : Int) (60 : Int) k)
    rw [F_X10_number_a0_1_a1_60_l n xe xb xp g k]
    rfl
theorem F_X10_number_a0_1_a1_60_g (xa n xe xb xp : Int) (g : Nat → Int) : F_X10_number_a0_1_a1_60 xa n xe xb xp g = gM xa n xe xb xp g (1 : Int) (60 : Int) := by
  unfold F_X10_number_a0_1_a1_60
  simp only [F_X10_number_a0_1_a1_60_l]
  rfl
end
section
/-! 28 -/
theorem lf_p_e {α β γ : Type} (x : α) (y : β) (G : α → β → γ) : lf_p (x, y) G = G x y := rfl
theorem lf_pc {γ : Type} (g : Nat → Int) (n : Nat) (s : ST) (G : Int → Int × Int × Int × Int → γ) : lf_p (cst g n s) G = G (cst g n s).1 (cst g n s).2 := rfl
theorem lf_p2 {α β γ δ : Type} (x : δ × α × β) (G : α → β → γ) : lf_p x.2 G = G x.2.1 x.2.2 := rfl
theorem lf_pa {α γ : Type} (c : Int × Int × Int × Int × Int) (x : α) (G : Int → Int × Int × Int × Int × α → γ) : lf_p (ap5 c x) G = G c.1 (c.2.1, c.2.2.1, c.2.2.2.1, c.2.2.2.2, x) := rfl
/-- a number behind a state -/
def sbv (s : ST) (f : Nat → Int × ST) (d : Int) : Int × ST := match s with
  | .inl q => (d, .inl q)
  | .inr p => f p
theorem sbv_v {n : Nat} {s : ST} {f : Nat → Int × ST} {d : Int} (h : sv n s) (hf : ∀ p, p ≤ n → sv n (f p).2) : sv n (sbv s f d).2 := by
  cases s with
  | inl q => exact h
  | inr p => exact hf p h
theorem F_X5_needWord_s3_s {g : Nat → Int} {n : Nat} {s : ST} (hn : n ≤ 1600) (hv : sv n s) : F_X5_needWord_s3 g (n : Int) (cst g n s).1 (cst g n s).2.1 (cst g n s).2.2.1 (cst g n s).2.2.2.1 (cst g n s).2.2.2.2 = cst g n (sb s (sp_w g n ws_3)) := by
  cases s with
  | inl q => exact F_X5_needWord_s3_0 hv
  | inr p => exact F_X5_needWord_s3_1 hn hv
theorem F_X5_needWord_s4_s {g : Nat → Int} {n : Nat} {s : ST} (hn : n ≤ 1600) (hv : sv n s) : F_X5_needWord_s4 g (n : Int) (cst g n s).1 (cst g n s).2.1 (cst g n s).2.2.1 (cst g n s).2.2.2.1 (cst g n s).2.2.2.2 = cst g n (sb s (sp_w g n ws_4)) := by
  cases s with
  | inl q => exact F_X5_needWord_s4_0 hv
  | inr p => exact F_X5_needWord_s4_1 hn hv
theorem F_X5_needWord_s5_s {g : Nat → Int} {n : Nat} {s : ST} (hn : n ≤ 1600) (hv : sv n s) : F_X5_needWord_s5 g (n : Int) (cst g n s).1 (cst g n s).2.1 (cst g n s).2.2.1 (cst g n s).2.2.2.1 (cst g n s).2.2.2.2 = cst g n (sb s (sp_w g n ws_5)) := by
  cases s with
  | inl q => exact F_X5_needWord_s5_0 hv
  | inr p => exact F_X5_needWord_s5_1 hn hv
theorem F_X5_needWord_s6_s {g : Nat → Int} {n : Nat} {s : ST} (hn : n ≤ 1600) (hv : sv n s) : F_X5_needWord_s6 g (n : Int) (cst g n s).1 (cst g n s).2.1 (cst g n s).2.2.1 (cst g n s).2.2.2.1 (cst g n s).2.2.2.2 = cst g n (sb s (sp_w g n ws_6)) := by
  cases s with
  | inl q => exact F_X5_needWord_s6_0 hv
  | inr p => exact F_X5_needWord_s6_1 hn hv
theorem F_X5_needWord_s7_s {g : Nat → Int} {n : Nat} {s : ST} (hn : n ≤ 1600) (hv : sv n s) : F_X5_needWord_s7 g (n : Int) (cst g n s).1 (cst g n s).2.1 (cst g n s).2.2.1 (cst g n s).2.2.2.1 (cst g n s).2.2.2.2 = cst g n (sb s (sp_w g n ws_7)) := by
  cases s with
  | inl q => exact F_X5_needWord_s7_0 hv
  | inr p => exact F_X5_needWord_s7_1 hn hv
theorem F_X5_needWord_s8_s {g : Nat → Int} {n : Nat} {s : ST} (hn : n ≤ 1600) (hv : sv n s) : F_X5_needWord_s8 g (n : Int) (cst g n s).1 (cst g n s).2.1 (cst g n s).2.2.1 (cst g n s).2.2.2.1 (cst g n s).2.2.2.2 = cst g n (sb s (sp_w g n ws_8)) := by
  cases s with
  | inl q => exact F_X5_needWord_s8_0 hv
  | inr p => exact F_X5_needWord_s8_1 hn hv
theorem F_X5_needWord_s9_s {g : Nat → Int} {n : Nat} {s : ST} (hn : n ≤ 1600) (hv : sv n s) : F_X5_needWord_s9 g (n : Int) (cst g n s).1 (cst g n s).2.1 (cst g n s).2.2.1 (cst g n s).2.2.2.1 (cst g n s).2.2.2.2 = cst g n (sb s (sp_w g n ws_9)) := by
  cases s with
  | inl q => exact F_X5_needWord_s9_0 hv
  | inr p => exact F_X5_needWord_s9_1 hn hv
theorem F_X5_needWord_s10_s {g : Nat → Int} {n : Nat} {s : ST} (hn : n ≤ 1600) (hv : sv n s) : F_X5_needWord_s10 g (n : Int) (cst g n s).1 (cst g n s).2.1 (cst g n s).2.2.1 (cst g n s).2.2.2.1 (cst g n s).2.2.2.2 = cst g n (sb s (sp_w g n ws_10)) := by
  cases s with
  | inl q => exact F_X5_needWord_s10_0 hv
  | inr p => exact F_X5_needWord_s10_1 hn hv
theorem F_X5_needWord_s11_s {g : Nat → Int} {n : Nat} {s : ST} (hn : n ≤ 1600) (hv : sv n s) : F_X5_needWord_s11 g (n : Int) (cst g n s).1 (cst g n s).2.1 (cst g n s).2.2.1 (cst g n s).2.2.2.1 (cst g n s).2.2.2.2 = cst g n (sb s (sp_w g n ws_11)) := by
  cases s with
  | inl q => exact F_X5_needWord_s11_0 hv
  | inr p => exact F_X5_needWord_s11_1 hn hv
theorem F_X5_needWord_s1_s {g : Nat → Int} {n : Nat} {s : ST} (hn : n ≤ 1600) (hv : sv n s) : F_X5_needWord_s1 g (n : Int) (cst g n s).1 (cst g n s).2.1 (cst g n s).2.2.1 (cst g n s).2.2.2.1 (cst g n s).2.2.2.2 = cst g n (sb s (sp_w g n ws_1)) := by
  cases s with
  | inl q => exact F_X5_needWord_s1_0 hv
  | inr p => exact F_X5_needWord_s1_1 hn hv
theorem F_X5_numberBehind_a1_10_a2_120_s3_s {g : Nat → Int} {n : Nat} {s : ST} (hn : n ≤ 1600) (hv : sv n s) : F_X5_numberBehind_a1_10_a2_120_s3 g (n : Int) (cst g n s).1 (cst g n s).2.1 (cst g n s).2.2.1 (cst g n s).2.2.2.1 (cst g n s).2.2.2.2 = ((sbv s (sp_nb g n ws_3 10 120) 10).1, cst g n (sbv s (sp_nb g n ws_3 10 120) 10).2) := by
  cases s with
  | inl q => exact F_X5_numberBehind_a1_10_a2_120_s3_0 hv
  | inr p => exact F_X5_numberBehind_a1_10_a2_120_s3_1 hn hv
theorem F_X5_numberBehind_a1_1_s4_s {g : Nat → Int} {n : Nat} {s : ST} (hn : n ≤ 1600) (hv : sv n s) (h : Int) : F_X5_numberBehind_a1_1_s4 g (n : Int) (cst g n s).1 (cst g n s).2.1 (cst g n s).2.2.1 (cst g n s).2.2.2.1 (cst g n s).2.2.2.2 h = ((sbv s (sp_nb g n ws_4 1 h) 1).1, cst g n (sbv s (sp_nb g n ws_4 1 h) 1).2) := by
  cases s with
  | inl q => exact F_X5_numberBehind_a1_1_s4_0 hv h
  | inr p => exact F_X5_numberBehind_a1_1_s4_1 hn hv h
theorem F_X5_numberBehind_a1_0_a2_2_s5_s {g : Nat → Int} {n : Nat} {s : ST} (hn : n ≤ 1600) (hv : sv n s) : F_X5_numberBehind_a1_0_a2_2_s5 g (n : Int) (cst g n s).1 (cst g n s).2.1 (cst g n s).2.2.1 (cst g n s).2.2.2.1 (cst g n s).2.2.2.2 = ((sbv s (sp_nb g n ws_5 0 2) 0).1, cst g n (sbv s (sp_nb g n ws_5 0 2) 0).2) := by
  cases s with
  | inl q => exact F_X5_numberBehind_a1_0_a2_2_s5_0 hv
  | inr p => exact F_X5_numberBehind_a1_0_a2_2_s5_1 hn hv
theorem F_X5_numberBehind_a1_0_a2_99_s6_s {g : Nat → Int} {n : Nat} {s : ST} (hn : n ≤ 1600) (hv : sv n s) : F_X5_numberBehind_a1_0_a2_99_s6 g (n : Int) (cst g n s).1 (cst g n s).2.1 (cst g n s).2.2.1 (cst g n s).2.2.2.1 (cst g n s).2.2.2.2 = ((sbv s (sp_nb g n ws_6 0 99) 0).1, cst g n (sbv s (sp_nb g n ws_6 0 99) 0).2) := by
  cases s with
  | inl q => exact F_X5_numberBehind_a1_0_a2_99_s6_0 hv
  | inr p => exact F_X5_numberBehind_a1_0_a2_99_s6_1 hn hv
theorem F_X5_numberBehind_a1_0_a2_99_s7_s {g : Nat → Int} {n : Nat} {s : ST} (hn : n ≤ 1600) (hv : sv n s) : F_X5_numberBehind_a1_0_a2_99_s7 g (n : Int) (cst g n s).1 (cst g n s).2.1 (cst g n s).2.2.1 (cst g n s).2.2.2.1 (cst g n s).2.2.2.2 = ((sbv s (sp_nb g n ws_7 0 99) 0).1, cst g n (sbv s (sp_nb g n ws_7 0 99) 0).2) := by
  cases s with
  | inl q => exact F_X5_numberBehind_a1_0_a2_99_s7_0 hv
  | inr p => exact F_X5_numberBehind_a1_0_a2_99_s7_1 hn hv
theorem F_X5_numberBehind_a1_1_a2_20_s8_s {g : Nat → Int} {n : Nat} {s : ST} (hn : n ≤ 1600) (hv : sv n s) : F_X5_numberBehind_a1_1_a2_20_s8 g (n : Int) (cst g n s).1 (cst g n s).2.1 (cst g n s).2.2.1 (cst g n s).2.2.2.1 (cst g n s).2.2.2.2 = ((sbv s (sp_nb g n ws_8 1 20) 1).1, cst g n (sbv s (sp_nb g n ws_8 1 20) 1).2) := by
  cases s with
  | inl q => exact F_X5_numberBehind_a1_1_a2_20_s8_0 hv
  | inr p => exact F_X5_numberBehind_a1_1_a2_20_s8_1 hn hv
theorem F_X5_numberBehind_a1_0_a2_9_s9_s {g : Nat → Int} {n : Nat} {s : ST} (hn : n ≤ 1600) (hv : sv n s) : F_X5_numberBehind_a1_0_a2_9_s9 g (n : Int) (cst g n s).1 (cst g n s).2.1 (cst g n s).2.2.1 (cst g n s).2.2.2.1 (cst g n s).2.2.2.2 = ((sbv s (sp_nb g n ws_9 0 9) 0).1, cst g n (sbv s (sp_nb g n ws_9 0 9) 0).2) := by
  cases s with
  | inl q => exact F_X5_numberBehind_a1_0_a2_9_s9_0 hv
  | inr p => exact F_X5_numberBehind_a1_0_a2_9_s9_1 hn hv
theorem F_X5_numberBehind_a1_0_a2_199_s11_s {g : Nat → Int} {n : Nat} {s : ST} (hn : n ≤ 1600) (hv : sv n s) : F_X5_numberBehind_a1_0_a2_199_s11 g (n : Int) (cst g n s).1 (cst g n s).2.1 (cst g n s).2.2.1 (cst g n s).2.2.2.1 (cst g n s).2.2.2.2 = ((sbv s (sp_nb g n ws_11 0 199) 0).1, cst g n (sbv s (sp_nb g n ws_11 0 199) 0).2) := by
  cases s with
  | inl q => exact F_X5_numberBehind_a1_0_a2_199_s11_0 hv
  | inr p => exact F_X5_numberBehind_a1_0_a2_199_s11_1 hn hv
theorem F_X5_numberBehind_a1_0_a2_100_s1_s {g : Nat → Int} {n : Nat} {s : ST} (hn : n ≤ 1600) (hv : sv n s) : F_X5_numberBehind_a1_0_a2_100_s1 g (n : Int) (cst g n s).1 (cst g n s).2.1 (cst g n s).2.2.1 (cst g n s).2.2.2.1 (cst g n s).2.2.2.2 = ((sbv s (sp_nb g n ws_1 0 100) 0).1, cst g n (sbv s (sp_nb g n ws_1 0 100) 0).2) := by
  cases s with
  | inl q => exact F_X5_numberBehind_a1_0_a2_100_s1_0 hv
  | inr p => exact F_X5_numberBehind_a1_0_a2_100_s1_1 hn hv
theorem cl_need_s {g : Nat → Int} {n : Nat} {s : ST} (hn : n ≤ 1600) (hv : sv n s) (c : Int) : F_X5_need g (n : Int) (cst g n s).1 (cst g n s).2.1 (cst g n s).2.2.1 (cst g n s).2.2.2.1 (cst g n s).2.2.2.2 c = cst g n (sb s (sp_need g n c)) := by
  cases s with
  | inl q => exact cl_need0 hv c
  | inr p => exact cl_need1 hn hv c
theorem cl_kn_s {g : Nat → Int} {n : Nat} {s : ST} (hn : n ≤ 1600) (hv : sv n s) {N : Nat → Int} {Ks Ws : List (List Int)} (h : nms N Ks Ws) : F_X5_knownKind g (n : Int) (cst g n s).1 (cst g n s).2.1 (cst g n s).2.2.1 (Ks.length : Int) N (cst g n s).2.2.2.1 (cst g n s).2.2.2.2 = ((sbv s (sp_kn g n Ks) 0).1, cst g n (sbv s (sp_kn g n Ks) 0).2) := by
  cases s with
  | inl q => exact cl_kn0 hv _
  | inr p => exact cl_kn1 hn hv h
/-- names behind a new one -/
def nN (N : Nat → Int) (i : Nat) (w : List Int) (s : ST) : Nat → Int := match s with
  | .inl _ => N
  | .inr _ => nputj N i w 6
theorem nputj_in {N : Nat → Int} {i k : Nat} {w : List Int} (h : k < 6) : nputj N i w 6 (6 * i + k) = nl w k := by
  unfold nputj
  rw [if_pos (by omega), show 6 * i + k - 6 * i = k from by omega]
theorem nputj_out {N : Nat → Int} {i j k : Nat} {w : List Int} (h : k < 6) (hj : ¬ j = i) : nputj N i w 6 (6 * j + k) = N (6 * j + k) := by
  unfold nputj
  rw [if_neg (by omega)]
theorem nms_w {N : Nat → Int} {Ks Ws : List (List Int)} {w : List Int} {s : ST} (h : nms N Ks Ws) (hl : Ws.length < 12) : nms (nN N (6 + Ws.length) w s) Ks Ws := by
  cases s with
  | inl q => exact h
  | inr p =>
    obtain ⟨h1, h2, h3, h4, h5, h6⟩ := h
    refine ⟨h1, h2, fun i hi k hk => ?_, fun i hi k hk => ?_, h5, h6⟩
    · exact (nputj_out hk (by omega)).trans (h3 i hi k hk)
    · exact (nputj_out hk (by omega)).trans (h4 i hi k hk)
theorem getD_app {L : List (List Int)} {w : List Int} {i : Nat} : (L ++ [w]).getD i [] = if i < L.length then L.getD i [] else if i = L.length then w else [] := by
  rw [List.getD_eq_getElem?_getD, List.getD_eq_getElem?_getD]
  by_cases q : i < L.length
  · rw [if_pos q, List.getElem?_append_left q]
  · rw [if_neg q, List.getElem?_append_right (by omega)]
    by_cases q2 : i = L.length
    · rw [if_pos q2, q2, Nat.sub_self]
      rfl
    · rw [if_neg q2]
      obtain ⟨k, hk⟩ : ∃ k, i - L.length = k + 1 := ⟨i - L.length - 1, by omega⟩
      rw [hk]
      rfl
theorem nms_w1 {N : Nat → Int} {Ks Ws : List (List Int)} {w : List Int} (hw : isW w) (h : nms N Ks Ws) (hl : Ws.length < 12) : nms (nputj N (6 + Ws.length) w 6) Ks (Ws ++ [w]) := by
  obtain ⟨h1, h2, h3, h4, h5, h6⟩ := nms_w (w := w) (s := .inr 0) h hl
  have e : (Ws ++ [w]).length = Ws.length + 1 := by rw [List.length_append]; rfl
  refine ⟨h1, fun j hj => ?_, h3, fun i hi k hk => ?_, h5, by omega⟩
  · rw [getD_app]
    by_cases q : j < Ws.length
    · rw [if_pos q]; exact h2 j q
    · rw [if_neg q, if_pos (by omega)]; exact hw
  · rw [getD_app]
    by_cases q : i < Ws.length
    · rw [if_pos q]; exact h4 i q k hk
    · rw [if_neg q, if_pos (by omega), show i = Ws.length from by omega]
      exact nputj_in hk
theorem nms_k1 {N : Nat → Int} {Ks Ws : List (List Int)} {w : List Int} (hw : isW w) (h : nms N Ks Ws) (hl : Ks.length < 6) : nms (nputj N Ks.length w 6) (Ks ++ [w]) Ws := by
  obtain ⟨h1, h2, h3, h4, h5, h6⟩ := h
  have e : (Ks ++ [w]).length = Ks.length + 1 := by rw [List.length_append]; rfl
  refine ⟨fun j hj => ?_, h2, fun i hi k hk => ?_, fun i hi k hk => ?_, by omega, h6⟩
  · rw [getD_app]
    by_cases q : j < Ks.length
    · rw [if_pos q]; exact h1 j q
    · rw [if_neg q, if_pos (by omega)]; exact hw
  · rw [getD_app]
    by_cases q : i < Ks.length
    · rw [if_pos q]; exact (nputj_out hk (by omega)).trans (h3 i q k hk)
    · rw [if_neg q, if_pos (by omega), show i = Ks.length from by omega, show 6 * (0 + Ks.length) + k = 6 * Ks.length + k from by omega]
      exact nputj_in hk
  · exact (nputj_out hk (by omega)).trans (h4 i hi k hk)
theorem cl_new_s {g : Nat → Int} {n p : Nat} {N : Nat → Int} {Ks Ws : List (List Int)} {i : Nat} (hn : n ≤ 1600) (hp : p ≤ n) (h : nms N Ks Ws) : F_X5_newName g (n : Int) (tx_a g n p : Int) (tx_e g n p : Int) (tx_k g n p : Int) (Ks.length : Int) (Ws.length : Int) N (0 : Int) (-1 : Int) (i : Int) = ap5 (cst g n (sp_new g n Ks Ws p)) (nN N i (wd g n p) (sp_new g n Ks Ws p)) := cl_new1 hn hp h
/-- what stands first -/
def sp_1a (g : Nat → Int) (n : Nat) (s : ST) : Int × ST := sbv s (sp_nb g n ws_3 10 120) 10
def sp_1b (g : Nat → Int) (n : Nat) (s : ST) : Int × ST := sbv (sp_1a g n s).2 (sp_nb g n ws_4 1 (min 60 ((sp_1a g n s).1 - 1))) 1
def sp_1c (g : Nat → Int) (n : Nat) (s : ST) : Int × ST := sbv (sp_1b g n s).2 (sp_nb g n ws_5 0 2) 0
def sp_1d (g : Nat → Int) (n : Nat) (s : ST) : Int × ST := sbv (sp_1c g n s).2 (sp_nb g n ws_6 0 99) 0
theorem sp_1a_v {g : Nat → Int} {n : Nat} {s : ST} (h : sv n s) : sv n (sp_1a g n s).2 := sbv_v h (fun _ hp => sp_nb_v _ _ _ hp)
theorem sp_1b_v {g : Nat → Int} {n : Nat} {s : ST} (h : sv n s) : sv n (sp_1b g n s).2 := sbv_v (sp_1a_v h) (fun _ hp => sp_nb_v _ _ _ hp)
theorem sp_1c_v {g : Nat → Int} {n : Nat} {s : ST} (h : sv n s) : sv n (sp_1c g n s).2 := sbv_v (sp_1b_v h) (fun _ hp => sp_nb_v _ _ _ hp)
theorem sp_1d_v {g : Nat → Int} {n : Nat} {s : ST} (h : sv n s) : sv n (sp_1d g n s).2 := sbv_v (sp_1c_v h) (fun _ hp => sp_nb_v _ _ _ hp)
theorem cl_first {g : Nat → Int} {n : Nat} {s : ST} (hn : n ≤ 1600) (hv : sv n s) : F_X5_firstStatement g (n : Int) (cst g n s).1 (cst g n s).2.1 (cst g n s).2.2.1 (cst g n s).2.2.2.1 (cst g n s).2.2.2.2 = ap5 (cst g n (sp_1d g n s).2) ((sp_1a g n s).1, (sp_1b g n s).1, (sp_1c g n s).1, (sp_1d g n s).1) := by
  unfold F_X5_firstStatement
  have e1 : F_X5_numberBehind_a1_10_a2_120_s3 g (n : Int) (cst g n s).1 (cst g n s).2.1 (cst g n s).2.2.1 (cst g n s).2.2.2.1 (cst g n s).2.2.2.2 = ((sp_1a g n s).1, cst g n (sp_1a g n s).2) := F_X5_numberBehind_a1_10_a2_120_s3_s hn hv
  rw [e1]
  rw [lf_p_e, lf_pc]
  repeat rw [lf_p2]
  have e2 : F_X5_numberBehind_a1_1_s4 g (n : Int) (cst g n (sp_1a g n s).2).1 (cst g n (sp_1a g n s).2).2.1 (cst g n (sp_1a g n s).2).2.2.1 (cst g n (sp_1a g n s).2).2.2.2.1 (cst g n (sp_1a g n s).2).2.2.2.2 (min (60 : Int) ((sp_1a g n s).1 - (1 : Int))) = ((sp_1b g n s).1, cst g n (sp_1b g n s).2) := F_X5_numberBehind_a1_1_s4_s hn (sp_1a_v hv) _
  rw [e2]
  rw [lf_p_e, lf_pc]
  repeat rw [lf_p2]
  have e3 : F_X5_numberBehind_a1_0_a2_2_s5 g (n : Int) (cst g n (sp_1b g n s).2).1 (cst g n (sp_1b g n s).2).2.1 (cst g n (sp_1b g n s).2).2.2.1 (cst g n (sp_1b g n s).2).2.2.2.1 (cst g n (sp_1b g n s).2).2.2.2.2 = ((sp_1c g n s).1, cst g n (sp_1c g n s).2) := F_X5_numberBehind_a1_0_a2_2_s5_s hn (sp_1b_v hv)
  rw [e3]
  rw [lf_p_e, lf_pc]
  repeat rw [lf_p2]
  have e4 : F_X5_numberBehind_a1_0_a2_99_s6 g (n : Int) (cst g n (sp_1c g n s).2).1 (cst g n (sp_1c g n s).2).2.1 (cst g n (sp_1c g n s).2).2.2.1 (cst g n (sp_1c g n s).2).2.2.2.1 (cst g n (sp_1c g n s).2).2.2.2.2 = ((sp_1d g n s).1, cst g n (sp_1d g n s).2) := F_X5_numberBehind_a1_0_a2_99_s6_s hn (sp_1c_v hv)
  rw [e4]
  rw [lf_p_e, lf_pc]
  repeat rw [lf_p2]
  rfl
/-- a kind -/
def sp_k0 (g : Nat → Int) (n : Nat) (Ks Ws : List (List Int)) (p : Nat) : ST := sp_new g n Ks Ws (tx_e g n p)
def sp_k1 (g : Nat → Int) (n : Nat) (Ks Ws : List (List Int)) (p : Nat) : Int × ST := sbv (sp_k0 g n Ks Ws p) (sp_nb g n ws_7 0 99) 0
def sp_k2 (g : Nat → Int) (n : Nat) (Ks Ws : List (List Int)) (p : Nat) : Int × ST := sbv (sp_k1 g n Ks Ws p).2 (sp_nb g n ws_8 1 20) 1
def sp_k3 (g : Nat → Int) (n : Nat) (Ks Ws : List (List Int)) (p : Nat) : Int × ST := sbv (sp_k2 g n Ks Ws p).2 (sp_nb g n ws_9 0 9) 0
theorem sp_k0_v {g : Nat → Int} {n p : Nat} (Ks Ws : List (List Int)) (hp : p ≤ n) : sv n (sp_k0 g n Ks Ws p) := sp_new_v _ _ (tx_e_le hp)
theorem sp_k1_v {g : Nat → Int} {n p : Nat} (Ks Ws : List (List Int)) (hp : p ≤ n) : sv n (sp_k1 g n Ks Ws p).2 := sbv_v (sp_k0_v _ _ hp) (fun _ hp => sp_nb_v _ _ _ hp)
theorem sp_k2_v {g : Nat → Int} {n p : Nat} (Ks Ws : List (List Int)) (hp : p ≤ n) : sv n (sp_k2 g n Ks Ws p).2 := sbv_v (sp_k1_v _ _ hp) (fun _ hp => sp_nb_v _ _ _ hp)
theorem sp_k3_v {g : Nat → Int} {n p : Nat} (Ks Ws : List (List Int)) (hp : p ≤ n) : sv n (sp_k3 g n Ks Ws p).2 := sbv_v (sp_k2_v _ _ hp) (fun _ hp => sp_nb_v _ _ _ hp)
theorem cl_kind {g : Nat → Int} {n p : Nat} {N calm pace trusts : Nat → Int} {Ks Ws : List (List Int)} (hn : n ≤ 1600) (hp : p ≤ n) (h : nms N Ks Ws) (hl : Ks.length < 6) : F_X5_kindStatement g (n : Int) (tx_a g n p : Int) (tx_e g n p : Int) (Ks.length : Int) calm pace trusts (Ws.length : Int) N (0 : Int) (-1 : Int) = ap5 (cst g n (sp_k3 g n Ks Ws p).2) ((Ks.length : Int) + 1, nN N Ks.length (wd g n (tx_e g n p)) (sp_k0 g n Ks Ws p), lf_up calm (Ks.length : Int) (sp_k1 g n Ks Ws p).1, lf_up pace (Ks.length : Int) (sp_k2 g n Ks Ws p).1, lf_up trusts (Ks.length : Int) (sp_k3 g n Ks Ws p).1) := by
  unfold F_X5_kindStatement
  rw [if_pos (by omega), cl_mve hn hp]
  rw [lf_p_e, lf_p_e]
  have e0 : F_X5_newName g (n : Int) (tx_a g n (tx_e g n p) : Int) (tx_e g n (tx_e g n p) : Int) (tx_k g n (tx_e g n p) : Int) (Ks.length : Int) (Ws.length : Int) N (0 : Int) (-1 : Int) ((Ks.length : Nat) : Int) = ap5 (cst g n (sp_k0 g n Ks Ws p)) (nN N (Ks.length) (wd g n (tx_e g n p)) (sp_k0 g n Ks Ws p)) := cl_new_s hn (tx_e_le hp) h
  rw [e0]
  rw [lf_pa, lf_p_e, lf_p_e, lf_p_e, lf_p_e]
  have e1 : F_X5_numberBehind_a1_0_a2_99_s7 g (n : Int) (cst g n (sp_k0 g n Ks Ws p)).1 (cst g n (sp_k0 g n Ks Ws p)).2.1 (cst g n (sp_k0 g n Ks Ws p)).2.2.1 (cst g n (sp_k0 g n Ks Ws p)).2.2.2.1 (cst g n (sp_k0 g n Ks Ws p)).2.2.2.2 = ((sp_k1 g n Ks Ws p).1, cst g n (sp_k1 g n Ks Ws p).2) := F_X5_numberBehind_a1_0_a2_99_s7_s hn (sp_k0_v Ks Ws hp)
  rw [e1]
  rw [lf_p_e, lf_pc]
  repeat rw [lf_p2]
  have e2 : F_X5_numberBehind_a1_1_a2_20_s8 g (n : Int) (cst g n (sp_k1 g n Ks Ws p).2).1 (cst g n (sp_k1 g n Ks Ws p).2).2.1 (cst g n (sp_k1 g n Ks Ws p).2).2.2.1 (cst g n (sp_k1 g n Ks Ws p).2).2.2.2.1 (cst g n (sp_k1 g n Ks Ws p).2).2.2.2.2 = ((sp_k2 g n Ks Ws p).1, cst g n (sp_k2 g n Ks Ws p).2) := F_X5_numberBehind_a1_1_a2_20_s8_s hn (sp_k1_v Ks Ws hp)
  rw [e2]
  rw [lf_p_e, lf_pc]
  repeat rw [lf_p2]
  have e3 : F_X5_numberBehind_a1_0_a2_9_s9 g (n : Int) (cst g n (sp_k2 g n Ks Ws p).2).1 (cst g n (sp_k2 g n Ks Ws p).2).2.1 (cst g n (sp_k2 g n Ks Ws p).2).2.2.1 (cst g n (sp_k2 g n Ks Ws p).2).2.2.2.1 (cst g n (sp_k2 g n Ks Ws p).2).2.2.2.2 = ((sp_k3 g n Ks Ws p).1, cst g n (sp_k3 g n Ks Ws p).2) := F_X5_numberBehind_a1_0_a2_9_s9_s hn (sp_k2_v Ks Ws hp)
  rw [e3]
  rw [lf_p_e, lf_pc]
  repeat rw [lf_p2]
  rfl
theorem cl_kind5 {g : Nat → Int} {n : Nat} {N calm pace trusts : Nat → Int} {a e y : Int} : F_X5_kindStatement g (n : Int) a e (6 : Int) calm pace trusts y N (0 : Int) (-1 : Int) = ap5 (cst g n (.inl (5, a))) ((6 : Int), N, calm, pace, trusts) := by
  unfold F_X5_kindStatement
  rw [if_neg (by decide), cl_fail0]
  rfl
/-- a walker -/
def sp_c1 (g : Nat → Int) (n : Nat) (Ks Ws : List (List Int)) (p : Nat) : ST := sb (sp_k0 g n Ks Ws p) (sp_w g n ws_10)
def sp_c2 (g : Nat → Int) (n : Nat) (Ks Ws : List (List Int)) (p : Nat) : Int × ST := sbv (sp_c1 g n Ks Ws p) (sp_kn g n Ks) 0
def sp_c3 (g : Nat → Int) (n : Nat) (Ks Ws : List (List Int)) (p : Nat) : Int × ST := sbv (sp_c2 g n Ks Ws p).2 (sp_nb g n ws_11 0 199) 0
theorem sp_c1_v {g : Nat → Int} {n p : Nat} (Ks Ws : List (List Int)) (hp : p ≤ n) : sv n (sp_c1 g n Ks Ws p) := sv_sb (sp_k0_v _ _ hp) (fun _ hp => sp_w_v _ hp)
theorem sp_c2_v {g : Nat → Int} {n p : Nat} (Ks Ws : List (List Int)) (hp : p ≤ n) : sv n (sp_c2 g n Ks Ws p).2 := sbv_v (sp_c1_v _ _ hp) (fun _ hp => sp_kn_v _ hp)
theorem sp_c3_v {g : Nat → Int} {n p : Nat} (Ks Ws : List (List Int)) (hp : p ≤ n) : sv n (sp_c3 g n Ks Ws p).2 := sbv_v (sp_c2_v _ _ hp) (fun _ hp => sp_nb_v _ _ _ hp)
theorem cl_comes {g : Nat → Int} {n p : Nat} {N kindOf comesAt comers : Nat → Int} {Ks Ws : List (List Int)} (hn : n ≤ 1600) (hp : p ≤ n) (h : nms N Ks Ws) (hl : Ws.length < 12) : F_X5_comesStatement g (n : Int) (tx_a g n p : Int) (tx_e g n p : Int) (Ks.length : Int) (Ws.length : Int) kindOf comesAt comers N (0 : Int) (-1 : Int) = ap5 (cst g n (sp_c3 g n Ks Ws p).2) ((Ws.length : Int) + 1, nN N (6 + Ws.length) (wd g n (tx_e g n p)) (sp_k0 g n Ks Ws p), lf_up kindOf (Ws.length : Int) (sp_c2 g n Ks Ws p).1, lf_up comesAt (Ws.length : Int) (sp_c3 g n Ks Ws p).1, lf_up comers (sp_c3 g n Ks Ws p).1 (lf_o lf_ior (comers (Int.toNat (sp_c3 g n Ks Ws p).1)) (lf_o lf_ishl (1 : Int) (Ws.length : Int)))) := by
  unfold F_X5_comesStatement
  rw [if_pos (by omega), cl_mve hn hp, show (6 : Int) + (Ws.length : Int) = ((6 + Ws.length : Nat) : Int) from by omega]
  rw [lf_p_e, lf_p_e]
  have e0 : F_X5_newName g (n : Int) (tx_a g n (tx_e g n p) : Int) (tx_e g n (tx_e g n p) : Int) (tx_k g n (tx_e g n p) : Int) (Ks.length : Int) (Ws.length : Int) N (0 : Int) (-1 : Int) ((6 + Ws.length : Nat) : Int) = ap5 (cst g n (sp_k0 g n Ks Ws p)) (nN N (6 + Ws.length) (wd g n (tx_e g n p)) (sp_k0 g n Ks Ws p)) := cl_new_s hn (tx_e_le hp) h
  rw [e0]
  rw [lf_pa, lf_p_e, lf_p_e, lf_p_e, lf_p_e]
  have e1 : F_X5_needWord_s10 g (n : Int) (cst g n (sp_k0 g n Ks Ws p)).1 (cst g n (sp_k0 g n Ks Ws p)).2.1 (cst g n (sp_k0 g n Ks Ws p)).2.2.1 (cst g n (sp_k0 g n Ks Ws p)).2.2.2.1 (cst g n (sp_k0 g n Ks Ws p)).2.2.2.2 = cst g n (sp_c1 g n Ks Ws p) := F_X5_needWord_s10_s hn (sp_k0_v Ks Ws hp)
  rw [e1]
  rw [lf_pc]
  repeat rw [lf_p2]
  have e2 : F_X5_knownKind g (n : Int) (cst g n (sp_c1 g n Ks Ws p)).1 (cst g n (sp_c1 g n Ks Ws p)).2.1 (cst g n (sp_c1 g n Ks Ws p)).2.2.1 (Ks.length : Int) (nN N (6 + Ws.length) (wd g n (tx_e g n p)) (sp_k0 g n Ks Ws p)) (cst g n (sp_c1 g n Ks Ws p)).2.2.2.1 (cst g n (sp_c1 g n Ks Ws p)).2.2.2.2 = ((sp_c2 g n Ks Ws p).1, cst g n (sp_c2 g n Ks Ws p).2) := cl_kn_s hn (sp_c1_v Ks Ws hp) (nms_w h hl)
  rw [e2]
  rw [lf_p_e, lf_pc]
  repeat rw [lf_p2]
  have e3 : F_X5_numberBehind_a1_0_a2_199_s11 g (n : Int) (cst g n (sp_c2 g n Ks Ws p).2).1 (cst g n (sp_c2 g n Ks Ws p).2).2.1 (cst g n (sp_c2 g n Ks Ws p).2).2.2.1 (cst g n (sp_c2 g n Ks Ws p).2).2.2.2.1 (cst g n (sp_c2 g n Ks Ws p).2).2.2.2.2 = ((sp_c3 g n Ks Ws p).1, cst g n (sp_c3 g n Ks Ws p).2) := F_X5_numberBehind_a1_0_a2_199_s11_s hn (sp_c2_v Ks Ws hp)
  rw [e3]
  rw [lf_p_e, lf_pc]
  repeat rw [lf_p2]
  rfl
theorem cl_comes5 {g : Nat → Int} {n : Nat} {N kindOf comesAt comers : Nat → Int} {a e y : Int} : F_X5_comesStatement g (n : Int) a e y (12 : Int) kindOf comesAt comers N (0 : Int) (-1 : Int) = ap5 (cst g n (.inl (5, a))) ((12 : Int), N, kindOf, comesAt, comers) := by
  unfold F_X5_comesStatement
  rw [if_neg (by decide), cl_fail0]
  rfl
end
section
/-! 29 -/
/-! the class's expressions. What is coded: size, code -/
abbrev CD : Type := Int × (Nat → Int)
abbrev XO : Type := Int × Int × Int × Int × Int × Int × (Nat → Int)
abbrev XF : Type := Int → Int → Int → (Nat → Int) → Int → Int → Int → XO
def em (c : CD) (op : Int) : CD := F_X5_emit c.2 c.1 op
def lf7 {α : Type} (o : XO) (k : Int → Int → Int → Int → Int → Int → (Nat → Int) → α) : α := lf_p o (fun a t => lf_p t (fun b t => lf_p t (fun d t => lf_p t (fun f t => lf_p t (fun q t => lf_p t (fun z w => k a b d f q z w))))))
theorem lf7_e {α : Type} (c : Int × Int × Int × Int × Int) (d : CD) (k : Int → Int → Int → Int → Int → Int → (Nat → Int) → α) : lf7 (ap5 c d) k = k c.1 c.2.1 c.2.2.1 c.2.2.2.1 c.2.2.2.2 d.1 d.2 := rfl
def sbC (s : ST) (c : CD) (k : Nat → CD → ST × CD) : ST × CD := match s with
  | .inl q => (.inl q, c)
  | .inr p => k p c
def runX (g : Nat → Int) (n : Nat) (X : XF) (s : ST) (c : CD) : XO := X (cst g n s).1 (cst g n s).2.1 (cst g n s).2.2.1 c.2 c.1 (cst g n s).2.2.2.1 (cst g n s).2.2.2.2
/-- a method's output tells a state and, where there is no fault, what is coded -/
def tellC (g : Nat → Int) (n : Nat) (o : XO) (r : ST × CD) : Prop := ∃ c : CD, o = ap5 (cst g n r.1) c ∧ ∀ q, r.1 = .inr q → c = r.2
def meets (g : Nat → Int) (n : Nat) (X : XF) (sp : Nat → CD → ST × CD) : Prop := ∀ s c, sv n s → tellC g n (runX g n X s c) (sbC s c sp)
def okR (n : Nat) (sp : Nat → CD → ST × CD) : Prop := ∀ p c, p ≤ n → sv n (sp p c).1 ∧ ∀ q, (sp p c).1 = .inr q → p < q
theorem tx_e_gt' {g : Nat → Int} {n p : Nat} (hk : ¬ tx_k g n p = 0) : p < tx_e g n p := by
  have h1 := tx_a_ge g n p
  have h2 : tx_a g n p < n := by
    rcases tx_k_so (g := g) (n := n) (p := p) with r | r
    · rcases Nat.lt_or_ge (tx_a g n p) n with q | q
      · exact q
      · unfold tx_k at r
        have := (tx_so_0 (f := g)).mpr q
        split at r
        · omega
        · omega
    · rcases Nat.lt_or_ge (tx_a g n p) n with q | q
      · exact q
      · have := (tx_so_0 (f := g)).mpr q
        omega
  have := tx_e_gt (f := g) h2
  omega
theorem sgn_lt {g : Nat → Int} {n p : Nat} {c : Int} (h : tsn g n c p) : p < tx_e g n p := tx_e_gt' (by have := h.1; omega)
theorem sgn_b {g : Nat → Int} {n p : Nat} {c : Int} (h : tsn g n c p) : p < n := by
  have h1 := tx_a_ge g n p
  have h2 := tx_k3.mp h.1
  have h3 : ¬ n ≤ tx_a g n p := fun r => by
    have := (tx_so_0 (f := g)).mpr r
    omega
  omega
/-! two signs on one level -/
def gl_48 (g : Nat → Int) (n : Int) (X : XF) (K : Int → Int → Int → Int → Int → Int → (Nat → Int) → Int → XO) (be fa pl sz : Int) (cd : Nat → Int) (k op : Int) : XO := lf_p (F_X5_moveTo g n be) (fun a t => (lf_p t (fun b d => (lf7 (X a b d cd sz fa pl) (fun a2 b2 d2 f2 q2 z2 w2 => (lf_p (F_X5_emit w2 z2 op) (fun z3 w3 => (K a2 b2 d2 f2 q2 z3 w3 (k + (1 : Int))))))))))
def gl_32 (g : Nat → Int) (n : Int) (X : XF) (c1 o1 o2 : Int) (K : Int → Int → Int → Int → Int → Int → (Nat → Int) → Int → XO) (xa be so fa pl sz : Int) (cd : Nat → Int) (k : Int) : XO := lf_b (F_X5_sees g xa so c1) (fun r => (if r = (0 : Int) then gl_48 g n X K be fa pl sz cd k o2 else gl_48 g n X K be fa pl sz cd k o1))
def gl_b (g : Nat → Int) (n : Int) (X : XF) (c1 c2 o1 o2 : Int) (K : Int → Int → Int → Int → Int → Int → (Nat → Int) → Int → XO) (xa be so fa pl sz : Int) (cd : Nat → Int) (k : Int) : XO := if (1600 : Int) ≤ k then (xa, be, so, fa, pl, sz, cd) else (lf_b (F_X5_sees g xa so c1) (fun r => (if r = (0 : Int) then (lf_b (F_X5_sees g xa so c2) (fun r2 => (if r2 = (0 : Int) then (xa, be, so, fa, pl, sz, cd) else gl_32 g n X c1 o1 o2 K xa be so fa pl sz cd k))) else gl_32 g n X c1 o1 o2 K xa be so fa pl sz cd k)))
def gl (g : Nat → Int) (n : Int) (X : XF) (c1 c2 o1 o2 : Int) : Nat → Int → Int → Int → Int → Int → Int → (Nat → Int) → Int → XO
  | 0 => fun _ _ _ _ _ _ _ _ => ((0 : Int), (0 : Int), (0 : Int), (0 : Int), (0 : Int), (0 : Int), (fun _ => (0 : Int)))
  | m + 1 => gl_b g n X c1 c2 o1 o2 (gl g n X c1 c2 o1 o2 m)
def gL (g : Nat → Int) (n : Int) (X : XF) (c1 c2 o1 o2 : Int) : XF := fun a b d cd sz fa pl => lf7 (X a b d cd sz fa pl) (fun a2 b2 d2 f2 q2 z2 w2 => gl g n X c1 c2 o1 o2 1602 a2 b2 d2 f2 q2 z2 w2 (0 : Int))
def lpS (g : Nat → Int) (n : Nat) (sp : Nat → CD → ST × CD) (c1 c2 o1 o2 : Int) : Nat → Nat → CD → ST × CD
  | 0, p, c => (.inr p, c)
  | m + 1, p, c => if tx_k g n p = 3 ∧ g (tx_a g n p) = c1 then sbC (sp (tx_e g n p) c).1 (sp (tx_e g n p) c).2 (fun p2 d => lpS g n sp c1 c2 o1 o2 m p2 (em d o1)) else if tx_k g n p = 3 ∧ g (tx_a g n p) = c2 then sbC (sp (tx_e g n p) c).1 (sp (tx_e g n p) c).2 (fun p2 d => lpS g n sp c1 c2 o1 o2 m p2 (em d o2)) else (.inr p, c)
def spL (g : Nat → Int) (n : Nat) (sp : Nat → CD → ST × CD) (c1 c2 o1 o2 : Int) (p : Nat) (c : CD) : ST × CD := sbC (sp p c).1 (sp p c).2 (lpS g n sp c1 c2 o1 o2 1602)
theorem gl_0 {g : Nat → Int} {n : Nat} {X : XF} {c1 c2 o1 o2 : Int} {m : Nat} {f q sz k : Int} {cd : Nat → Int} : gl g (n : Int) X c1 c2 o1 o2 (m + 1) (n : Int) (n : Int) (0 : Int) f q sz cd k = ((n : Int), (n : Int), (0 : Int), f, q, sz, cd) := by
  show gl_b g (n : Int) X c1 c2 o1 o2 _ (n : Int) (n : Int) (0 : Int) f q sz cd k = _
  unfold gl_b
  rw [lf_b_e, cl_seen, if_pos (rfl : (0 : Int) = 0), lf_b_e, cl_seen, if_pos (rfl : (0 : Int) = 0)]
  split
  · rfl
  · rfl
theorem lpS_ok {g : Nat → Int} {n : Nat} {sp : Nat → CD → ST × CD} {c1 c2 o1 o2 : Int} (h : okR n sp) : ∀ (m p : Nat) (c : CD), p ≤ n → sv n (lpS g n sp c1 c2 o1 o2 m p c).1 ∧ ∀ q, (lpS g n sp c1 c2 o1 o2 m p c).1 = .inr q → p ≤ q := by
  intro m
  induction m with
  | zero => intro p c hp; exact ⟨hp, fun q e => by cases e; exact Nat.le_refl _⟩
  | succ m ih =>
    intro p c hp
    have step : ∀ o, tx_k g n p = 3 → sv n (sbC (sp (tx_e g n p) c).1 (sp (tx_e g n p) c).2 (fun p2 d => lpS g n sp c1 c2 o1 o2 m p2 (em d o))).1 ∧ ∀ q, (sbC (sp (tx_e g n p) c).1 (sp (tx_e g n p) c).2 (fun p2 d => lpS g n sp c1 c2 o1 o2 m p2 (em d o))).1 = .inr q → p ≤ q := by
      intro o hk
      have h1 := h (tx_e g n p) c (tx_e_le hp)
      have h2 : p < tx_e g n p := tx_e_gt' (by omega)
      cases e : (sp (tx_e g n p) c).1 with
      | inl q0 =>
        rw [e] at h1
        exact ⟨h1.1, fun q r => by cases r⟩
      | inr p2 =>
        rw [e] at h1
        have h3 := h1.2 p2 rfl
        have h4 := ih p2 (em (sp (tx_e g n p) c).2 o) h1.1
        exact ⟨h4.1, fun q r => by have := h4.2 q r; omega⟩
    unfold lpS
    split
    · rename_i q; exact step o1 q.1
    · split
      · rename_i q; exact step o2 q.1
      · exact ⟨hp, fun q e => by cases e; exact Nat.le_refl _⟩
theorem spL_ok {g : Nat → Int} {n : Nat} {sp : Nat → CD → ST × CD} {c1 c2 o1 o2 : Int} (h : okR n sp) : okR n (spL g n sp c1 c2 o1 o2) := by
  intro p c hp
  have h1 := h p c hp
  unfold spL
  cases e : (sp p c).1 with
  | inl q0 =>
    rw [e] at h1
    exact ⟨h1.1, fun q r => by cases r⟩
  | inr p2 =>
    rw [e] at h1
    have h3 := h1.2 p2 rfl
    have h4 := lpS_ok (g := g) (c1 := c1) (c2 := c2) (o1 := o1) (o2 := o2) h 1602 p2 (sp p c).2 h1.1
    exact ⟨h4.1, fun q r => by have := h4.2 q r; omega⟩
theorem gl_s {g : Nat → Int} {n : Nat} {X : XF} {sp : Nat → CD → ST × CD} {c1 c2 o1 o2 : Int} (hn : n ≤ 1600) (hX : meets g n X sp) (hok : okR n sp) : ∀ (m p : Nat) (c : CD) (k f : Nat), p ≤ n → n - p < m → k ≤ p → 1600 < k + f → tellC g n (gl g (n : Int) X c1 c2 o1 o2 f (tx_a g n p : Int) (tx_e g n p : Int) (tx_k g n p : Int) (0 : Int) (-1 : Int) c.1 c.2 (k : Int)) (lpS g n sp c1 c2 o1 o2 m p c) := by
  intro m
  induction m with
  | zero => intro p c k f h1 h2; omega
  | succ m ih =>
    intro p c k f h1 h2 h3 h4
    obtain ⟨f, rfl⟩ : ∃ f', f = f' + 1 := ⟨f - 1, by omega⟩
    have go : ∀ o, tx_k g n p = 3 → k < 1600 → tellC g n (gl_48 g (n : Int) X (gl g (n : Int) X c1 c2 o1 o2 f) (tx_e g n p : Int) (0 : Int) (-1 : Int) c.1 c.2 (k : Int) o) (sbC (sp (tx_e g n p) c).1 (sp (tx_e g n p) c).2 (fun p2 d => lpS g n sp c1 c2 o1 o2 m p2 (em d o))) := by
      intro o hk hk6
      have h5 : p < tx_e g n p := tx_e_gt' (by omega)
      have h6 := hok (tx_e g n p) c (tx_e_le h1)
      unfold gl_48
      rw [cl_mve hn h1]
      obtain ⟨d, e1, e2⟩ := hX (.inr (tx_e g n p)) c (tx_e_le h1)
      have e3 : X (tx_a g n (tx_e g n p) : Int) (tx_e g n (tx_e g n p) : Int) (tx_k g n (tx_e g n p) : Int) c.2 c.1 (0 : Int) (-1 : Int) = ap5 (cst g n (sp (tx_e g n p) c).1) d := e1
      rw [lf_p_e, lf_p_e]
      rw [e3]
      have e4 : ∀ q, (sp (tx_e g n p) c).1 = .inr q → d = (sp (tx_e g n p) c).2 := e2
      cases e : (sp (tx_e g n p) c).1 with
      | inl q0 =>
        obtain ⟨f', rfl⟩ : ∃ f', f = f' + 1 := ⟨f - 1, by omega⟩
        refine ⟨em d o, ?_, fun q r => by cases r⟩
        show gl g (n : Int) X c1 c2 o1 o2 (f' + 1) (n : Int) (n : Int) (0 : Int) q0.1 q0.2 (em d o).1 (em d o).2 _ = _
        rw [gl_0]
        rfl
      | inr p2 =>
        rw [e] at h6
        have h7 := h6.2 p2 rfl
        have h8 : p2 ≤ n := h6.1
        have e5 := e4 p2 e
        rw [e5]
        have := ih p2 (em (sp (tx_e g n p) c).2 o) (k + 1) f h6.1 (by omega) (by omega) (by omega)
        rw [show ((k + 1 : Nat) : Int) = (k : Int) + 1 from by omega] at this
        exact this
    show tellC g n (gl_b g (n : Int) X c1 c2 o1 o2 (gl g (n : Int) X c1 c2 o1 o2 f) (tx_a g n p : Int) (tx_e g n p : Int) (tx_k g n p : Int) (0 : Int) (-1 : Int) c.1 c.2 (k : Int)) _
    unfold gl_b gl_32
    have stay : tellC g n ((tx_a g n p : Int), (tx_e g n p : Int), (tx_k g n p : Int), (0 : Int), (-1 : Int), c.1, c.2) (.inr p, c) := ⟨c, rfl, fun _ _ => rfl⟩
    unfold lpS
    by_cases q1 : tsn g n c1 p
    · have hb := sgn_b q1
      rw [if_pos (show tx_k g n p = 3 ∧ g (tx_a g n p) = c1 from q1), if_neg (by omega)]
      repeat rw [lf_b_e]
      rw [cl_see1 q1, if_neg (show ¬ (1 : Int) = 0 from by decide)]
      exact go o1 q1.1 (by omega)
    · rw [if_neg (show ¬ (tx_k g n p = 3 ∧ g (tx_a g n p) = c1) from q1)]
      repeat rw [lf_b_e]
      rw [cl_see0 q1, if_pos (rfl : (0 : Int) = 0), if_pos (rfl : (0 : Int) = 0)]
      by_cases q2 : tsn g n c2 p
      · have hb := sgn_b q2
        rw [if_pos (show tx_k g n p = 3 ∧ g (tx_a g n p) = c2 from q2), if_neg (by omega), cl_see1 q2, if_neg (show ¬ (1 : Int) = 0 from by decide)]
        exact go o2 q2.1 (by omega)
      · rw [if_neg (show ¬ (tx_k g n p = 3 ∧ g (tx_a g n p) = c2) from q2), cl_see0 q2, if_pos (rfl : (0 : Int) = 0)]
        split
        · exact stay
        · exact stay
theorem gL_m {g : Nat → Int} {n : Nat} {X : XF} {sp : Nat → CD → ST × CD} {c1 c2 o1 o2 : Int} (hn : n ≤ 1600) (hX : meets g n X sp) (hok : okR n sp) : meets g n (gL g (n : Int) X c1 c2 o1 o2) (spL g n sp c1 c2 o1 o2) := by
  intro s c hv
  obtain ⟨d, e1, e2⟩ := hX s c hv
  unfold runX gL
  unfold runX at e1
  rw [e1]
  cases s with
  | inl q =>
    refine ⟨d, ?_, fun q r => by cases r⟩
    show gl g (n : Int) X c1 c2 o1 o2 (1601 + 1) (n : Int) (n : Int) (0 : Int) q.1 q.2 d.1 d.2 (0 : Int) = _
    rw [gl_0]
    rfl
  | inr p =>
    have h1 := hok p c hv
    have e4 : ∀ q, (sp p c).1 = .inr q → d = (sp p c).2 := e2
    show tellC g n (lf7 (ap5 (cst g n (sp p c).1) d) _) (spL g n sp c1 c2 o1 o2 p c)
    unfold spL
    cases e : (sp p c).1 with
    | inl q0 =>
      refine ⟨d, ?_, fun q r => by cases r⟩
      show gl g (n : Int) X c1 c2 o1 o2 (1601 + 1) (n : Int) (n : Int) (0 : Int) q0.1 q0.2 d.1 d.2 (0 : Int) = _
      rw [gl_0]
      rfl
    | inr p2 =>
      rw [e] at h1
      rw [e4 p2 e]
      exact gl_s hn hX hok 1602 p2 (sp p c).2 0 1602 h1.1 (by have := h1.1; omega) (by omega) (by omega)
end
section
/-! 29b -/
/-! a word on one level -/
def twm (g : Nat → Int) (n : Nat) (TW : Int → Int → Int → Int × Int × Int × Int) (ws : List (List Int)) : Prop := (∀ p, p ≤ n → TW (tx_a g n p : Int) (tx_e g n p : Int) (tx_k g n p : Int) = if wl g n ws p = -1 then ((0 : Int), (tx_a g n p : Int), (tx_e g n p : Int), (tx_k g n p : Int)) else ((1 : Int), (tx_a g n (tx_e g n p) : Int), (tx_e g n (tx_e g n p) : Int), (tx_k g n (tx_e g n p) : Int))) ∧ TW (n : Int) (n : Int) (0 : Int) = ((0 : Int), (n : Int), (n : Int), (0 : Int))
theorem wl_k {g : Nat → Int} {n p : Nat} {ws : List (List Int)} (h : ¬ wl g n ws p = -1) : tx_k g n p = 1 := by
  unfold wl at h
  split at h
  · assumption
  · exact absurd rfl h
theorem wl_b {g : Nat → Int} {n p : Nat} (h : tx_k g n p = 1) : p < n := by
  have h1 := tx_a_ge g n p
  have h2 := (tx_e_in h (Or.inl rfl)).2 (tx_a g n p) (Nat.le_refl _) (tx_e_in h (Or.inl rfl)).1
  have h3 := (tx_so_1 h2).1
  omega
def gv_b (X : XF) (TW : Int → Int → Int → Int × Int × Int × Int) (op : Int) (K : Int → Int → Int → Int → Int → Int → (Nat → Int) → Int → XO) (xa be so fa pl sz : Int) (cd : Nat → Int) (k : Int) : XO := if (1600 : Int) ≤ k then (xa, be, so, fa, pl, sz, cd) else (lf_p (TW xa be so) (fun r t => (lf_p t (fun a t => (lf_p t (fun b d => (if r = (0 : Int) then (a, b, d, fa, pl, sz, cd) else (lf7 (X a b d cd sz fa pl) (fun a2 b2 d2 f2 q2 z2 w2 => (lf_p (F_X5_emit w2 z2 op) (fun z3 w3 => (K a2 b2 d2 f2 q2 z3 w3 (k + (1 : Int))))))))))))))
def gv (X : XF) (TW : Int → Int → Int → Int × Int × Int × Int) (op : Int) : Nat → Int → Int → Int → Int → Int → Int → (Nat → Int) → Int → XO
  | 0 => fun _ _ _ _ _ _ _ _ => ((0 : Int), (0 : Int), (0 : Int), (0 : Int), (0 : Int), (0 : Int), (fun _ => (0 : Int)))
  | m + 1 => gv_b X TW op (gv X TW op m)
def gV (X : XF) (TW : Int → Int → Int → Int × Int × Int × Int) (op : Int) : XF := fun a b d cd sz fa pl => lf7 (X a b d cd sz fa pl) (fun a2 b2 d2 f2 q2 z2 w2 => gv X TW op 1602 a2 b2 d2 f2 q2 z2 w2 (0 : Int))
def lpV (g : Nat → Int) (n : Nat) (sp : Nat → CD → ST × CD) (ws : List (List Int)) (op : Int) : Nat → Nat → CD → ST × CD
  | 0, p, c => (.inr p, c)
  | m + 1, p, c => if wl g n ws p = -1 then (.inr p, c) else sbC (sp (tx_e g n p) c).1 (sp (tx_e g n p) c).2 (fun p2 d => lpV g n sp ws op m p2 (em d op))
def spV (g : Nat → Int) (n : Nat) (sp : Nat → CD → ST × CD) (ws : List (List Int)) (op : Int) (p : Nat) (c : CD) : ST × CD := sbC (sp p c).1 (sp p c).2 (lpV g n sp ws op 1602)
theorem gv_0 {g : Nat → Int} {n : Nat} {X : XF} {TW : Int → Int → Int → Int × Int × Int × Int} {ws : List (List Int)} {op : Int} {m : Nat} {f q sz k : Int} {cd : Nat → Int} (hT : twm g n TW ws) : gv X TW op (m + 1) (n : Int) (n : Int) (0 : Int) f q sz cd k = ((n : Int), (n : Int), (0 : Int), f, q, sz, cd) := by
  show gv_b X TW op _ (n : Int) (n : Int) (0 : Int) f q sz cd k = _
  unfold gv_b
  rw [hT.2]
  split
  · rfl
  · rfl
theorem lpV_ok {g : Nat → Int} {n : Nat} {sp : Nat → CD → ST × CD} {ws : List (List Int)} {op : Int} (h : okR n sp) : ∀ (m p : Nat) (c : CD), p ≤ n → sv n (lpV g n sp ws op m p c).1 ∧ ∀ q, (lpV g n sp ws op m p c).1 = .inr q → p ≤ q := by
  intro m
  induction m with
  | zero => intro p c hp; exact ⟨hp, fun q e => by cases e; exact Nat.le_refl _⟩
  | succ m ih =>
    intro p c hp
    unfold lpV
    split
    · exact ⟨hp, fun q e => by cases e; exact Nat.le_refl _⟩
    · rename_i hk
      have h1 := h (tx_e g n p) c (tx_e_le hp)
      have h2 : p < tx_e g n p := tx_e_gt' (by have := wl_k hk; omega)
      cases e : (sp (tx_e g n p) c).1 with
      | inl q0 =>
        rw [e] at h1
        exact ⟨h1.1, fun q r => by cases r⟩
      | inr p2 =>
        rw [e] at h1
        have h3 := h1.2 p2 rfl
        have h4 := ih p2 (em (sp (tx_e g n p) c).2 op) h1.1
        exact ⟨h4.1, fun q r => by have := h4.2 q r; omega⟩
theorem spV_ok {g : Nat → Int} {n : Nat} {sp : Nat → CD → ST × CD} {ws : List (List Int)} {op : Int} (h : okR n sp) : okR n (spV g n sp ws op) := by
  intro p c hp
  have h1 := h p c hp
  unfold spV
  cases e : (sp p c).1 with
  | inl q0 =>
    rw [e] at h1
    exact ⟨h1.1, fun q r => by cases r⟩
  | inr p2 =>
    rw [e] at h1
    have h3 := h1.2 p2 rfl
    have h4 := lpV_ok (g := g) (ws := ws) (op := op) h 1602 p2 (sp p c).2 h1.1
    exact ⟨h4.1, fun q r => by have := h4.2 q r; omega⟩
theorem gv_s {g : Nat → Int} {n : Nat} {X : XF} {TW : Int → Int → Int → Int × Int × Int × Int} {sp : Nat → CD → ST × CD} {ws : List (List Int)} {op : Int} (hn : n ≤ 1600) (hT : twm g n TW ws) (hX : meets g n X sp) (hok : okR n sp) : ∀ (m p : Nat) (c : CD) (k f : Nat), p ≤ n → n - p < m → k ≤ p → 1600 < k + f → tellC g n (gv X TW op f (tx_a g n p : Int) (tx_e g n p : Int) (tx_k g n p : Int) (0 : Int) (-1 : Int) c.1 c.2 (k : Int)) (lpV g n sp ws op m p c) := by
  intro m
  induction m with
  | zero => intro p c k f h1 h2; omega
  | succ m ih =>
    intro p c k f h1 h2 h3 h4
    obtain ⟨f, rfl⟩ : ∃ f', f = f' + 1 := ⟨f - 1, by omega⟩
    show tellC g n (gv_b X TW op (gv X TW op f) (tx_a g n p : Int) (tx_e g n p : Int) (tx_k g n p : Int) (0 : Int) (-1 : Int) c.1 c.2 (k : Int)) _
    unfold gv_b
    have stay : tellC g n ((tx_a g n p : Int), (tx_e g n p : Int), (tx_k g n p : Int), (0 : Int), (-1 : Int), c.1, c.2) (.inr p, c) := ⟨c, rfl, fun _ _ => rfl⟩
    unfold lpV
    rw [hT.1 p h1]
    by_cases q1 : wl g n ws p = -1
    · rw [if_pos q1, if_pos q1]
      split
      · exact stay
      · exact stay
    · have hk := wl_k q1
      have hb := wl_b hk
      have h5 : p < tx_e g n p := tx_e_gt' (by omega)
      have h6 := hok (tx_e g n p) c (tx_e_le h1)
      rw [if_neg q1, if_neg q1, if_neg (by omega)]
      obtain ⟨d, e1, e2⟩ := hX (.inr (tx_e g n p)) c (tx_e_le h1)
      have e3 : X (tx_a g n (tx_e g n p) : Int) (tx_e g n (tx_e g n p) : Int) (tx_k g n (tx_e g n p) : Int) c.2 c.1 (0 : Int) (-1 : Int) = ap5 (cst g n (sp (tx_e g n p) c).1) d := e1
      rw [lf_p_e, lf_p_e, lf_p_e, if_neg (show ¬ (1 : Int) = 0 from by decide)]
      rw [e3]
      have e4 : ∀ q, (sp (tx_e g n p) c).1 = .inr q → d = (sp (tx_e g n p) c).2 := e2
      cases e : (sp (tx_e g n p) c).1 with
      | inl q0 =>
        obtain ⟨f', rfl⟩ : ∃ f', f = f' + 1 := ⟨f - 1, by omega⟩
        refine ⟨em d op, ?_, fun q r => by cases r⟩
        show gv X TW op (f' + 1) (n : Int) (n : Int) (0 : Int) q0.1 q0.2 (em d op).1 (em d op).2 _ = _
        rw [gv_0 hT]
        rfl
      | inr p2 =>
        rw [e] at h6
        have h7 := h6.2 p2 rfl
        have h8 : p2 ≤ n := h6.1
        have e5 := e4 p2 e
        rw [e5]
        have := ih p2 (em (sp (tx_e g n p) c).2 op) (k + 1) f h6.1 (by omega) (by omega) (by omega)
        rw [show ((k + 1 : Nat) : Int) = (k : Int) + 1 from by omega] at this
        exact this
theorem gV_m {g : Nat → Int} {n : Nat} {X : XF} {TW : Int → Int → Int → Int × Int × Int × Int} {sp : Nat → CD → ST × CD} {ws : List (List Int)} {op : Int} (hn : n ≤ 1600) (hT : twm g n TW ws) (hX : meets g n X sp) (hok : okR n sp) : meets g n (gV X TW op) (spV g n sp ws op) := by
  intro s c hv
  obtain ⟨d, e1, e2⟩ := hX s c hv
  unfold runX gV
  unfold runX at e1
  rw [e1]
  cases s with
  | inl q =>
    refine ⟨d, ?_, fun q r => by cases r⟩
    show gv X TW op (1601 + 1) (n : Int) (n : Int) (0 : Int) q.1 q.2 d.1 d.2 (0 : Int) = _
    rw [gv_0 hT]
    rfl
  | inr p =>
    have h1 := hok p c hv
    have e4 : ∀ q, (sp p c).1 = .inr q → d = (sp p c).2 := e2
    show tellC g n (lf7 (ap5 (cst g n (sp p c).1) d) _) (spV g n sp ws op p c)
    unfold spV
    cases e : (sp p c).1 with
    | inl q0 =>
      refine ⟨d, ?_, fun q r => by cases r⟩
      show gv X TW op (1601 + 1) (n : Int) (n : Int) (0 : Int) q0.1 q0.2 d.1 d.2 (0 : Int) = _
      rw [gv_0 hT]
      rfl
    | inr p2 =>
      rw [e] at h1
      rw [e4 p2 e]
      exact gv_s hn hT hX hok 1602 p2 (sp p c).2 0 1602 h1.1 (by have := h1.1; omega) (by omega) (by omega)
end
