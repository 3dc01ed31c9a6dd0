/-! the model's lexical methods -/
theorem ml_look0 {g : Nat → Int} {n : Nat} : ∀ (k a : Nat), a ≤ n → n - a < k → F_X10_look_0 (n : Int) g k (a : Int) = ((if tx_run (tx_b g) n a < n then g (tx_run (tx_b g) n a) else -1), ((tx_run (tx_b g) n a : Nat) : Int)) := by
  intro k
  induction k with
  | zero => intro a h1 h2; omega
  | succ k ih =>
    intro a h1 h2
    show F_X10_look_0b (n : Int) g (F_X10_look_0 (n : Int) g k) (a : Int) = _
    unfold F_X10_look_0b
    rw [Int.toNat_natCast]
    by_cases h3 : a < n
    · rw [if_neg (by omega)]
      by_cases h4 : g a = 10
      · rw [if_pos h4, show (a : Int) + (1 : Int) = ((a + 1 : Nat) : Int) from by omega, ih (a + 1) (by omega) (by omega), ← tx_run_step h3 (decide_eq_true (Or.inl h4))]
      · rw [if_neg h4]
        by_cases h5 : g a = 32
        · rw [if_pos h5, show (a : Int) + (1 : Int) = ((a + 1 : Nat) : Int) from by omega, ih (a + 1) (by omega) (by omega), ← tx_run_step h3 (decide_eq_true (Or.inr h5))]
        · rw [if_neg h5, if_neg (by omega), tx_run_stop (fun q => (of_decide_eq_true q.2).elim h4 h5), if_pos h3]
    · rw [if_pos (by omega), if_pos (by omega), tx_run_stop (fun q => h3 q.1), if_neg h3]
/-- the byte that stands next -/
def lk (g : Nat → Int) (n p : Nat) : Int := if tx_a g n p < n then g (tx_a g n p) else -1
/-- what the model holds of a place: at, ended -/
def mp (g : Nat → Int) (n p : Nat) (xa xe : Int) : Prop := p ≤ n ∧ (∃ a : Nat, xa = (a : Int) ∧ p ≤ a ∧ a ≤ n ∧ tx_a g n a = tx_a g n p) ∧ xe ≤ (p : Int) ∧ (xe = (p : Int) ↔ (¬ p = 0 ∧ ¬ tx_so g n (p - 1) = 3))
def rm (g : Nat → Int) (n : Nat) (s : ST) (xa xe xb xp : Int) : Prop := match s with
  | .inl q => xb = q.1 ∧ xp = q.2
  | .inr p => xb = 0 ∧ xp = -1 ∧ mp g n p xa xe
theorem ml_look {g : Nat → Int} {n p : Nat} {xa xe : Int} (hn : n ≤ 1600) (h : mp g n p xa xe) : F_X10_look xa (n : Int) g = (lk g n p, (tx_a g n p : Int)) := by
  obtain ⟨h0, ⟨a, e1, h1, h2, h3⟩, h4, h5⟩ := h
  unfold F_X10_look
  rw [e1, ml_look0 1602 a h2 (by omega)]
  show ((if tx_a g n a < n then g (tx_a g n a) else -1), ((tx_a g n a : Nat) : Int)) = _
  rw [h3]
  rfl
theorem mp_a {g : Nat → Int} {n p : Nat} {xa xe : Int} (h : mp g n p xa xe) : mp g n p (tx_a g n p : Int) xe := ⟨h.1, ⟨tx_a g n p, rfl, tx_a_ge g n p, tx_a_le h.1, tx_a_idem g n p⟩, h.2.2⟩
theorem mp_gl {g : Nat → Int} {n p : Nat} {xa xe : Int} (h : mp g n p xa xe) : (tx_a g n p : Int) = xe ↔ (tx_a g n p = p ∧ ¬ p = 0 ∧ ¬ tx_so g n (p - 1) = 3) := by
  obtain ⟨h0, _, h4, h5⟩ := h
  have h6 := tx_a_ge g n p
  constructor
  · intro q
    exact ⟨by omega, h5.mp (by omega)⟩
  · intro q
    have := h5.mpr q.2
    omega
/-- a word or number has been taken -/
theorem mp_tok {g : Nat → Int} {n p s : Nat} (hp : p ≤ n) (hk : tx_k g n p = s) (hs : s = 1 ∨ s = 2) : mp g n (tx_e g n p) (tx_e g n p : Int) (tx_e g n p : Int) := by
  have h := tx_e_in hk hs
  have h1 := h.2 (tx_e g n p - 1) (by omega) (by omega)
  exact ⟨tx_e_le hp, ⟨_, rfl, Nat.le_refl _, tx_e_le hp, rfl⟩, Int.le_refl _, ⟨fun _ => ⟨by omega, by omega⟩, fun _ => rfl⟩⟩
theorem tx_k_so {g : Nat → Int} {n p : Nat} : tx_k g n p = 4 ∨ tx_k g n p = tx_so g n (tx_a g n p) := by
  unfold tx_k
  split
  · exact Or.inl rfl
  · exact Or.inr rfl
theorem tx_k3 {g : Nat → Int} {n p : Nat} : tx_k g n p = 3 ↔ tx_so g n (tx_a g n p) = 3 := by
  unfold tx_k
  split
  · rename_i h
    constructor
    · intro q
      omega
    · intro q
      omega
  · exact Iff.rfl
/-- a sign has been taken -/
theorem mp_sgn {g : Nat → Int} {n p : Nat} {xa xe : Int} (h : mp g n p xa xe) (hk : tx_k g n p = 3) : mp g n (tx_e g n p) ((tx_a g n p : Int) + 1) xe := by
  obtain ⟨h0, _, h4, h5⟩ := h
  have hs := tx_k3.mp hk
  have h6 := tx_a_ge g n p
  have h8 := tx_e_le (f := g) h0
  have h7 : tx_e g n p = tx_a g n p + 1 := by
    unfold tx_e
    rw [if_neg (by omega), if_pos hs]
  refine ⟨h8, ⟨tx_e g n p, by omega, Nat.le_refl _, h8, rfl⟩, by omega, ⟨fun q => by omega, fun q => absurd (by rw [h7]; exact hs) q.2⟩⟩
theorem ml_let (c : Int) : F_X10_isLetter c = if 97 ≤ c ∧ c ≤ 122 then 1 else 0 := by
  unfold F_X10_isLetter F_X10_isLetter_16
  (repeat' split) <;> omega
theorem ml_dig (c : Int) : F_X10_isDigit c = if 48 ≤ c ∧ c ≤ 57 then 1 else 0 := by
  unfold F_X10_isDigit
  (repeat' split) <;> omega
theorem lk_let {g : Nat → Int} {n p : Nat} : F_X10_isLetter (lk g n p) = if tx_so g n (tx_a g n p) = 1 then 1 else 0 := by
  rw [ml_let]
  unfold lk tx_so
  (repeat' split) <;> omega
theorem lk_dig {g : Nat → Int} {n p : Nat} : F_X10_isDigit (lk g n p) = if tx_so g n (tx_a g n p) = 2 then 1 else 0 := by
  rw [ml_dig]
  unfold lk tx_so
  (repeat' split) <;> omega
theorem so_let {g : Nat → Int} {n k : Nat} (h : k < n) : F_X10_isLetter (g k) = if tx_so g n k = 1 then 1 else 0 := by
  rw [ml_let]
  unfold tx_so
  (repeat' split) <;> omega
theorem so_dig {g : Nat → Int} {n k : Nat} (h : k < n) : F_X10_isDigit (g k) = if tx_so g n k = 2 then 1 else 0 := by
  rw [ml_dig]
  unfold tx_so
  (repeat' split) <;> omega
/-- is a word here? for any length -/
def gh_76b (r : Int) (g w : Nat → Int) (K : Int → Int → Int → Int × Int) (k a i : Int) : Int × Int := if r ≤ i then ((1 : Int), a) else if g (Int.toNat (a + i)) = w (Int.toNat i) then K k a (i + (1 : Int)) else ((0 : Int), a)
def gh_76 (r : Int) (g w : Nat → Int) : Nat → Int → Int → Int → Int × Int
  | 0 => fun _ _ _ => ((0 : Int), (0 : Int))
  | n + 1 => gh_76b r g w (gh_76 r g w n)
def gh_61 (r : Int) (f : Nat) (g w : Nat → Int) (k a : Int) : Int × Int := if (k - a) = r then gh_76 r g w f k a (0 : Int) else ((0 : Int), a)
def gh_35b (r : Int) (f : Nat) (n : Int) (g w : Nat → Int) (K : Int → Int → Int × Int) (k a : Int) : Int × Int := if n ≤ k then gh_61 r f g w k a else (lf_b (F_X10_isLetter (g (Int.toNat k))) (fun q => (if q = (0 : Int) then gh_61 r f g w k a else K (k + (1 : Int)) a)))
def gh_35 (r : Int) (f : Nat) (n : Int) (g w : Nat → Int) : Nat → Int → Int → Int × Int
  | 0 => fun _ _ => ((0 : Int), (0 : Int))
  | k + 1 => gh_35b r f n g w (gh_35 r f n g w k)
def gH (r : Int) (f : Nat) (xa n xe xb : Int) (g w : Nat → Int) : Int × Int := if xb = (0 : Int) then (lf_p (F_X10_look xa n g) (fun c v => (lf_b (F_X10_isLetter c) (fun q => (if q = (0 : Int) then ((0 : Int), v) else (if v = xe then ((0 : Int), v) else gh_35 r f n g w 1602 v v)))))) else ((0 : Int), xa)
theorem wq_len {g : Nat → Int} {e : Nat} : ∀ (w : List Int) (nx : Nat), wq g e w nx = true → e = nx + w.length := by
  intro w
  induction w with
  | nil =>
    intro nx h
    have := of_decide_eq_true h
    show e = nx + 0
    omega
  | cons c w ih =>
    intro nx h
    have h1 : (decide (nx < e) && decide (g nx = c) && wq g e w (nx + 1)) = true := h
    rw [Bool.and_eq_true] at h1
    have := ih (nx + 1) h1.2
    show e = nx + (w.length + 1)
    omega
/-- a row of bytes holds a word -/
def wa (w : Nat → Int) (W : List Int) : Prop := ∀ i, i < W.length → w i = W.getD i 0
theorem gh_76s {g w : Nat → Int} {W : List Int} {k : Int} {a e : Nat} (hw : wa w W) (he : e = a + W.length) : ∀ (f i : Nat), i ≤ W.length → W.length - i < f → gh_76 (W.length : Int) g w f k (a : Int) (i : Int) = (b2 (wq g e (W.drop i) (a + i)), (a : Int)) := by
  intro f
  induction f with
  | zero => intro i h1 h2; omega
  | succ f ih =>
    intro i h1 h2
    show gh_76b (W.length : Int) g w (gh_76 (W.length : Int) g w f) k (a : Int) (i : Int) = _
    unfold gh_76b
    rw [Int.toNat_natCast, show Int.toNat ((a : Int) + (i : Int)) = a + i from by omega]
    by_cases h3 : i = W.length
    · rw [if_pos (by omega), List.drop_eq_nil_of_le (by omega)]
      show _ = (b2 (decide (a + i = e)), (a : Int))
      rw [decide_eq_true (by omega)]
      rfl
    · rw [if_neg (by omega), hw i (by omega), wi_drop (by omega : i < W.length)]
      show _ = (b2 (decide (a + i < e) && decide (g (a + i) = W.getD i 0) && wq g e (W.drop (i + 1)) (a + i + 1)), (a : Int))
      rw [decide_eq_true (by omega : a + i < e)]
      by_cases h4 : g (a + i) = W.getD i 0
      · rw [if_pos h4, decide_eq_true h4, show (i : Int) + (1 : Int) = ((i + 1 : Nat) : Int) from by omega, ih (i + 1) (by omega) (by omega)]
        rfl
      · rw [if_neg h4, decide_eq_false h4]
        rfl
theorem gh_61s {g w : Nat → Int} {W : List Int} {a e : Nat} {f : Nat} (hf : W.length < f) (hw : wa w W) (he : a ≤ e) : gh_61 (W.length : Int) f g w (e : Int) (a : Int) = (b2 (wq g e W a), (a : Int)) := by
  unfold gh_61
  by_cases q : e = a + W.length
  · rw [if_pos (by omega)]
    exact gh_76s hw q f 0 (by omega) (by omega)
  · rw [if_neg (by omega)]
    cases c : wq g e W a with
    | false => rfl
    | true => exact absurd (wq_len W a c) q
theorem gh_35s {g w : Nat → Int} {W : List Int} {n a : Nat} {f : Nat} (hf : W.length < f) (hw : wa w W) : ∀ (m k : Nat), a ≤ k → k ≤ n → n - k < m → gh_35 (W.length : Int) f (n : Int) g w m (k : Int) (a : Int) = (b2 (wq g (tx_run (tx_s g n 1) n k) W a), (a : Int)) := by
  intro m
  induction m with
  | zero => intro k h1 h2 h3; omega
  | succ m ih =>
    intro k h1 h2 h3
    show gh_35b (W.length : Int) f (n : Int) g w (gh_35 (W.length : Int) f (n : Int) g w m) (k : Int) (a : Int) = _
    unfold gh_35b
    repeat rw [lf_b_e]
    rw [Int.toNat_natCast]
    by_cases h4 : k < n
    · rw [if_neg (by omega), so_let h4]
      by_cases h5 : tx_so g n k = 1
      · rw [if_pos h5, if_neg (by decide), show (k : Int) + (1 : Int) = ((k + 1 : Nat) : Int) from by omega, ih (k + 1) (by omega) (by omega) (by omega), ← tx_run_step h4 (decide_eq_true h5)]
      · rw [if_neg h5, if_pos rfl, tx_run_stop (fun q => h5 (of_decide_eq_true q.2))]
        exact gh_61s hf hw h1
    · rw [if_pos (by omega), tx_run_stop (fun q => h4 q.1)]
      exact gh_61s hf hw h1
/-- the word W stands here -/
def wh (g : Nat → Int) (n : Nat) (W : List Int) (p : Nat) : Bool := decide (tx_k g n p = 1) && wq g (tx_e g n p) W (tx_a g n p)
theorem gH_1 {g w : Nat → Int} {W : List Int} {n p : Nat} {f : Nat} {xa xe : Int} (hn : n ≤ 1600) (hf : W.length < f) (hw : wa w W) (h : mp g n p xa xe) : gH (W.length : Int) f xa (n : Int) xe (0 : Int) g w = (b2 (wh g n W p), (tx_a g n p : Int)) := by
  unfold gH
  repeat rw [lf_b_e]
  rw [if_pos rfl, ml_look hn h]
  show (if F_X10_isLetter (lk g n p) = (0 : Int) then ((0 : Int), (tx_a g n p : Int)) else (if (tx_a g n p : Int) = xe then ((0 : Int), (tx_a g n p : Int)) else gh_35 (W.length : Int) f (n : Int) g w 1602 (tx_a g n p : Int) (tx_a g n p : Int))) = _
  rw [lk_let]
  unfold wh
  by_cases q : tx_so g n (tx_a g n p) = 1
  · have hlt := tx_so_1 q
    rw [if_pos q, if_neg (by decide)]
    by_cases q2 : (tx_a g n p : Int) = xe
    · have q3 := (mp_gl h).mp q2
      rw [if_pos q2, tx_k_yes rfl q3.1 q3.2.1 q3.2.2 (Or.inl q)]
      rfl
    · have hk : tx_k g n p = 1 := by
        rw [tx_k_no rfl (fun r => q2 ((mp_gl h).mpr ⟨r.1, r.2.1, r.2.2.1⟩))]
        exact q
      rw [if_neg q2, gh_35s hf hw 1602 (tx_a g n p) (Nat.le_refl _) (by omega) (by omega), hk]
      have e : tx_e g n p = tx_run (tx_s g n 1) n (tx_a g n p) := by
        unfold tx_e
        rw [if_neg (by omega), if_neg (by omega), q, tx_run_step hlt.1 (decide_eq_true q)]
      rw [e]
      rfl
  · rw [if_neg q, if_pos rfl]
    have hk : ¬ tx_k g n p = 1 := by
      rcases tx_k_so (g := g) (n := n) (p := p) with r | r
      · omega
      · omega
    rw [decide_eq_false hk]
    rfl
theorem gH_0 {g w : Nat → Int} {r : Int} {f : Nat} {xa n xe xb : Int} (h : ¬ xb = 0) : gH r f xa n xe xb g w = ((0 : Int), xa) := by
  unfold gH
  rw [if_neg h]
