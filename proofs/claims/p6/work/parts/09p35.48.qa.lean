/-! which words are allowed: by the model's kind of text, by the class's bits -/
def tkA (tk al : Int) : Prop := (tk = 0 ∧ al = 7) ∨ (tk = 1 ∧ al = 507) ∨ (tk = 2 ∧ al = 123) ∨ (tk = 3 ∧ al = 3707)
def alB (al k : Int) : Bool := decide (¬ lf_o lf_iand (lf_o lf_ishr al k) 1 = 0)
theorem al_t (tk al : Int) (h : (List.range 12).all (fun k => decide (F_X10_isAllowed tk (k : Int) = b2 (alB al (k : Int)))) = true) {k : Int} (h0 : 0 ≤ k) (h1 : k < 12) : F_X10_isAllowed tk k = b2 (alB al k) := by
  have := of_decide_eq_true (List.all_eq_true.mp h k.toNat (List.mem_range.mpr (by omega)))
  rw [show ((k.toNat : Nat) : Int) = k from by omega] at this
  exact this
theorem al_eq {tk al k : Int} (h : tkA tk al) (h0 : 0 ≤ k) (h1 : k < 12) : F_X10_isAllowed tk k = b2 (alB al k) := by
  rcases h with ⟨e1, e2⟩ | ⟨e1, e2⟩ | ⟨e1, e2⟩ | ⟨e1, e2⟩ <;> subst e1 <;> subst e2
  · exact al_t 0 7 (by decide +kernel) h0 h1
  · exact al_t 1 507 (by decide +kernel) h0 h1
  · exact al_t 2 123 (by decide +kernel) h0 h1
  · exact al_t 3 3707 (by decide +kernel) h0 h1
theorem al_k {tk al : Int} (h : tkA tk al) : F_X10_isAllowed tk 12 = b2 (decide (al = 3707)) := by
  rcases h with ⟨e1, e2⟩ | ⟨e1, e2⟩ | ⟨e1, e2⟩ | ⟨e1, e2⟩ <;> subst e1 <;> subst e2 <;> decide +kernel
theorem wfind_app {g : Nat → Int} {a e : Nat} (v : List Int) : ∀ (ws : List (List Int)) (i : Nat), wfind g a e (ws ++ [v]) i = if wfind g a e ws i = -1 then (if wq g e v a = true then ((i + ws.length : Nat) : Int) else -1) else wfind g a e ws i
  | [], i => by
    show (if wq g e v a = true then (i : Int) else -1) = _
    rw [if_pos (show wfind g a e [] i = -1 from rfl)]
    rfl
  | w :: ws, i => by
    show (if wq g e w a = true then (i : Int) else wfind g a e (ws ++ [v]) (i + 1)) = if (if wq g e w a = true then (i : Int) else wfind g a e ws (i + 1)) = -1 then _ else (if wq g e w a = true then (i : Int) else wfind g a e ws (i + 1))
    by_cases q : wq g e w a = true
    · rw [if_pos q, if_pos q, if_neg (by omega)]
    · rw [if_neg q, if_neg q, wfind_app v ws (i + 1), show i + (w :: ws).length = i + 1 + ws.length from by show i + (ws.length + 1) = _; omega]
theorem wfind_le {g : Nat → Int} {a e : Nat} : ∀ (ws : List (List Int)) (i : Nat), wfind g a e ws i = -1 ∨ ((i : Int) ≤ wfind g a e ws i ∧ wfind g a e ws i < (i : Int) + (ws.length : Int))
  | [], _ => Or.inl rfl
  | w :: ws, i => by
    show (if wq g e w a = true then (i : Int) else wfind g a e ws (i + 1)) = -1 ∨ ((i : Int) ≤ (if wq g e w a = true then (i : Int) else wfind g a e ws (i + 1)) ∧ (if wq g e w a = true then (i : Int) else wfind g a e ws (i + 1)) < (i : Int) + ((ws.length + 1 : Nat) : Int))
    by_cases q : wq g e w a = true
    · rw [if_pos q]
      exact Or.inr ⟨Int.le_refl _, by omega⟩
    · rw [if_neg q]
      rcases wfind_le ws (i + 1) with r | r
      · exact Or.inl r
      · exact Or.inr ⟨by omega, by omega⟩
theorem wl_q {g : Nat → Int} {n p : Nat} : wl g n ws_q p = if wl g n ws_20 p = -1 then (if wl g n ws_19 p = -1 then -1 else 12) else wl g n ws_20 p := by
  unfold wl
  by_cases hk : tx_k g n p = 1
  · rw [if_pos hk, if_pos hk, if_pos hk, show ws_q = ws_20 ++ [W_kind] from rfl, wfind_app]
    have e19 : wfind g (tx_a g n p) (tx_e g n p) ws_19 0 = if wq g (tx_e g n p) W_kind (tx_a g n p) = true then 0 else -1 := rfl
    rw [e19]
    by_cases c : wfind g (tx_a g n p) (tx_e g n p) ws_20 0 = -1
    · rw [if_pos c, if_pos c]
      by_cases q : wq g (tx_e g n p) W_kind (tx_a g n p) = true
      · rw [if_pos q, if_pos q, if_neg (show ¬ (0 : Int) = -1 from by decide)]
        rfl
      · rw [if_neg q, if_neg q, if_pos rfl]
    · rw [if_neg c, if_neg c]
  · rw [if_neg hk, if_neg hk, if_neg hk, if_pos rfl, if_pos rfl]
theorem wl_20 {g : Nat → Int} {n p : Nat} (h : ¬ wl g n ws_20 p = -1) : 0 ≤ wl g n ws_20 p ∧ wl g n ws_20 p < 12 := by
  have hk := wl_k h
  unfold wl at *
  rw [if_pos hk] at *
  rcases wfind_le (g := g) (a := tx_a g n p) (e := tx_e g n p) ws_20 0 with r | r
  · exact absurd r h
  · have : ((ws_20.length : Nat) : Int) = 12 := rfl
    exact ⟨by omega, by omega⟩
