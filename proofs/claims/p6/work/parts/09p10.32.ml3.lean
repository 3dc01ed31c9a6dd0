theorem sp_w1 {g : Nat → Int} {n p : Nat} (W : List Int) : sp_w g n [W] p = if wh g n W p = true then .inr (tx_e g n p) else .inl (1, (tx_a g n p : Int)) := by
  unfold sp_w wl wh wfind wfind
  by_cases q : tx_k g n p = 1
  · rw [if_pos q, decide_eq_true q]
    cases wq g (tx_e g n p) W (tx_a g n p) with
    | true => rfl
    | false => rfl
  · rw [if_neg q, decide_eq_false q]
    rfl
theorem wh_k {g : Nat → Int} {n p : Nat} {W : List Int} (h : wh g n W p = true) : tx_k g n p = 1 ∧ tx_e g n p = tx_a g n p + W.length := by
  unfold wh at h
  rw [Bool.and_eq_true] at h
  exact ⟨of_decide_eq_true h.1, wq_len W _ h.2⟩
/-- what is asked: a state behind it -/
def rm4 (g : Nat → Int) (n : Nat) (s : ST) (o : Int × Int × Int × Int) : Prop := rm g n s o.1 o.2.1 o.2.2.1 o.2.2.2
/-- a sign taken -/
def sp_s (g : Nat → Int) (n : Nat) (c : Int) (p : Nat) : ST := sp_need g n c p
theorem lk_sgn {g : Nat → Int} {n p : Nat} {c : Int} (hc : (0 ≤ c ∧ c ≤ 47 ∧ ¬ c = 10 ∧ ¬ c = 32) ∨ (58 ≤ c ∧ c ≤ 96)) : lk g n p = c ↔ (tx_k g n p = 3 ∧ g (tx_a g n p) = c) := by
  rw [tx_k3]
  unfold lk tx_so
  constructor
  · intro h
    (repeat' split at h) <;> (repeat' split) <;> omega
  · intro h
    obtain ⟨h1, h2⟩ := h
    (repeat' split at h1) <;> (repeat' split) <;> omega
theorem F_X10_takes_r2_1 {g w : Nat → Int} {W : List Int} {n p : Nat} {xa xe : Int} (hn : n ≤ 1600) (hW : W.length = 2) (hw : wa w W) (h : mp g n p xa xe) : F_X10_takes_r2 xa (n : Int) xe (0 : Int) g w = if wh g n W p = true then ((1 : Int), (tx_e g n p : Int), (tx_e g n p : Int)) else ((0 : Int), (tx_a g n p : Int), xe) := by
  unfold F_X10_takes_r2
  rw [F_X10_isHere_r2_1 hn hW hw h]
  cases c : wh g n W p with
  | false => rfl
  | true =>
    have h2 := (wh_k c).2
    show ((1 : Int), (tx_a g n p : Int) + (2 : Int), (tx_a g n p : Int) + (2 : Int)) = ((1 : Int), (tx_e g n p : Int), (tx_e g n p : Int))
    rw [show (tx_a g n p : Int) + (2 : Int) = (tx_e g n p : Int) from by omega]
theorem F_X10_takes_r2_0 {g w : Nat → Int} {xa n xe xb : Int} (h : ¬ xb = 0) : F_X10_takes_r2 xa n xe xb g w = ((0 : Int), xa, xe) := by
  unfold F_X10_takes_r2
  rw [F_X10_isHere_r2_0 h]
  rfl
theorem F_X10_asks_r2_s {g w : Nat → Int} {W : List Int} {n : Nat} {s : ST} {xa xe xb xp : Int} (hn : n ≤ 1600) (hW : W.length = 2) (hw : wa w W) (hv : sv n s) (h : rm g n s xa xe xb xp) : rm4 g n (sb s (sp_w g n [W])) (F_X10_asks_r2 xa (n : Int) xe xb xp g w) := by
  unfold F_X10_asks_r2
  cases s with
  | inl q =>
    have hb : ¬ xb = 0 := fun r => hv (h.1.symm.trans r)
    rw [if_neg hb]
    exact h
  | inr p =>
    obtain ⟨h1, h2, h3⟩ := h
    subst h1
    subst h2
    rw [if_pos rfl, F_X10_takes_r2_1 hn hW hw h3]
    show rm4 g n (sp_w g n [W] p) _
    rw [sp_w1]
    cases c : wh g n W p with
    | false => exact ⟨rfl, rfl⟩
    | true => exact ⟨rfl, rfl, mp_tok h3.1 (wh_k c).1 (Or.inl rfl)⟩
theorem F_X10_takes_1 {g w : Nat → Int} {W : List Int} {n p : Nat} {xa xe : Int} (hn : n ≤ 1600) (hW : W.length = 3) (hw : wa w W) (h : mp g n p xa xe) : F_X10_takes xa (n : Int) xe (0 : Int) g w = if wh g n W p = true then ((1 : Int), (tx_e g n p : Int), (tx_e g n p : Int)) else ((0 : Int), (tx_a g n p : Int), xe) := by
  unfold F_X10_takes
  rw [F_X10_isHere_1 hn hW hw h]
  cases c : wh g n W p with
  | false => rfl
  | true =>
    have h2 := (wh_k c).2
    show ((1 : Int), (tx_a g n p : Int) + (3 : Int), (tx_a g n p : Int) + (3 : Int)) = ((1 : Int), (tx_e g n p : Int), (tx_e g n p : Int))
    rw [show (tx_a g n p : Int) + (3 : Int) = (tx_e g n p : Int) from by omega]
theorem F_X10_takes_0 {g w : Nat → Int} {xa n xe xb : Int} (h : ¬ xb = 0) : F_X10_takes xa n xe xb g w = ((0 : Int), xa, xe) := by
  unfold F_X10_takes
  rw [F_X10_isHere_0 h]
  rfl
theorem F_X10_asks_s {g w : Nat → Int} {W : List Int} {n : Nat} {s : ST} {xa xe xb xp : Int} (hn : n ≤ 1600) (hW : W.length = 3) (hw : wa w W) (hv : sv n s) (h : rm g n s xa xe xb xp) : rm4 g n (sb s (sp_w g n [W])) (F_X10_asks xa (n : Int) xe xb xp g w) := by
  unfold F_X10_asks
  cases s with
  | inl q =>
    have hb : ¬ xb = 0 := fun r => hv (h.1.symm.trans r)
    rw [if_neg hb]
    exact h
  | inr p =>
    obtain ⟨h1, h2, h3⟩ := h
    subst h1
    subst h2
    rw [if_pos rfl, F_X10_takes_1 hn hW hw h3]
    show rm4 g n (sp_w g n [W] p) _
    rw [sp_w1]
    cases c : wh g n W p with
    | false => exact ⟨rfl, rfl⟩
    | true => exact ⟨rfl, rfl, mp_tok h3.1 (wh_k c).1 (Or.inl rfl)⟩
theorem F_X10_takes_r4_1 {g w : Nat → Int} {W : List Int} {n p : Nat} {xa xe : Int} (hn : n ≤ 1600) (hW : W.length = 4) (hw : wa w W) (h : mp g n p xa xe) : F_X10_takes_r4 xa (n : Int) xe (0 : Int) g w = if wh g n W p = true then ((1 : Int), (tx_e g n p : Int), (tx_e g n p : Int)) else ((0 : Int), (tx_a g n p : Int), xe) := by
  unfold F_X10_takes_r4
  rw [F_X10_isHere_r4_1 hn hW hw h]
  cases c : wh g n W p with
  | false => rfl
  | true =>
    have h2 := (wh_k c).2
    show ((1 : Int), (tx_a g n p : Int) + (4 : Int), (tx_a g n p : Int) + (4 : Int)) = ((1 : Int), (tx_e g n p : Int), (tx_e g n p : Int))
    rw [show (tx_a g n p : Int) + (4 : Int) = (tx_e g n p : Int) from by omega]
theorem F_X10_takes_r4_0 {g w : Nat → Int} {xa n xe xb : Int} (h : ¬ xb = 0) : F_X10_takes_r4 xa n xe xb g w = ((0 : Int), xa, xe) := by
  unfold F_X10_takes_r4
  rw [F_X10_isHere_r4_0 h]
  rfl
theorem F_X10_asks_r4_s {g w : Nat → Int} {W : List Int} {n : Nat} {s : ST} {xa xe xb xp : Int} (hn : n ≤ 1600) (hW : W.length = 4) (hw : wa w W) (hv : sv n s) (h : rm g n s xa xe xb xp) : rm4 g n (sb s (sp_w g n [W])) (F_X10_asks_r4 xa (n : Int) xe xb xp g w) := by
  unfold F_X10_asks_r4
  cases s with
  | inl q =>
    have hb : ¬ xb = 0 := fun r => hv (h.1.symm.trans r)
    rw [if_neg hb]
    exact h
  | inr p =>
    obtain ⟨h1, h2, h3⟩ := h
    subst h1
    subst h2
    rw [if_pos rfl, F_X10_takes_r4_1 hn hW hw h3]
    show rm4 g n (sp_w g n [W] p) _
    rw [sp_w1]
    cases c : wh g n W p with
    | false => exact ⟨rfl, rfl⟩
    | true => exact ⟨rfl, rfl, mp_tok h3.1 (wh_k c).1 (Or.inl rfl)⟩
theorem F_X10_takes_r5_1 {g w : Nat → Int} {W : List Int} {n p : Nat} {xa xe : Int} (hn : n ≤ 1600) (hW : W.length = 5) (hw : wa w W) (h : mp g n p xa xe) : F_X10_takes_r5 xa (n : Int) xe (0 : Int) g w = if wh g n W p = true then ((1 : Int), (tx_e g n p : Int), (tx_e g n p : Int)) else ((0 : Int), (tx_a g n p : Int), xe) := by
  unfold F_X10_takes_r5
  rw [F_X10_isHere_r5_1 hn hW hw h]
  cases c : wh g n W p with
  | false => rfl
  | true =>
    have h2 := (wh_k c).2
    show ((1 : Int), (tx_a g n p : Int) + (5 : Int), (tx_a g n p : Int) + (5 : Int)) = ((1 : Int), (tx_e g n p : Int), (tx_e g n p : Int))
    rw [show (tx_a g n p : Int) + (5 : Int) = (tx_e g n p : Int) from by omega]
theorem F_X10_takes_r5_0 {g w : Nat → Int} {xa n xe xb : Int} (h : ¬ xb = 0) : F_X10_takes_r5 xa n xe xb g w = ((0 : Int), xa, xe) := by
  unfold F_X10_takes_r5
  rw [F_X10_isHere_r5_0 h]
  rfl
theorem F_X10_asks_r5_s {g w : Nat → Int} {W : List Int} {n : Nat} {s : ST} {xa xe xb xp : Int} (hn : n ≤ 1600) (hW : W.length = 5) (hw : wa w W) (hv : sv n s) (h : rm g n s xa xe xb xp) : rm4 g n (sb s (sp_w g n [W])) (F_X10_asks_r5 xa (n : Int) xe xb xp g w) := by
  unfold F_X10_asks_r5
  cases s with
  | inl q =>
    have hb : ¬ xb = 0 := fun r => hv (h.1.symm.trans r)
    rw [if_neg hb]
    exact h
  | inr p =>
    obtain ⟨h1, h2, h3⟩ := h
    subst h1
    subst h2
    rw [if_pos rfl, F_X10_takes_r5_1 hn hW hw h3]
    show rm4 g n (sp_w g n [W] p) _
    rw [sp_w1]
    cases c : wh g n W p with
    | false => exact ⟨rfl, rfl⟩
    | true => exact ⟨rfl, rfl, mp_tok h3.1 (wh_k c).1 (Or.inl rfl)⟩
theorem F_X10_takes_r6_1 {g w : Nat → Int} {W : List Int} {n p : Nat} {xa xe : Int} (hn : n ≤ 1600) (hW : W.length = 6) (hw : wa w W) (h : mp g n p xa xe) : F_X10_takes_r6 xa (n : Int) xe (0 : Int) g w = if wh g n W p = true then ((1 : Int), (tx_e g n p : Int), (tx_e g n p : Int)) else ((0 : Int), (tx_a g n p : Int), xe) := by
  unfold F_X10_takes_r6
  rw [F_X10_isHere_r6_1 hn hW hw h]
  cases c : wh g n W p with
  | false => rfl
  | true =>
    have h2 := (wh_k c).2
    show ((1 : Int), (tx_a g n p : Int) + (6 : Int), (tx_a g n p : Int) + (6 : Int)) = ((1 : Int), (tx_e g n p : Int), (tx_e g n p : Int))
    rw [show (tx_a g n p : Int) + (6 : Int) = (tx_e g n p : Int) from by omega]
theorem F_X10_takes_r6_0 {g w : Nat → Int} {xa n xe xb : Int} (h : ¬ xb = 0) : F_X10_takes_r6 xa n xe xb g w = ((0 : Int), xa, xe) := by
  unfold F_X10_takes_r6
  rw [F_X10_isHere_r6_0 h]
  rfl
theorem F_X10_asks_r6_s {g w : Nat → Int} {W : List Int} {n : Nat} {s : ST} {xa xe xb xp : Int} (hn : n ≤ 1600) (hW : W.length = 6) (hw : wa w W) (hv : sv n s) (h : rm g n s xa xe xb xp) : rm4 g n (sb s (sp_w g n [W])) (F_X10_asks_r6 xa (n : Int) xe xb xp g w) := by
  unfold F_X10_asks_r6
  cases s with
  | inl q =>
    have hb : ¬ xb = 0 := fun r => hv (h.1.symm.trans r)
    rw [if_neg hb]
    exact h
  | inr p =>
    obtain ⟨h1, h2, h3⟩ := h
    subst h1
    subst h2
    rw [if_pos rfl, F_X10_takes_r6_1 hn hW hw h3]
    show rm4 g n (sp_w g n [W] p) _
    rw [sp_w1]
    cases c : wh g n W p with
    | false => exact ⟨rfl, rfl⟩
    | true => exact ⟨rfl, rfl, mp_tok h3.1 (wh_k c).1 (Or.inl rfl)⟩
theorem F_X10_takesSign_a0_40_1 {g : Nat → Int} {n p : Nat} {xa xe : Int} (hn : n ≤ 1600) (h : mp g n p xa xe) : F_X10_takesSign_a0_40 xa (n : Int) (0 : Int) g = if tx_k g n p = 3 ∧ g (tx_a g n p) = 40 then ((1 : Int), (tx_a g n p : Int) + 1) else ((0 : Int), (tx_a g n p : Int)) := by
  unfold F_X10_takesSign_a0_40
  rw [if_pos rfl, ml_look hn h]
  show (if lk g n p = (40 : Int) then _ else _) = _
  by_cases q : lk g n p = 40
  · rw [if_pos q, if_pos ((lk_sgn (by omega)).mp q)]
  · rw [if_neg q, if_neg (fun r => q ((lk_sgn (by omega)).mpr r))]
theorem F_X10_takesSign_a0_40_0 {g : Nat → Int} {xa n xb : Int} (h : ¬ xb = 0) : F_X10_takesSign_a0_40 xa n xb g = ((0 : Int), xa) := by
  unfold F_X10_takesSign_a0_40
  rw [if_neg h]
theorem F_X10_asksSign_a0_40_s {g : Nat → Int} {n : Nat} {s : ST} {xa xe xb xp : Int} (hn : n ≤ 1600) (hv : sv n s) (h : rm g n s xa xe xb xp) : rm g n (sb s (sp_need g n 40)) (F_X10_asksSign_a0_40 xa (n : Int) xb xp g).1 xe (F_X10_asksSign_a0_40 xa (n : Int) xb xp g).2.1 (F_X10_asksSign_a0_40 xa (n : Int) xb xp g).2.2 := by
  unfold F_X10_asksSign_a0_40
  cases s with
  | inl q =>
    have hb : ¬ xb = 0 := fun r => hv (h.1.symm.trans r)
    rw [if_neg hb]
    exact h
  | inr p =>
    obtain ⟨h1, h2, h3⟩ := h
    subst h1
    subst h2
    rw [if_pos rfl, F_X10_takesSign_a0_40_1 hn h3]
    show rm g n (sp_need g n 40 p) _ _ _ _
    unfold sp_need
    by_cases q : tx_k g n p = 3 ∧ g (tx_a g n p) = 40
    · rw [if_pos q, if_pos q]
      exact ⟨rfl, rfl, mp_sgn h3 q.1⟩
    · rw [if_neg q, if_neg q]
      exact ⟨rfl, rfl⟩
theorem F_X10_takesSign_a0_42_1 {g : Nat → Int} {n p : Nat} {xa xe : Int} (hn : n ≤ 1600) (h : mp g n p xa xe) : F_X10_takesSign_a0_42 xa (n : Int) (0 : Int) g = if tx_k g n p = 3 ∧ g (tx_a g n p) = 42 then ((1 : Int), (tx_a g n p : Int) + 1) else ((0 : Int), (tx_a g n p : Int)) := by
  unfold F_X10_takesSign_a0_42
  rw [if_pos rfl, ml_look hn h]
  show (if lk g n p = (42 : Int) then _ else _) = _
  by_cases q : lk g n p = 42
  · rw [if_pos q, if_pos ((lk_sgn (by omega)).mp q)]
  · rw [if_neg q, if_neg (fun r => q ((lk_sgn (by omega)).mpr r))]
theorem F_X10_takesSign_a0_42_0 {g : Nat → Int} {xa n xb : Int} (h : ¬ xb = 0) : F_X10_takesSign_a0_42 xa n xb g = ((0 : Int), xa) := by
  unfold F_X10_takesSign_a0_42
  rw [if_neg h]
theorem F_X10_takesSign_a0_43_1 {g : Nat → Int} {n p : Nat} {xa xe : Int} (hn : n ≤ 1600) (h : mp g n p xa xe) : F_X10_takesSign_a0_43 xa (n : Int) (0 : Int) g = if tx_k g n p = 3 ∧ g (tx_a g n p) = 43 then ((1 : Int), (tx_a g n p : Int) + 1) else ((0 : Int), (tx_a g n p : Int)) := by
  unfold F_X10_takesSign_a0_43
  rw [if_pos rfl, ml_look hn h]
  show (if lk g n p = (43 : Int) then _ else _) = _
  by_cases q : lk g n p = 43
  · rw [if_pos q, if_pos ((lk_sgn (by omega)).mp q)]
  · rw [if_neg q, if_neg (fun r => q ((lk_sgn (by omega)).mpr r))]
theorem F_X10_takesSign_a0_43_0 {g : Nat → Int} {xa n xb : Int} (h : ¬ xb = 0) : F_X10_takesSign_a0_43 xa n xb g = ((0 : Int), xa) := by
  unfold F_X10_takesSign_a0_43
  rw [if_neg h]
theorem F_X10_takesSign_a0_44_1 {g : Nat → Int} {n p : Nat} {xa xe : Int} (hn : n ≤ 1600) (h : mp g n p xa xe) : F_X10_takesSign_a0_44 xa (n : Int) (0 : Int) g = if tx_k g n p = 3 ∧ g (tx_a g n p) = 44 then ((1 : Int), (tx_a g n p : Int) + 1) else ((0 : Int), (tx_a g n p : Int)) := by
  unfold F_X10_takesSign_a0_44
  rw [if_pos rfl, ml_look hn h]
  show (if lk g n p = (44 : Int) then _ else _) = _
  by_cases q : lk g n p = 44
  · rw [if_pos q, if_pos ((lk_sgn (by omega)).mp q)]
  · rw [if_neg q, if_neg (fun r => q ((lk_sgn (by omega)).mpr r))]
theorem F_X10_takesSign_a0_44_0 {g : Nat → Int} {xa n xb : Int} (h : ¬ xb = 0) : F_X10_takesSign_a0_44 xa n xb g = ((0 : Int), xa) := by
  unfold F_X10_takesSign_a0_44
  rw [if_neg h]
theorem F_X10_asksSign_a0_44_s {g : Nat → Int} {n : Nat} {s : ST} {xa xe xb xp : Int} (hn : n ≤ 1600) (hv : sv n s) (h : rm g n s xa xe xb xp) : rm g n (sb s (sp_need g n 44)) (F_X10_asksSign_a0_44 xa (n : Int) xb xp g).1 xe (F_X10_asksSign_a0_44 xa (n : Int) xb xp g).2.1 (F_X10_asksSign_a0_44 xa (n : Int) xb xp g).2.2 := by
  unfold F_X10_asksSign_a0_44
  cases s with
  | inl q =>
    have hb : ¬ xb = 0 := fun r => hv (h.1.symm.trans r)
    rw [if_neg hb]
    exact h
  | inr p =>
    obtain ⟨h1, h2, h3⟩ := h
    subst h1
    subst h2
    rw [if_pos rfl, F_X10_takesSign_a0_44_1 hn h3]
    show rm g n (sp_need g n 44 p) _ _ _ _
    unfold sp_need
    by_cases q : tx_k g n p = 3 ∧ g (tx_a g n p) = 44
    · rw [if_pos q, if_pos q]
      exact ⟨rfl, rfl, mp_sgn h3 q.1⟩
    · rw [if_neg q, if_neg q]
      exact ⟨rfl, rfl⟩
theorem F_X10_takesSign_a0_45_1 {g : Nat → Int} {n p : Nat} {xa xe : Int} (hn : n ≤ 1600) (h : mp g n p xa xe) : F_X10_takesSign_a0_45 xa (n : Int) (0 : Int) g = if tx_k g n p = 3 ∧ g (tx_a g n p) = 45 then ((1 : Int), (tx_a g n p : Int) + 1) else ((0 : Int), (tx_a g n p : Int)) := by
  unfold F_X10_takesSign_a0_45
  rw [if_pos rfl, ml_look hn h]
  show (if lk g n p = (45 : Int) then _ else _) = _
  by_cases q : lk g n p = 45
  · rw [if_pos q, if_pos ((lk_sgn (by omega)).mp q)]
  · rw [if_neg q, if_neg (fun r => q ((lk_sgn (by omega)).mpr r))]
theorem F_X10_takesSign_a0_45_0 {g : Nat → Int} {xa n xb : Int} (h : ¬ xb = 0) : F_X10_takesSign_a0_45 xa n xb g = ((0 : Int), xa) := by
  unfold F_X10_takesSign_a0_45
  rw [if_neg h]
theorem F_X10_takesSign_a0_47_1 {g : Nat → Int} {n p : Nat} {xa xe : Int} (hn : n ≤ 1600) (h : mp g n p xa xe) : F_X10_takesSign_a0_47 xa (n : Int) (0 : Int) g = if tx_k g n p = 3 ∧ g (tx_a g n p) = 47 then ((1 : Int), (tx_a g n p : Int) + 1) else ((0 : Int), (tx_a g n p : Int)) := by
  unfold F_X10_takesSign_a0_47
  rw [if_pos rfl, ml_look hn h]
  show (if lk g n p = (47 : Int) then _ else _) = _
  by_cases q : lk g n p = 47
  · rw [if_pos q, if_pos ((lk_sgn (by omega)).mp q)]
  · rw [if_neg q, if_neg (fun r => q ((lk_sgn (by omega)).mpr r))]
theorem F_X10_takesSign_a0_47_0 {g : Nat → Int} {xa n xb : Int} (h : ¬ xb = 0) : F_X10_takesSign_a0_47 xa n xb g = ((0 : Int), xa) := by
  unfold F_X10_takesSign_a0_47
  rw [if_neg h]
theorem F_X10_takesSign_a0_59_1 {g : Nat → Int} {n p : Nat} {xa xe : Int} (hn : n ≤ 1600) (h : mp g n p xa xe) : F_X10_takesSign_a0_59 xa (n : Int) (0 : Int) g = if tx_k g n p = 3 ∧ g (tx_a g n p) = 59 then ((1 : Int), (tx_a g n p : Int) + 1) else ((0 : Int), (tx_a g n p : Int)) := by
  unfold F_X10_takesSign_a0_59
  rw [if_pos rfl, ml_look hn h]
  show (if lk g n p = (59 : Int) then _ else _) = _
  by_cases q : lk g n p = 59
  · rw [if_pos q, if_pos ((lk_sgn (by omega)).mp q)]
  · rw [if_neg q, if_neg (fun r => q ((lk_sgn (by omega)).mpr r))]
theorem F_X10_takesSign_a0_59_0 {g : Nat → Int} {xa n xb : Int} (h : ¬ xb = 0) : F_X10_takesSign_a0_59 xa n xb g = ((0 : Int), xa) := by
  unfold F_X10_takesSign_a0_59
  rw [if_neg h]
theorem F_X10_asksSign_a0_59_s {g : Nat → Int} {n : Nat} {s : ST} {xa xe xb xp : Int} (hn : n ≤ 1600) (hv : sv n s) (h : rm g n s xa xe xb xp) : rm g n (sb s (sp_need g n 59)) (F_X10_asksSign_a0_59 xa (n : Int) xb xp g).1 xe (F_X10_asksSign_a0_59 xa (n : Int) xb xp g).2.1 (F_X10_asksSign_a0_59 xa (n : Int) xb xp g).2.2 := by
  unfold F_X10_asksSign_a0_59
  cases s with
  | inl q =>
    have hb : ¬ xb = 0 := fun r => hv (h.1.symm.trans r)
    rw [if_neg hb]
    exact h
  | inr p =>
    obtain ⟨h1, h2, h3⟩ := h
    subst h1
    subst h2
    rw [if_pos rfl, F_X10_takesSign_a0_59_1 hn h3]
    show rm g n (sp_need g n 59 p) _ _ _ _
    unfold sp_need
    by_cases q : tx_k g n p = 3 ∧ g (tx_a g n p) = 59
    · rw [if_pos q, if_pos q]
      exact ⟨rfl, rfl, mp_sgn h3 q.1⟩
    · rw [if_neg q, if_neg q]
      exact ⟨rfl, rfl⟩
/-- the model's number, any bounds -/
def gm_f (lo hi xb xp : Int) (b a v : Int) : Int × Int × Int × Int × Int := if (lf_isin v lo hi) = (0 : Int) then (v, a, a, (2 : Int), b) else (v, a, a, xb, xp)
def gm_b (n xe xb xp : Int) (g : Nat → Int) (lo hi : Int) (K : Int → Int → Int → Int × Int × Int × Int × Int) (b a v : Int) : Int × Int × Int × Int × Int := if n ≤ a then gm_f lo hi xb xp b a v else (lf_b (F_X10_isDigit (g (Int.toNat a))) (fun r => (if r = (0 : Int) then gm_f lo hi xb xp b a v else (if (a - b) = (4 : Int) then ((0 : Int), a, xe, (1 : Int), a) else (K b (a + (1 : Int)) (lf_o lf_isub (lf_o lf_iadd (lf_o lf_imul (10 : Int) v) (g (Int.toNat a))) (48 : Int)))))))
def gm (n xe xb xp : Int) (g : Nat → Int) (lo hi : Int) : Nat → Int → Int → Int → Int × Int × Int × Int × Int
  | 0 => fun _ _ _ => ((0 : Int), (0 : Int), (0 : Int), (0 : Int), (0 : Int))
  | k + 1 => gm_b n xe xb xp g lo hi (gm n xe xb xp g lo hi k)
def gM (xa n xe xb xp : Int) (g : Nat → Int) (lo hi : Int) : Int × Int × Int × Int × Int := if xb = (0 : Int) then (lf_p (F_X10_look xa n g) (fun c v => (lf_b (F_X10_isDigit c) (fun r => (if r = (0 : Int) then ((0 : Int), v, xe, (1 : Int), v) else (if v = xe then ((0 : Int), v, xe, (1 : Int), v) else gm n xe xb xp g lo hi 1602 v v (0 : Int))))))) else ((0 : Int), xa, xe, xb, xp)
theorem gm_st {v d : Int} (h1 : 0 ≤ v) (h2 : v ≤ 99999) (h3 : 48 ≤ d) (h4 : d ≤ 57) : lf_o lf_isub (lf_o lf_iadd (lf_o lf_imul (10 : Int) v) d) (48 : Int) = v * 10 + d - 48 := by
  rw [lo_mul (by omega) (by omega) (by omega) (by omega) (by omega) (by omega), lo_add (by omega) (by omega) (by omega) (by omega) (by omega) (by omega), lo_sub (by omega) (by omega) (by omega) (by omega) (by omega) (by omega)]
  omega
/-- digits from b on up to e: as many as there are, or a fifth -/
theorem gm_loop {g : Nat → Int} {n b e : Nat} {xe xb xp lo hi : Int} (he : e ≤ n) (hd : ∀ k, b ≤ k → k < e → tx_so g n k = 2) (hx : e < n → ¬ tx_so g n e = 2) : ∀ (k a : Nat) (v : Int), b ≤ a → a ≤ e → a ≤ b + 4 → n - a < k → 0 ≤ v → v < bd10 (4 - (a - b)) → gm (n : Int) xe xb xp g lo hi k (b : Int) (a : Int) v = if e ≤ b + 4 then gm_f lo hi xb xp (b : Int) (e : Int) (dval g (e - a) a v) else ((0 : Int), (b : Int) + 4, xe, (1 : Int), (b : Int) + 4) := by
  intro k
  induction k with
  | zero => intro a v h1 h2 h3 h4; omega
  | succ k ih =>
    intro a v h1 h2 h3 h4 h5 h6
    show gm_b (n : Int) xe xb xp g lo hi (gm (n : Int) xe xb xp g lo hi k) (b : Int) (a : Int) v = _
    unfold gm_b
    repeat rw [lf_b_e]
    rw [Int.toNat_natCast]
    by_cases c : a = e
    · have e0 : e - a = 0 := by omega
      rw [if_pos (by omega : e ≤ b + 4), e0]
      by_cases c2 : a < n
      · rw [if_neg (by omega), so_dig c2, if_neg (show ¬ tx_so g n a = 2 from by rw [c]; exact hx (by omega)), if_pos rfl, c]
        rfl
      · rw [if_pos (by omega), c]
        rfl
    · have h7 := hd a h1 (by omega)
      have h8 := tx_so_2 h7
      rw [if_neg (by omega), so_dig h8.1, if_pos h7, if_neg (by decide)]
      by_cases c3 : a = b + 4
      · rw [if_pos (by omega), if_neg (by omega), show (a : Int) = (b : Int) + 4 from by omega]
      · obtain ⟨r, hr⟩ : ∃ r, 4 - (a - b) = r + 1 := ⟨4 - (a - b) - 1, by omega⟩
        rw [hr] at h6
        obtain ⟨b1, b2, b3⟩ := bd10_s (by omega) h5 h6 h8.2.1 h8.2.2
        rw [if_neg (by omega), gm_st h5 b1 h8.2.1 h8.2.2, show (a : Int) + (1 : Int) = ((a + 1 : Nat) : Int) from by omega, ih (a + 1) _ (by omega) (by omega) (by omega) (by omega) b2 (by rw [show 4 - (a + 1 - b) = r from by omega]; exact b3)]
        obtain ⟨r2, hr2⟩ : ∃ r2, e - a = r2 + 1 := ⟨e - a - 1, by omega⟩
        rw [hr2, show e - (a + 1) = r2 from by omega]
        rfl
def rm5 (g : Nat → Int) (n : Nat) (s : Int × ST) (o : Int × Int × Int × Int × Int) : Prop := rm g n s.2 o.2.1 o.2.2.1 o.2.2.2.1 o.2.2.2.2 ∧ ∀ p, s.2 = .inr p → o.1 = s.1
theorem gM_1 {g : Nat → Int} {n p : Nat} {xa xe : Int} (hn : n ≤ 1600) (h : mp g n p xa xe) (lo hi : Int) : rm5 g n (sp_num g n lo hi p) (gM xa (n : Int) xe (0 : Int) (-1 : Int) g lo hi) := by
  unfold gM
  repeat rw [lf_b_e]
  rw [if_pos rfl, ml_look hn h]
  show rm5 g n (sp_num g n lo hi p) (if F_X10_isDigit (lk g n p) = (0 : Int) then ((0 : Int), (tx_a g n p : Int), xe, (1 : Int), (tx_a g n p : Int)) else (if (tx_a g n p : Int) = xe then ((0 : Int), (tx_a g n p : Int), xe, (1 : Int), (tx_a g n p : Int)) else gm (n : Int) xe (0 : Int) (-1 : Int) g lo hi 1602 (tx_a g n p : Int) (tx_a g n p : Int) (0 : Int)))
  rw [lk_dig]
  unfold sp_num
  by_cases q : tx_so g n (tx_a g n p) = 2
  · have hlt := tx_so_2 q
    rw [if_pos q, if_neg (show ¬ (1 : Int) = 0 from by decide)]
    by_cases q2 : (tx_a g n p : Int) = xe
    · have q3 := (mp_gl h).mp q2
      rw [if_pos q2, tx_k_yes rfl q3.1 q3.2.1 q3.2.2 (Or.inr q), if_neg (show ¬ (4 : Nat) = 2 from by decide)]
      exact ⟨⟨rfl, rfl⟩, fun p r => by cases r⟩
    · have hk : tx_k g n p = 2 := by
        rw [tx_k_no rfl (fun r => q2 ((mp_gl h).mpr ⟨r.1, r.2.1, r.2.2.1⟩))]
        exact q
      have h9 := tx_e_in hk (Or.inr rfl)
      have he := tx_e_le (f := g) h.1
      have hx : tx_e g n p < n → ¬ tx_so g n (tx_e g n p) = 2 := by
        intro r1 r2
        have e : tx_e g n p = tx_run (tx_s g n 2) n (tx_a g n p + 1) := by
          unfold tx_e
          rw [if_neg (by omega), if_neg (by omega), q]
        have := tx_run_end (tx_s g n 2) n (tx_a g n p + 1)
        rw [← e] at this
        exact this ⟨r1, decide_eq_true r2⟩
      rw [if_neg q2, if_pos hk, gm_loop he (fun k h1 h2 => h9.2 k h1 h2) hx 1602 (tx_a g n p) 0 (Nat.le_refl _) (by omega) (by omega) (by omega) (by omega) (by rw [show 4 - (tx_a g n p - tx_a g n p) = 4 from by omega]; decide)]
      by_cases q4 : tx_e g n p ≤ tx_a g n p + 4
      · rw [if_pos q4, if_pos (by omega)]
        generalize dval g (tx_e g n p - tx_a g n p) (tx_a g n p) 0 = v
        unfold gm_f lf_isin
        by_cases q5 : v < lo ∨ hi < v
        · rw [if_pos q5, if_neg (by omega : ¬ (lo ≤ v ∧ v ≤ hi)), if_pos rfl]
          exact ⟨⟨rfl, rfl⟩, fun p r => by cases r⟩
        · rw [if_neg q5, if_pos (by omega : lo ≤ v ∧ v ≤ hi), if_neg (show ¬ (1 : Int) = 0 from by decide)]
          exact ⟨⟨rfl, rfl, mp_tok h.1 hk (Or.inr rfl)⟩, fun p r => rfl⟩
      · rw [if_neg q4, if_neg (by omega)]
        exact ⟨⟨rfl, rfl⟩, fun p r => by cases r⟩
  · rw [if_neg q, if_pos rfl]
    have hk : ¬ tx_k g n p = 2 := by
      rcases tx_k_so (g := g) (n := n) (p := p) with r | r
      · omega
      · omega
    rw [if_neg hk]
    exact ⟨⟨rfl, rfl⟩, fun p r => by cases r⟩
theorem F_X10_number_a0_0_a1_100_l (n xe xb xp : Int) (g : Nat → Int) : ∀ k : Nat, F_X10_number_a0_0_a1_100_49 n xe xb xp g k = gm n xe xb xp g (0 : Int) (100 : Int) k
  | 0 => rfl
  | k + 1 => by
    show F_X10_number_a0_0_a1_100_49b n xe xb xp g (F_X10_number_a0_0_a1_100_49 n xe xb xp g k) = gm_b n xe xb xp g (0 : Int) (100 : Int) (gm n xe xb xp g (0 : Int) (100 : Int) k)
    rw [F_X10_number_a0_0_a1_100_l n xe xb xp g k]
    rfl
theorem F_X10_number_a0_0_a1_100_g (xa n xe xb xp : Int) (g : Nat → Int) : F_X10_number_a0_0_a1_100 xa n xe xb xp g = gM xa n xe xb xp g (0 : Int) (100 : Int) := by
  unfold F_X10_number_a0_0_a1_100
  simp only [F_X10_number_a0_0_a1_100_l]
  rfl
theorem F_X10_number_a0_0_a1_199_l (n xe xb xp : Int) (g : Nat → Int) : ∀ k : Nat, F_X10_number_a0_0_a1_199_49 n xe xb xp g k = gm n xe xb xp g (0 : Int) (199 : Int) k
  | 0 => rfl
  | k + 1 => by
    show F_X10_number_a0_0_a1_199_49b n xe xb xp g (F_X10_number_a0_0_a1_199_49 n xe xb xp g k) = gm_b n xe xb xp g (0 : Int) (199 : Int) (gm n xe xb xp g (0 : Int) (199 : Int) k)
    rw [F_X10_number_a0_0_a1_199_l n xe xb xp g k]
    rfl
theorem F_X10_number_a0_0_a1_199_g (xa n xe xb xp : Int) (g : Nat → Int) : F_X10_number_a0_0_a1_199 xa n xe xb xp g = gM xa n xe xb xp g (0 : Int) (199 : Int) := by
  unfold F_X10_number_a0_0_a1_199
  simp only [F_X10_number_a0_0_a1_199_l]
  rfl
theorem F_X10_number_a0_0_a1_2_l (n xe xb xp : Int) (g : Nat → Int) : ∀ k : Nat, F_X10_number_a0_0_a1_2_49 n xe xb xp g k = gm n xe xb xp g (0 : Int) (2 : Int) k
  | 0 => rfl
  | k + 1 => by
    show F_X10_number_a0_0_a1_2_49b n xe xb xp g (F_X10_number_a0_0_a1_2_49 n xe xb xp g k) = gm_b n xe xb xp g (0 : Int) (2 : Int) (gm n xe xb xp g (0 : Int) (2 : Int) k)
    rw [F_X10_number_a0_0_a1_2_l n xe xb xp g k]
    rfl
theorem F_X10_number_a0_0_a1_2_g (xa n xe xb xp : Int) (g : Nat → Int) : F_X10_number_a0_0_a1_2 xa n xe xb xp g = gM xa n xe xb xp g (0 : Int) (2 : Int) := by
  unfold F_X10_number_a0_0_a1_2
  simp only [F_X10_number_a0_0_a1_2_l]
  rfl
theorem F_X10_number_a0_0_a1_9_l (n xe xb xp : Int) (g : Nat → Int) : ∀ k : Nat, F_X10_number_a0_0_a1_9_49 n xe xb xp g k = gm n xe xb xp g (0 : Int) (9 : Int) k
  | 0 => rfl
  | k + 1 => by
    show F_X10_number_a0_0_a1_9_49b n xe xb xp g (F_X10_number_a0_0_a1_9_49 n xe xb xp g k) = gm_b n xe xb xp g (0 : Int) (9 : Int) (gm n xe xb xp g (0 : Int) (9 : Int) k)
    rw [F_X10_number_a0_0_a1_9_l n xe xb xp g k]
    rfl
theorem F_X10_number_a0_0_a1_9_g (xa n xe xb xp : Int) (g : Nat → Int) : F_X10_number_a0_0_a1_9 xa n xe xb xp g = gM xa n xe xb xp g (0 : Int) (9 : Int) := by
  unfold F_X10_number_a0_0_a1_9
  simp only [F_X10_number_a0_0_a1_9_l]
  rfl
theorem F_X10_number_a0_0_a1_99_l (n xe xb xp : Int) (g : Nat → Int) : ∀ k : Nat, F_X10_number_a0_0_a1_99_49 n xe xb xp g k = gm n xe xb xp g (0 : Int) (99 : Int) k
  | 0 => rfl
  | k + 1 => by
    show F_X10_number_a0_0_a1_99_49b n xe xb xp g (F_X10_number_a0_0_a1_99_49 n xe xb xp g k) = gm_b n xe xb xp g (0 : Int) (99 : Int) (gm n xe xb xp g (0 : Int) (99 : Int) k)
    rw [F_X10_number_a0_0_a1_99_l n xe xb xp g k]
    rfl
theorem F_X10_number_a0_0_a1_99_g (xa n xe xb xp : Int) (g : Nat → Int) : F_X10_number_a0_0_a1_99 xa n xe xb xp g = gM xa n xe xb xp g (0 : Int) (99 : Int) := by
  unfold F_X10_number_a0_0_a1_99
  simp only [F_X10_number_a0_0_a1_99_l]
  rfl
theorem F_X10_number_a0_0_a1_9999_l (n xe xb xp : Int) (g : Nat → Int) : ∀ k : Nat, F_X10_number_a0_0_a1_9999_49 n xe xb xp g k = gm n xe xb xp g (0 : Int) (9999 : Int) k
  | 0 => rfl
  | k + 1 => by
    show F_X10_number_a0_0_a1_9999_49b n xe xb xp g (F_X10_number_a0_0_a1_9999_49 n xe xb xp g k) = gm_b n xe xb xp g (0 : Int) (9999 : Int) (gm n xe xb xp g (0 : Int) (9999 : Int) k)
    rw [F_X10_number_a0_0_a1_9999_l n xe xb xp g k]
    rfl
theorem F_X10_number_a0_0_a1_9999_g (xa n xe xb xp : Int) (g : Nat → Int) : F_X10_number_a0_0_a1_9999 xa n xe xb xp g = gM xa n xe xb xp g (0 : Int) (9999 : Int) := by
  unfold F_X10_number_a0_0_a1_9999
  simp only [F_X10_number_a0_0_a1_9999_l]
  rfl
theorem F_X10_number_a0_1_l (n xe xb xp : Int) (g : Nat → Int) (h : Int) : ∀ k : Nat, F_X10_number_a0_1_49 n xe xb xp g h k = gm n xe xb xp g (1 : Int) h k
  | 0 => rfl
  | k + 1 => by
    show F_X10_number_a0_1_49b n xe xb xp g h (F_X10_number_a0_1_49 n xe xb xp g h k) = gm_b n xe xb xp g (1 : Int) h (gm n xe xb xp g (1 : Int) h k)
    rw [F_X10_number_a0_1_l n xe xb xp g h k]
    rfl
theorem F_X10_number_a0_1_g (xa n xe xb xp : Int) (g : Nat → Int) (h : Int) : F_X10_number_a0_1 xa n xe xb xp g h = gM xa n xe xb xp g (1 : Int) h := by
  unfold F_X10_number_a0_1
  simp only [F_X10_number_a0_1_l]
  rfl
theorem F_X10_number_a0_10_a1_120_l (n xe xb xp : Int) (g : Nat → Int) : ∀ k : Nat, F_X10_number_a0_10_a1_120_49 n xe xb xp g k = gm n xe xb xp g (10 : Int) (120 : Int) k
  | 0 => rfl
  | k + 1 => by
    show F_X10_number_a0_10_a1_120_49b n xe xb xp g (F_X10_number_a0_10_a1_120_49 n xe xb xp g k) = gm_b n xe xb xp g (10 : Int) (120 : Int) (gm n xe xb xp g (10 : Int) (120 : Int) k)
    rw [F_X10_number_a0_10_a1_120_l n xe xb xp g k]
    rfl
theorem F_X10_number_a0_10_a1_120_g (xa n xe xb xp : Int) (g : Nat → Int) : F_X10_number_a0_10_a1_120 xa n xe xb xp g = gM xa n xe xb xp g (10 : Int) (120 : Int) := by
  unfold F_X10_number_a0_10_a1_120
  simp only [F_X10_number_a0_10_a1_120_l]
  rfl
theorem F_X10_number_a0_1_a1_20_l (n xe xb xp : Int) (g : Nat → Int) : ∀ k : Nat, F_X10_number_a0_1_a1_20_49 n xe xb xp g k = gm n xe xb xp g (1 : Int) (20 : Int) k
  | 0 => rfl
  | k + 1 => by
    show F_X10_number_a0_1_a1_20_49b n xe xb xp g (F_X10_number_a0_1_a1_20_49 n xe xb xp g k) = gm_b n xe xb xp g (1 : Int) (20 : Int) (gm n xe xb xp g (1 : Int) (20 : Int) k)
    rw [F_X10_number_a0_1_a1_20_l n xe xb xp g k]
    rfl
theorem F_X10_number_a0_1_a1_20_g (xa n xe xb xp : Int) (g : Nat → Int) : F_X10_number_a0_1_a1_20 xa n xe xb xp g = gM xa n xe xb xp g (1 : Int) (20 : Int) := by
  unfold F_X10_number_a0_1_a1_20
  simp only [F_X10_number_a0_1_a1_20_l]
  rfl
theorem F_X10_number_a0_1_a1_60_l (n xe xb xp : Int) (g : Nat → Int) : ∀ k : Nat, F_X10_number_a0_1_a1_60_49 n xe xb xp g k = gm n xe xb xp g (1 : Int) (60 : Int) k
  | 0 => rfl
  | k + 1 => by
    show F_X10_number_a0_1_a1_60_49b n xe xb xp g (F_X10_number_a0_1_a1_60_49 n xe xb xp g k) = gm_b n xe xb xp g (1 : Int) (60 : Int) (gm n xe xb xp g (1 : Int) (60 : Int) k)
    rw [F_X10_number_a0_1_a1_60_l n xe xb xp g k]
    rfl
theorem F_X10_number_a0_1_a1_60_g (xa n xe xb xp : Int) (g : Nat → Int) : F_X10_number_a0_1_a1_60 xa n xe xb xp g = gM xa n xe xb xp g (1 : Int) (60 : Int) := by
  unfold F_X10_number_a0_1_a1_60
  simp only [F_X10_number_a0_1_a1_60_l]
  rfl
