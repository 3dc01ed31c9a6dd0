/-! a word on one level -/
def twm (g : Nat → Int) (n : Nat) (TW : Int → Int → Int → Int × Int × Int × Int) (ws : List (List Int)) : Prop := (∀ p, p ≤ n → TW (tx_a g n p : Int) (tx_e g n p : Int) (tx_k g n p : Int) = if wl g n ws p = -1 then ((0 : Int), (tx_a g n p : Int), (tx_e g n p : Int), (tx_k g n p : Int)) else ((1 : Int), (tx_a g n (tx_e g n p) : Int), (tx_e g n (tx_e g n p) : Int), (tx_k g n (tx_e g n p) : Int))) ∧ TW (n : Int) (n : Int) (0 : Int) = ((0 : Int), (n : Int), (n : Int), (0 : Int))
theorem wl_k {g : Nat → Int} {n p : Nat} {ws : List (List Int)} (h : ¬ wl g n ws p = -1) : tx_k g n p = 1 := by
  unfold wl at h
  split at h
  · assumption
  · exact absurd rfl h
theorem wl_b {g : Nat → Int} {n p : Nat} (h : tx_k g n p = 1) : p < n := by
  have h1 := tx_a_ge g n p
  have h2 := (tx_e_in h (Or.inl rfl)).2 (tx_a g n p) (Nat.le_refl _) (tx_e_in h (Or.inl rfl)).1
  have h3 := (tx_so_1 h2).1
  omega
def gv_b (X : XF) (TW : Int → Int → Int → Int × Int × Int × Int) (op : Int) (K : Int → Int → Int → Int → Int → Int → (Nat → Int) → Int → XO) (xa be so fa pl sz : Int) (cd : Nat → Int) (k : Int) : XO := if (1600 : Int) ≤ k then (xa, be, so, fa, pl, sz, cd) else (lf_p (TW xa be so) (fun r t => (lf_p t (fun a t => (lf_p t (fun b d => (if r = (0 : Int) then (a, b, d, fa, pl, sz, cd) else (lf7 (X a b d cd sz fa pl) (fun a2 b2 d2 f2 q2 z2 w2 => (lf_p (F_X5_emit w2 z2 op) (fun z3 w3 => (K a2 b2 d2 f2 q2 z3 w3 (k + (1 : Int))))))))))))))
def gv (X : XF) (TW : Int → Int → Int → Int × Int × Int × Int) (op : Int) : Nat → Int → Int → Int → Int → Int → Int → (Nat → Int) → Int → XO
  | 0 => fun _ _ _ _ _ _ _ _ => ((0 : Int), (0 : Int), (0 : Int), (0 : Int), (0 : Int), (0 : Int), (fun _ => (0 : Int)))
  | m + 1 => gv_b X TW op (gv X TW op m)
def gV (X : XF) (TW : Int → Int → Int → Int × Int × Int × Int) (op : Int) : XF := fun a b d cd sz fa pl => lf7 (X a b d cd sz fa pl) (fun a2 b2 d2 f2 q2 z2 w2 => gv X TW op 1602 a2 b2 d2 f2 q2 z2 w2 (0 : Int))
def lpV (g : Nat → Int) (n : Nat) (sp : Nat → CD → ST × CD) (ws : List (List Int)) (op : Int) : Nat → Nat → CD → ST × CD
  | 0, p, c => (.inr p, c)
  | m + 1, p, c => if wl g n ws p = -1 then (.inr p, c) else sbC (sp (tx_e g n p) c).1 (sp (tx_e g n p) c).2 (fun p2 d => lpV g n sp ws op m p2 (em d op))
def spV (g : Nat → Int) (n : Nat) (sp : Nat → CD → ST × CD) (ws : List (List Int)) (op : Int) (p : Nat) (c : CD) : ST × CD := sbC (sp p c).1 (sp p c).2 (lpV g n sp ws op 1602)
theorem gv_0 {g : Nat → Int} {n : Nat} {X : XF} {TW : Int → Int → Int → Int × Int × Int × Int} {ws : List (List Int)} {op : Int} {m : Nat} {f q sz k : Int} {cd : Nat → Int} (hT : twm g n TW ws) : gv X TW op (m + 1) (n : Int) (n : Int) (0 : Int) f q sz cd k = ((n : Int), (n : Int), (0 : Int), f, q, sz, cd) := by
  show gv_b X TW op _ (n : Int) (n : Int) (0 : Int) f q sz cd k = _
  unfold gv_b
  rw [hT.2]
  split
  · rfl
  · rfl
theorem lpV_ok {g : Nat → Int} {n : Nat} {sp : Nat → CD → ST × CD} {ws : List (List Int)} {op : Int} (h : okR n sp) : ∀ (m p : Nat) (c : CD), p ≤ n → sv n (lpV g n sp ws op m p c).1 ∧ ∀ q, (lpV g n sp ws op m p c).1 = .inr q → p ≤ q := by
  intro m
  induction m with
  | zero => intro p c hp; exact ⟨hp, fun q e => by cases e; exact Nat.le_refl _⟩
  | succ m ih =>
    intro p c hp
    unfold lpV
    split
    · exact ⟨hp, fun q e => by cases e; exact Nat.le_refl _⟩
    · rename_i hk
      have h1 := h (tx_e g n p) c (tx_e_le hp)
      have h2 : p < tx_e g n p := tx_e_gt' (by have := wl_k hk; omega)
      cases e : (sp (tx_e g n p) c).1 with
      | inl q0 =>
        rw [e] at h1
        exact ⟨h1.1, fun q r => by cases r⟩
      | inr p2 =>
        rw [e] at h1
        have h3 := h1.2 p2 rfl
        have h4 := ih p2 (em (sp (tx_e g n p) c).2 op) h1.1
        exact ⟨h4.1, fun q r => by have := h4.2 q r; omega⟩
theorem spV_ok {g : Nat → Int} {n : Nat} {sp : Nat → CD → ST × CD} {ws : List (List Int)} {op : Int} (h : okR n sp) : okR n (spV g n sp ws op) := by
  intro p c hp
  have h1 := h p c hp
  unfold spV
  cases e : (sp p c).1 with
  | inl q0 =>
    rw [e] at h1
    exact ⟨h1.1, fun q r => by cases r⟩
  | inr p2 =>
    rw [e] at h1
    have h3 := h1.2 p2 rfl
    have h4 := lpV_ok (g := g) (ws := ws) (op := op) h 1602 p2 (sp p c).2 h1.1
    exact ⟨h4.1, fun q r => by have := h4.2 q r; omega⟩
theorem gv_s {g : Nat → Int} {n : Nat} {X : XF} {TW : Int → Int → Int → Int × Int × Int × Int} {sp : Nat → CD → ST × CD} {ws : List (List Int)} {op : Int} (hn : n ≤ 1600) (hT : twm g n TW ws) (hX : meets g n X sp) (hok : okR n sp) : ∀ (m p : Nat) (c : CD) (k f : Nat), p ≤ n → n - p < m → k ≤ p → 1600 < k + f → tellC g n (gv X TW op f (tx_a g n p : Int) (tx_e g n p : Int) (tx_k g n p : Int) (0 : Int) (-1 : Int) c.1 c.2 (k : Int)) (lpV g n sp ws op m p c) := by
  intro m
  induction m with
  | zero => intro p c k f h1 h2; omega
  | succ m ih =>
    intro p c k f h1 h2 h3 h4
    obtain ⟨f, rfl⟩ : ∃ f', f = f' + 1 := ⟨f - 1, by omega⟩
    show tellC g n (gv_b X TW op (gv X TW op f) (tx_a g n p : Int) (tx_e g n p : Int) (tx_k g n p : Int) (0 : Int) (-1 : Int) c.1 c.2 (k : Int)) _
    unfold gv_b
    have stay : tellC g n ((tx_a g n p : Int), (tx_e g n p : Int), (tx_k g n p : Int), (0 : Int), (-1 : Int), c.1, c.2) (.inr p, c) := ⟨c, rfl, fun _ _ => rfl⟩
    unfold lpV
    rw [hT.1 p h1]
    by_cases q1 : wl g n ws p = -1
    · rw [if_pos q1, if_pos q1]
      split
      · exact stay
      · exact stay
    · have hk := wl_k q1
      have hb := wl_b hk
      have h5 : p < tx_e g n p := tx_e_gt' (by omega)
      have h6 := hok (tx_e g n p) c (tx_e_le h1)
      rw [if_neg q1, if_neg q1, if_neg (by omega)]
      obtain ⟨d, e1, e2⟩ := hX (.inr (tx_e g n p)) c (tx_e_le h1)
      have e3 : X (tx_a g n (tx_e g n p) : Int) (tx_e g n (tx_e g n p) : Int) (tx_k g n (tx_e g n p) : Int) c.2 c.1 (0 : Int) (-1 : Int) = ap5 (cst g n (sp (tx_e g n p) c).1) d := e1
      rw [lf_p_e, lf_p_e, lf_p_e, if_neg (show ¬ (1 : Int) = 0 from by decide)]
      rw [e3]
      have e4 : ∀ q, (sp (tx_e g n p) c).1 = .inr q → d = (sp (tx_e g n p) c).2 := e2
      cases e : (sp (tx_e g n p) c).1 with
      | inl q0 =>
        obtain ⟨f', rfl⟩ : ∃ f', f = f' + 1 := ⟨f - 1, by omega⟩
        refine ⟨em d op, ?_, fun q r => by cases r⟩
        show gv X TW op (f' + 1) (n : Int) (n : Int) (0 : Int) q0.1 q0.2 (em d op).1 (em d op).2 _ = _
        rw [gv_0 hT]
        rfl
      | inr p2 =>
        rw [e] at h6
        have h7 := h6.2 p2 rfl
        have h8 : p2 ≤ n := h6.1
        have e5 := e4 p2 e
        rw [e5]
        have := ih p2 (em (sp (tx_e g n p) c).2 op) (k + 1) f h6.1 (by omega) (by omega) (by omega)
        rw [show ((k + 1 : Nat) : Int) = (k : Int) + 1 from by omega] at this
        exact this
theorem gV_m {g : Nat → Int} {n : Nat} {X : XF} {TW : Int → Int → Int → Int × Int × Int × Int} {sp : Nat → CD → ST × CD} {ws : List (List Int)} {op : Int} (hn : n ≤ 1600) (hT : twm g n TW ws) (hX : meets g n X sp) (hok : okR n sp) : meets g n (gV X TW op) (spV g n sp ws op) := by
  intro s c hv
  obtain ⟨d, e1, e2⟩ := hX s c hv
  unfold runX gV
  unfold runX at e1
  rw [e1]
  cases s with
  | inl q =>
    refine ⟨d, ?_, fun q r => by cases r⟩
    show gv X TW op (1601 + 1) (n : Int) (n : Int) (0 : Int) q.1 q.2 d.1 d.2 (0 : Int) = _
    rw [gv_0 hT]
    rfl
  | inr p =>
    have h1 := hok p c hv
    have e4 : ∀ q, (sp p c).1 = .inr q → d = (sp p c).2 := e2
    show tellC g n (lf7 (ap5 (cst g n (sp p c).1) d) _) (spV g n sp ws op p c)
    unfold spV
    cases e : (sp p c).1 with
    | inl q0 =>
      refine ⟨d, ?_, fun q r => by cases r⟩
      show gv X TW op (1601 + 1) (n : Int) (n : Int) (0 : Int) q0.1 q0.2 d.1 d.2 (0 : Int) = _
      rw [gv_0 hT]
      rfl
    | inr p2 =>
      rw [e] at h1
      rw [e4 p2 e]
      exact gv_s hn hT hX hok 1602 p2 (sp p c).2 0 1602 h1.1 (by have := h1.1; omega) (by omega) (by omega)
