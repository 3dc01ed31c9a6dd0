/-! the class's expressions. What is coded: size, code -/
abbrev CD : Type := Int × (Nat → Int)
abbrev XO : Type := Int × Int × Int × Int × Int × Int × (Nat → Int)
abbrev XF : Type := Int → Int → Int → (Nat → Int) → Int → Int → Int → XO
def em (c : CD) (op : Int) : CD := F_X5_emit c.2 c.1 op
def lf7 {α : Type} (o : XO) (k : Int → Int → Int → Int → Int → Int → (Nat → Int) → α) : α := lf_p o (fun a t => lf_p t (fun b t => lf_p t (fun d t => lf_p t (fun f t => lf_p t (fun q t => lf_p t (fun z w => k a b d f q z w))))))
theorem lf7_e {α : Type} (c : Int × Int × Int × Int × Int) (d : CD) (k : Int → Int → Int → Int → Int → Int → (Nat → Int) → α) : lf7 (ap5 c d) k = k c.1 c.2.1 c.2.2.1 c.2.2.2.1 c.2.2.2.2 d.1 d.2 := rfl
def sbC (s : ST) (c : CD) (k : Nat → CD → ST × CD) : ST × CD := match s with
  | .inl q => (.inl q, c)
  | .inr p => k p c
def runX (g : Nat → Int) (n : Nat) (X : XF) (s : ST) (c : CD) : XO := X (cst g n s).1 (cst g n s).2.1 (cst g n s).2.2.1 c.2 c.1 (cst g n s).2.2.2.1 (cst g n s).2.2.2.2
/-- a method's output tells a state and, where there is no fault, what is coded -/
def tellC (g : Nat → Int) (n : Nat) (o : XO) (r : ST × CD) : Prop := ∃ c : CD, o = ap5 (cst g n r.1) c ∧ ∀ q, r.1 = .inr q → c = r.2
def meets (g : Nat → Int) (n : Nat) (X : XF) (sp : Nat → CD → ST × CD) : Prop := ∀ s c, sv n s → tellC g n (runX g n X s c) (sbC s c sp)
def okR (n : Nat) (sp : Nat → CD → ST × CD) : Prop := ∀ p c, p ≤ n → sv n (sp p c).1 ∧ ∀ q, (sp p c).1 = .inr q → p < q
theorem tx_e_gt' {g : Nat → Int} {n p : Nat} (hk : ¬ tx_k g n p = 0) : p < tx_e g n p := by
  have h1 := tx_a_ge g n p
  have h2 : tx_a g n p < n := by
    rcases tx_k_so (g := g) (n := n) (p := p) with r | r
    · rcases Nat.lt_or_ge (tx_a g n p) n with q | q
      · exact q
      · unfold tx_k at r
        have := (tx_so_0 (f := g)).mpr q
        split at r
        · omega
        · omega
    · rcases Nat.lt_or_ge (tx_a g n p) n with q | q
      · exact q
      · have := (tx_so_0 (f := g)).mpr q
        omega
  have := tx_e_gt (f := g) h2
  omega
theorem sgn_lt {g : Nat → Int} {n p : Nat} {c : Int} (h : tsn g n c p) : p < tx_e g n p := tx_e_gt' (by have := h.1; omega)
theorem sgn_b {g : Nat → Int} {n p : Nat} {c : Int} (h : tsn g n c p) : p < n := by
  have h1 := tx_a_ge g n p
  have h2 := tx_k3.mp h.1
  have h3 : ¬ n ≤ tx_a g n p := fun r => by
    have := (tx_so_0 (f := g)).mpr r
    omega
  omega
/-! two signs on one level -/
def gl_48 (g : Nat → Int) (n : Int) (X : XF) (K : Int → Int → Int → Int → Int → Int → (Nat → Int) → Int → XO) (be fa pl sz : Int) (cd : Nat → Int) (k op : Int) : XO := lf_p (F_X5_moveTo g n be) (fun a t => (lf_p t (fun b d => (lf7 (X a b d cd sz fa pl) (fun a2 b2 d2 f2 q2 z2 w2 => (lf_p (F_X5_emit w2 z2 op) (fun z3 w3 => (K a2 b2 d2 f2 q2 z3 w3 (k + (1 : Int))))))))))
def gl_32 (g : Nat → Int) (n : Int) (X : XF) (c1 o1 o2 : Int) (K : Int → Int → Int → Int → Int → Int → (Nat → Int) → Int → XO) (xa be so fa pl sz : Int) (cd : Nat → Int) (k : Int) : XO := lf_b (F_X5_sees g xa so c1) (fun r => (if r = (0 : Int) then gl_48 g n X K be fa pl sz cd k o2 else gl_48 g n X K be fa pl sz cd k o1))
def gl_b (g : Nat → Int) (n : Int) (X : XF) (c1 c2 o1 o2 : Int) (K : Int → Int → Int → Int → Int → Int → (Nat → Int) → Int → XO) (xa be so fa pl sz : Int) (cd : Nat → Int) (k : Int) : XO := if (1600 : Int) ≤ k then (xa, be, so, fa, pl, sz, cd) else (lf_b (F_X5_sees g xa so c1) (fun r => (if r = (0 : Int) then (lf_b (F_X5_sees g xa so c2) (fun r2 => (if r2 = (0 : Int) then (xa, be, so, fa, pl, sz, cd) else gl_32 g n X c1 o1 o2 K xa be so fa pl sz cd k))) else gl_32 g n X c1 o1 o2 K xa be so fa pl sz cd k)))
def gl (g : Nat → Int) (n : Int) (X : XF) (c1 c2 o1 o2 : Int) : Nat → Int → Int → Int → Int → Int → Int → (Nat → Int) → Int → XO
  | 0 => fun _ _ _ _ _ _ _ _ => ((0 : Int), (0 : Int), (0 : Int), (0 : Int), (0 : Int), (0 : Int), (fun _ => (0 : Int)))
  | m + 1 => gl_b g n X c1 c2 o1 o2 (gl g n X c1 c2 o1 o2 m)
def gL (g : Nat → Int) (n : Int) (X : XF) (c1 c2 o1 o2 : Int) : XF := fun a b d cd sz fa pl => lf7 (X a b d cd sz fa pl) (fun a2 b2 d2 f2 q2 z2 w2 => gl g n X c1 c2 o1 o2 1602 a2 b2 d2 f2 q2 z2 w2 (0 : Int))
def lpS (g : Nat → Int) (n : Nat) (sp : Nat → CD → ST × CD) (c1 c2 o1 o2 : Int) : Nat → Nat → CD → ST × CD
  | 0, p, c => (.inr p, c)
  | m + 1, p, c => if tx_k g n p = 3 ∧ g (tx_a g n p) = c1 then sbC (sp (tx_e g n p) c).1 (sp (tx_e g n p) c).2 (fun p2 d => lpS g n sp c1 c2 o1 o2 m p2 (em d o1)) else if tx_k g n p = 3 ∧ g (tx_a g n p) = c2 then sbC (sp (tx_e g n p) c).1 (sp (tx_e g n p) c).2 (fun p2 d => lpS g n sp c1 c2 o1 o2 m p2 (em d o2)) else (.inr p, c)
def spL (g : Nat → Int) (n : Nat) (sp : Nat → CD → ST × CD) (c1 c2 o1 o2 : Int) (p : Nat) (c : CD) : ST × CD := sbC (sp p c).1 (sp p c).2 (lpS g n sp c1 c2 o1 o2 1602)
theorem gl_0 {g : Nat → Int} {n : Nat} {X : XF} {c1 c2 o1 o2 : Int} {m : Nat} {f q sz k : Int} {cd : Nat → Int} : gl g (n : Int) X c1 c2 o1 o2 (m + 1) (n : Int) (n : Int) (0 : Int) f q sz cd k = ((n : Int), (n : Int), (0 : Int), f, q, sz, cd) := by
  show gl_b g (n : Int) X c1 c2 o1 o2 _ (n : Int) (n : Int) (0 : Int) f q sz cd k = _
  unfold gl_b
  rw [lf_b_e, cl_seen, if_pos (rfl : (0 : Int) = 0), lf_b_e, cl_seen, if_pos (rfl : (0 : Int) = 0)]
  split
  · rfl
  · rfl
theorem lpS_ok {g : Nat → Int} {n : Nat} {sp : Nat → CD → ST × CD} {c1 c2 o1 o2 : Int} (h : okR n sp) : ∀ (m p : Nat) (c : CD), p ≤ n → sv n (lpS g n sp c1 c2 o1 o2 m p c).1 ∧ ∀ q, (lpS g n sp c1 c2 o1 o2 m p c).1 = .inr q → p ≤ q := by
  intro m
  induction m with
  | zero => intro p c hp; exact ⟨hp, fun q e => by cases e; exact Nat.le_refl _⟩
  | succ m ih =>
    intro p c hp
    have step : ∀ o, tx_k g n p = 3 → sv n (sbC (sp (tx_e g n p) c).1 (sp (tx_e g n p) c).2 (fun p2 d => lpS g n sp c1 c2 o1 o2 m p2 (em d o))).1 ∧ ∀ q, (sbC (sp (tx_e g n p) c).1 (sp (tx_e g n p) c).2 (fun p2 d => lpS g n sp c1 c2 o1 o2 m p2 (em d o))).1 = .inr q → p ≤ q := by
      intro o hk
      have h1 := h (tx_e g n p) c (tx_e_le hp)
      have h2 : p < tx_e g n p := tx_e_gt' (by omega)
      cases e : (sp (tx_e g n p) c).1 with
      | inl q0 =>
        rw [e] at h1
        exact ⟨h1.1, fun q r => by cases r⟩
      | inr p2 =>
        rw [e] at h1
        have h3 := h1.2 p2 rfl
        have h4 := ih p2 (em (sp (tx_e g n p) c).2 o) h1.1
        exact ⟨h4.1, fun q r => by have := h4.2 q r; omega⟩
    unfold lpS
    split
    · rename_i q; exact step o1 q.1
    · split
      · rename_i q; exact step o2 q.1
      · exact ⟨hp, fun q e => by cases e; exact Nat.le_refl _⟩
theorem spL_ok {g : Nat → Int} {n : Nat} {sp : Nat → CD → ST × CD} {c1 c2 o1 o2 : Int} (h : okR n sp) : okR n (spL g n sp c1 c2 o1 o2) := by
  intro p c hp
  have h1 := h p c hp
  unfold spL
  cases e : (sp p c).1 with
  | inl q0 =>
    rw [e] at h1
    exact ⟨h1.1, fun q r => by cases r⟩
  | inr p2 =>
    rw [e] at h1
    have h3 := h1.2 p2 rfl
    have h4 := lpS_ok (g := g) (c1 := c1) (c2 := c2) (o1 := o1) (o2 := o2) h 1602 p2 (sp p c).2 h1.1
    exact ⟨h4.1, fun q r => by have := h4.2 q r; omega⟩
theorem gl_s {g : Nat → Int} {n : Nat} {X : XF} {sp : Nat → CD → ST × CD} {c1 c2 o1 o2 : Int} (hn : n ≤ 1600) (hX : meets g n X sp) (hok : okR n sp) : ∀ (m p : Nat) (c : CD) (k f : Nat), p ≤ n → n - p < m → k ≤ p → 1600 < k + f → tellC g n (gl g (n : Int) X c1 c2 o1 o2 f (tx_a g n p : Int) (tx_e g n p : Int) (tx_k g n p : Int) (0 : Int) (-1 : Int) c.1 c.2 (k : Int)) (lpS g n sp c1 c2 o1 o2 m p c) := by
  intro m
  induction m with
  | zero => intro p c k f h1 h2; omega
  | succ m ih =>
    intro p c k f h1 h2 h3 h4
    obtain ⟨f, rfl⟩ : ∃ f', f = f' + 1 := ⟨f - 1, by omega⟩
    have go : ∀ o, tx_k g n p = 3 → k < 1600 → tellC g n (gl_48 g (n : Int) X (gl g (n : Int) X c1 c2 o1 o2 f) (tx_e g n p : Int) (0 : Int) (-1 : Int) c.1 c.2 (k : Int) o) (sbC (sp (tx_e g n p) c).1 (sp (tx_e g n p) c).2 (fun p2 d => lpS g n sp c1 c2 o1 o2 m p2 (em d o))) := by
      intro o hk hk6
      have h5 : p < tx_e g n p := tx_e_gt' (by omega)
      have h6 := hok (tx_e g n p) c (tx_e_le h1)
      unfold gl_48
      rw [cl_mve hn h1]
      obtain ⟨d, e1, e2⟩ := hX (.inr (tx_e g n p)) c (tx_e_le h1)
      have e3 : X (tx_a g n (tx_e g n p) : Int) (tx_e g n (tx_e g n p) : Int) (tx_k g n (tx_e g n p) : Int) c.2 c.1 (0 : Int) (-1 : Int) = ap5 (cst g n (sp (tx_e g n p) c).1) d := e1
      rw [lf_p_e, lf_p_e]
      rw [e3]
      have e4 : ∀ q, (sp (tx_e g n p) c).1 = .inr q → d = (sp (tx_e g n p) c).2 := e2
      cases e : (sp (tx_e g n p) c).1 with
      | inl q0 =>
        obtain ⟨f', rfl⟩ : ∃ f', f = f' + 1 := ⟨f - 1, by omega⟩
        refine ⟨em d o, ?_, fun q r => by cases r⟩
        show gl g (n : Int) X c1 c2 o1 o2 (f' + 1) (n : Int) (n : Int) (0 : Int) q0.1 q0.2 (em d o).1 (em d o).2 _ = _
        rw [gl_0]
        rfl
      | inr p2 =>
        rw [e] at h6
        have h7 := h6.2 p2 rfl
        have h8 : p2 ≤ n := h6.1
        have e5 := e4 p2 e
        rw [e5]
        have := ih p2 (em (sp (tx_e g n p) c).2 o) (k + 1) f h6.1 (by omega) (by omega) (by omega)
        rw [show ((k + 1 : Nat) : Int) = (k : Int) + 1 from by omega] at this
        exact this
    show tellC g n (gl_b g (n : Int) X c1 c2 o1 o2 (gl g (n : Int) X c1 c2 o1 o2 f) (tx_a g n p : Int) (tx_e g n p : Int) (tx_k g n p : Int) (0 : Int) (-1 : Int) c.1 c.2 (k : Int)) _
    unfold gl_b gl_32
    have stay : tellC g n ((tx_a g n p : Int), (tx_e g n p : Int), (tx_k g n p : Int), (0 : Int), (-1 : Int), c.1, c.2) (.inr p, c) := ⟨c, rfl, fun _ _ => rfl⟩
    unfold lpS
    by_cases q1 : tsn g n c1 p
    · have hb := sgn_b q1
      rw [if_pos (show tx_k g n p = 3 ∧ g (tx_a g n p) = c1 from q1), if_neg (by omega)]
      repeat rw [lf_b_e]
      rw [cl_see1 q1, if_neg (show ¬ (1 : Int) = 0 from by decide)]
      exact go o1 q1.1 (by omega)
    · rw [if_neg (show ¬ (tx_k g n p = 3 ∧ g (tx_a g n p) = c1) from q1)]
      repeat rw [lf_b_e]
      rw [cl_see0 q1, if_pos (rfl : (0 : Int) = 0), if_pos (rfl : (0 : Int) = 0)]
      by_cases q2 : tsn g n c2 p
      · have hb := sgn_b q2
        rw [if_pos (show tx_k g n p = 3 ∧ g (tx_a g n p) = c2 from q2), if_neg (by omega), cl_see1 q2, if_neg (show ¬ (1 : Int) = 0 from by decide)]
        exact go o2 q2.1 (by omega)
      · rw [if_neg (show ¬ (tx_k g n p = 3 ∧ g (tx_a g n p) = c2) from q2), cl_see0 q2, if_pos (rfl : (0 : Int) = 0)]
        split
        · exact stay
        · exact stay
theorem gL_m {g : Nat → Int} {n : Nat} {X : XF} {sp : Nat → CD → ST × CD} {c1 c2 o1 o2 : Int} (hn : n ≤ 1600) (hX : meets g n X sp) (hok : okR n sp) : meets g n (gL g (n : Int) X c1 c2 o1 o2) (spL g n sp c1 c2 o1 o2) := by
  intro s c hv
  obtain ⟨d, e1, e2⟩ := hX s c hv
  unfold runX gL
  unfold runX at e1
  rw [e1]
  cases s with
  | inl q =>
    refine ⟨d, ?_, fun q r => by cases r⟩
    show gl g (n : Int) X c1 c2 o1 o2 (1601 + 1) (n : Int) (n : Int) (0 : Int) q.1 q.2 d.1 d.2 (0 : Int) = _
    rw [gl_0]
    rfl
  | inr p =>
    have h1 := hok p c hv
    have e4 : ∀ q, (sp p c).1 = .inr q → d = (sp p c).2 := e2
    show tellC g n (lf7 (ap5 (cst g n (sp p c).1) d) _) (spL g n sp c1 c2 o1 o2 p c)
    unfold spL
    cases e : (sp p c).1 with
    | inl q0 =>
      refine ⟨d, ?_, fun q r => by cases r⟩
      show gl g (n : Int) X c1 c2 o1 o2 (1601 + 1) (n : Int) (n : Int) (0 : Int) q0.1 q0.2 d.1 d.2 (0 : Int) = _
      rw [gl_0]
      rfl
    | inr p2 =>
      rw [e] at h1
      rw [e4 p2 e]
      exact gl_s hn hX hok 1602 p2 (sp p c).2 0 1602 h1.1 (by have := h1.1; omega) (by omega) (by omega)
