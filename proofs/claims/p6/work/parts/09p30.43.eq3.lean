section EQ3
variable {g : Nat → Int} {n : Nat} {al : Int}
/-- a claim for lists whose first doesn't wait for a part -/
def clN (g : Nat → Int) (n : Nat) (al : Int) (o : Int) (sp : Nat → CD → ST × CD) : Prop := ∀ (T : List Int) (p : Nat) (c : CD), p ≤ n → (∀ k, eoD T k = (T, k)) → RR g n al true T o p = sb (sp p c).1 (fun p2 => RR g n al false T o p2)
theorem clP_N {o : Int} {sp : Nat → CD → ST × CD} (h : clP g n al o sp) : clN g n al o sp := by
  intro T p c hp hT
  rw [h T p c hp, hT o]
theorem sbC_1 {s : ST} {c : CD} {k : Nat → CD → ST × CD} {K : Nat → ST} : sb (sbC s c k).1 K = sb s (fun p => sb (k p c).1 K) := by
  cases s with
  | inl x => rfl
  | inr p => rfl
theorem lp_eq {o : Int} {sp : Nat → CD → ST × CD} {c1 c2 o1 o2 : Int} (h : clN g n al o sp) (hok : okR n sp) (hc : ∀ p, (tx_k g n p = 3 ∧ g (tx_a g n p) = c1) ∨ (tx_k g n p = 3 ∧ g (tx_a g n p) = c2) → opS g n p) : ∀ (m : Nat) (T : List Int) (p : Nat) (c : CD), p ≤ n → (∀ k, eoD T k = (T, k)) → RR g n al false T o p = sb (lpS g n sp c1 c2 o1 o2 m p c).1 (fun p2 => RR g n al false T o p2) := by
  intro m
  induction m with
  | zero => intro T p c hp hT; rfl
  | succ m ih =>
    intro T p c hp hT
    have hle := tx_e_le (f := g) hp
    have step : ∀ op, opS g n p → RR g n al false T o p = sb (sbC (sp (tx_e g n p) c).1 (sp (tx_e g n p) c).2 (fun p2 d => lpS g n sp c1 c2 o1 o2 m p2 (em d op))).1 (fun p2 => RR g n al false T o p2) := by
      intro op hop
      rw [RR_op hp hop, h T (tx_e g n p) c hle hT, sbC_1]
      refine sb_cg (fun q e => ?_)
      exact ih T q _ (sv_le (hok (tx_e g n p) c hle).1 e) hT
    unfold lpS
    by_cases q1 : tx_k g n p = 3 ∧ g (tx_a g n p) = c1
    · rw [if_pos q1]
      exact step o1 (hc p (Or.inl q1))
    · rw [if_neg q1]
      by_cases q2 : tx_k g n p = 3 ∧ g (tx_a g n p) = c2
      · rw [if_pos q2]
        exact step o2 (hc p (Or.inr q2))
      · rw [if_neg q2]
        rfl
theorem spL_eq {o : Int} {sp : Nat → CD → ST × CD} {c1 c2 o1 o2 : Int} (h : clN g n al o sp) (hok : okR n sp) (hc : ∀ p, (tx_k g n p = 3 ∧ g (tx_a g n p) = c1) ∨ (tx_k g n p = 3 ∧ g (tx_a g n p) = c2) → opS g n p) : clN g n al o (spL g n sp c1 c2 o1 o2) := by
  intro T p c hp hT
  unfold spL
  rw [h T p c hp hT, sbC_1]
  refine sb_cg (fun q e => ?_)
  exact lp_eq h hok hc 1602 T q _ (sv_le (hok p c hp).1 e) hT
/-- where a run of signs ends there is none of them, and what held behind each of its members holds -/
theorem lp_end {sp : Nat → CD → ST × CD} {c1 c2 o1 o2 : Int} {Q : Nat → Prop} (hok : okR n sp) (hQ : ∀ p c q, p ≤ n → (sp p c).1 = .inr q → Q q) : ∀ (m p : Nat) (c : CD) (q : Nat), p ≤ n → n - p < m → Q p → (lpS g n sp c1 c2 o1 o2 m p c).1 = .inr q → q ≤ n ∧ Q q ∧ ¬ (tx_k g n q = 3 ∧ g (tx_a g n q) = c1) ∧ ¬ (tx_k g n q = 3 ∧ g (tx_a g n q) = c2) := by
  intro m
  induction m with
  | zero => intro p c q hp h1; omega
  | succ m ih =>
    intro p c q hp h1 hq
    have hle := tx_e_le (f := g) hp
    have step : ∀ op, tx_k g n p = 3 → (sbC (sp (tx_e g n p) c).1 (sp (tx_e g n p) c).2 (fun p2 d => lpS g n sp c1 c2 o1 o2 m p2 (em d op))).1 = .inr q → q ≤ n ∧ Q q ∧ ¬ (tx_k g n q = 3 ∧ g (tx_a g n q) = c1) ∧ ¬ (tx_k g n q = 3 ∧ g (tx_a g n q) = c2) := by
      intro op hk r
      have hlt : p < tx_e g n p := tx_e_gt' (by omega)
      have h5 := hok (tx_e g n p) c hle
      cases e : (sp (tx_e g n p) c).1 with
      | inl x => rw [e] at r; cases r
      | inr p2 =>
        rw [e] at r h5
        have l := h5.2 p2 rfl
        exact ih p2 (em (sp (tx_e g n p) c).2 op) q h5.1 (by omega) (hQ (tx_e g n p) c p2 hle e) r
    unfold lpS
    by_cases q1 : tx_k g n p = 3 ∧ g (tx_a g n p) = c1
    · rw [if_pos q1]
      exact step o1 q1.1
    · rw [if_neg q1]
      by_cases q2 : tx_k g n p = 3 ∧ g (tx_a g n p) = c2
      · rw [if_pos q2]
        exact step o2 q2.1
      · rw [if_neg q2]
        intro r
        cases r
        exact ⟨hp, hq, q1, q2⟩
theorem spL_end {sp : Nat → CD → ST × CD} {c1 c2 o1 o2 : Int} {Q : Nat → Prop} (hn : n ≤ 1600) (hok : okR n sp) (hQ : ∀ p c q, p ≤ n → (sp p c).1 = .inr q → Q q) (p : Nat) (c : CD) (q : Nat) (hp : p ≤ n) (h : (spL g n sp c1 c2 o1 o2 p c).1 = .inr q) : q ≤ n ∧ Q q ∧ ¬ (tx_k g n q = 3 ∧ g (tx_a g n q) = c1) ∧ ¬ (tx_k g n q = 3 ∧ g (tx_a g n q) = c2) := by
  unfold spL at h
  have h5 := hok p c hp
  cases e : (sp p c).1 with
  | inl x => rw [e] at h; cases h
  | inr p2 =>
    rw [e] at h h5
    exact lp_end hok hQ 1602 p2 (sp p c).2 q h5.1 (by have := h5.1; omega) (hQ p c p2 hp e) h
theorem sum_cl {o : Int} {sp : Nat → CD → ST × CD} (hn : n ≤ 1600) (h : clP g n al o sp) (hok : okR n sp) : clS g n al o (sSuO g n sp) := by
  have hpr : clN g n al o (sPrO g n sp) := spL_eq (clP_N h) hok (fun p r => r.elim (fun r => ⟨r.1, Or.inl r.2⟩) (fun r => ⟨r.1, Or.inr (Or.inl r.2)⟩))
  refine ⟨spL_eq hpr (sPrO_ok hok) (fun p r => r.elim (fun r => ⟨r.1, Or.inr (Or.inr (Or.inl r.2))⟩) (fun r => ⟨r.1, Or.inr (Or.inr (Or.inr r.2))⟩)), fun p c q hp e => ?_⟩
  have h9 := spL_end (Q := fun q => ¬ (tx_k g n q = 3 ∧ g (tx_a g n q) = 42) ∧ ¬ (tx_k g n q = 3 ∧ g (tx_a g n q) = 47)) hn (sPrO_ok hok) (fun p c q hp e => by
    have := spL_end (Q := fun _ => True) hn hok (fun _ _ _ _ _ => True.intro) p c q hp e
    exact this.2.2) p c q hp e
  refine ⟨h9.1, fun r => ?_⟩
  rcases r.2 with x | x | x | x
  · exact h9.2.1.1 ⟨r.1, x⟩
  · exact h9.2.1.2 ⟨r.1, x⟩
  · exact h9.2.2.1 ⟨r.1, x⟩
  · exact h9.2.2.2 ⟨r.1, x⟩
theorem P_all (hn : n ≤ 1600) : ∀ d : Nat, d ≤ 6 → clP g n al (6 - (d : Int)) (sPart g n al d)
  | 0, _ => part_eq (fun _ => rfl) (fun r => Bool.noConfusion r) (fun r => Bool.noConfusion r)
  | d + 1, hd => by
    have h1 := P_all hn d (by omega)
    have e : (6 - ((d + 1 : Nat) : Int)) + 1 = 6 - (d : Int) := by omega
    refine part_eq (fun r => Bool.noConfusion r) (fun _ => ⟨by omega, ?_⟩) (fun _ => ?_)
    · rw [e]
      exact sum_cl hn h1 (sPart_ok d)
    · rw [e]
      exact h1
theorem S_all (hn : n ≤ 1600) (d : Nat) (hd : d ≤ 6) : clS g n al (6 - (d : Int)) (sSum g n al d) := sum_cl hn (P_all hn d hd) (sPart_ok d)
/-- a sum read by the machine is a sum read level by level -/
theorem sum_eq (hn : n ≤ 1600) (d : Nat) (hd : d ≤ 6) (p : Nat) (c : CD) (hp : p ≤ n) : RR g n al true [] (6 - (d : Int)) p = (sSum g n al d p c).1 := by
  have h := S_all (g := g) (al := al) hn d hd
  rw [h.1 [] p c hp (fun k => rfl)]
  cases e : (sSum g n al d p c).1 with
  | inl x => rfl
  | inr q =>
    have h2 := h.2 p c q hp e
    exact RR_nd h2.2 rfl
end EQ3
