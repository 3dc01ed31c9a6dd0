section EQ5
variable {g : Nat → Int} {n : Nat} {al : Int}
theorem mR_ok : ∀ (f : Nat) (m : Bool) (T : List Int) (o : Int) (p q : Nat), p ≤ n → mR g n al f m T o p = .inr q → q ≤ n ∧ p ≤ q ∧ (m = true → p < q) := by
  intro f
  induction f with
  | zero => intro m T o p q hp h; cases h
  | succ f ih =>
    intro m T o p q hp
    have hle := tx_e_le (f := g) hp
    have hle2 := tx_e_le (f := g) hle
    have go : ∀ (m2 : Bool) (T2 : List Int) (o2 : Int) (p2 : Nat), p2 ≤ n → p < p2 → mR g n al f m2 T2 o2 p2 = .inr q → q ≤ n ∧ p ≤ q ∧ (m = true → p < q) := by
      intro m2 T2 o2 p2 h1 h2 h3
      have := ih m2 T2 o2 p2 q h1 h3
      exact ⟨this.1, by omega, fun _ => by omega⟩
    have ite6 : ∀ (x : Int × Int) (T2 : List Int) (p2 : Nat), p2 ≤ n → p < p2 → (if o = 6 then (.inl x : ST) else mR g n al f true T2 (o + 1) p2) = .inr q → q ≤ n ∧ p ≤ q ∧ (m = true → p < q) := by
      intro x T2 p2 h1 h2 h3
      by_cases h6 : o = 6
      · rw [if_pos h6] at h3; cases h3
      · rw [if_neg h6] at h3
        exact go true T2 (o + 1) p2 h1 h2 h3
    cases m with
    | true =>
      unfold mR
      split
      · rename_i c
        exact ite6 _ _ _ hle (tx_e_gt' (by omega))
      · split
        · rename_i c
          have hlt : p < tx_e g n p := tx_e_gt' (by have := wl_k c; omega)
          split
          · rename_i c5
            have hlt2 : tx_e g n p < tx_e g n (tx_e g n p) := tx_e_gt' (by omega)
            exact ite6 _ _ _ hle2 (by omega)
          · intro h; cases h
        · split
          · rename_i c
            have hlt : p < tx_e g n p := tx_e_gt' (by have := wl_k c; omega)
            split
            · rename_i c5
              have hlt2 : tx_e g n p < tx_e g n (tx_e g n p) := tx_e_gt' (by omega)
              exact ite6 _ _ _ hle2 (by omega)
            · intro h; cases h
          · split
            · rename_i c
              exact ite6 _ _ _ hle (tx_e_gt' (by have := wl_k c.2; omega))
            · intro h
              obtain ⟨p2, e, h2⟩ := sb_in h
              exact go false _ _ p2 (sv_le (atS_v (al := al) hp) e) (atS_gt hp e) h2
    | false =>
      unfold mR
      split
      · rename_i c
        exact go false _ _ _ hle (tx_e_gt' (by omega))
      · split
        · rename_i c
          exact go true _ _ _ hle (tx_e_gt' (by omega))
        · split
          · split
            · rename_i c
              exact go true _ _ _ hle (tx_e_gt' (by omega))
            · intro h; cases h
          · split
            · intro h
              cases h
              exact ⟨hp, Nat.le_refl _, fun r => Bool.noConfusion r⟩
            · intro h; cases h
theorem RR_ok {T : List Int} {o : Int} {p q : Nat} (hp : p ≤ n) (h : RR g n al true T o p = .inr q) : q ≤ n ∧ p < q := by
  have := mR_ok (n - p + 1) true T o p q hp h
  exact ⟨this.1, this.2.2 rfl⟩
theorem fcS_p {o : Int} {p q : Nat} (hp : p ≤ n) (h : fcS g n al o p = .inr q) : q ≤ n ∧ p < q := by
  unfold fcS at h
  split at h
  · rename_i k
    cases h
    exact ⟨tx_e_le hp, tx_e_gt' (by have := wl_k k; omega)⟩
  · obtain ⟨p1, e1, h1⟩ := sb_in h
    obtain ⟨p2, e2, h2⟩ := sb_in h1
    have l1 := RR_ok hp e1
    have l2 := sp_sg_gt e2
    have l2n : p2 ≤ n := sv_le (sp_sg_v (g := g) l1.1) e2
    have l3 := RR_ok l2n h2
    exact ⟨l3.1, by omega⟩
theorem mT_f : ∀ (f f2 : Nat) (m : Bool) (T : List Int) (o : Int) (p : Nat), p ≤ n → n - p < f → n - p < f2 → mT g n al f m T o p = mT g n al f2 m T o p := by
  intro f
  induction f with
  | zero => intro f2 m T o p h1 h2; omega
  | succ f ih =>
    intro f2 m T o p hp h2 h3
    obtain ⟨f2, rfl⟩ : ∃ k, f2 = k + 1 := ⟨f2 - 1, by omega⟩
    have hle := tx_e_le (f := g) hp
    cases m with
    | true =>
      unfold mT
      by_cases c1 : tx_k g n p = 3 ∧ g (tx_a g n p) = 91
      · have hlt : p < tx_e g n p := tx_e_gt' (by omega)
        rw [if_pos c1, if_pos c1, ih f2 true (25 :: T) (o + 1) (tx_e g n p) hle (by omega) (by omega)]
      · rw [if_neg c1, if_neg c1]
        by_cases c2 : wl g n ws_15 p = -1
        · rw [if_neg (show ¬ ¬ wl g n ws_15 p = -1 from fun r => r c2), if_neg (show ¬ ¬ wl g n ws_15 p = -1 from fun r => r c2)]
          refine sb_cg (fun q e => ?_)
          have h5 := fcS_p hp e
          exact ih f2 false _ _ q h5.1 (by omega) (by omega)
        · have hlt : p < tx_e g n p := tx_e_gt' (by have := wl_k c2; omega)
          rw [if_pos c2, if_pos c2, ih f2 true (12 :: T) (o + 1) (tx_e g n p) hle (by omega) (by omega)]
    | false =>
      unfold mT
      by_cases c1 : (tx_k g n p = 3 ∧ g (tx_a g n p) = 93) ∧ tMem T = true
      · have hlt : p < tx_e g n p := tx_e_gt' (by omega)
        rw [if_pos c1, if_pos c1]
        exact ih f2 false _ _ (tx_e g n p) hle (by omega) (by omega)
      · rw [if_neg c1, if_neg c1]
        by_cases c2 : ¬ wl g n ws_14 p = -1 ∨ ¬ wl g n ws_13 p = -1
        · have hlt : p < tx_e g n p := tx_e_gt' (by have : tx_k g n p = 1 := c2.elim wl_k wl_k; omega)
          rw [if_pos c2, if_pos c2]
          exact ih f2 true T o (tx_e g n p) hle (by omega) (by omega)
        · rw [if_neg c2, if_neg c2]
end EQ5
def TT (g : Nat → Int) (n : Nat) (al : Int) (m : Bool) (T : List Int) (o : Int) (p : Nat) : ST := mT g n al (n - p + 1) m T o p
