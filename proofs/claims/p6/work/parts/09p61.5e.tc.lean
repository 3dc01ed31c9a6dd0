/-! the model's machine for tests, with what waits and its codes -/
def dA (hi : Int) : List Int → List Int → List Int × List Int
  | [], K => ([], K)
  | x :: P, K => if 10 ≤ x ∧ x ≤ hi then dA hi P (K ++ [x]) else (x :: P, K)
def dN : List Int → List Int → Int → List Int × List Int × Int
  | [], K, o => ([], K, o)
  | x :: P, K, o => if x = 12 then dN P (K ++ [x]) (o - 1) else (x :: P, K, o)
/-- all down to the square falls, and the square -/
def dS : List Int → List Int → List Int × List Int
  | [], K => ([], K)
  | x :: P, K => if x = 25 then (P, K) else dS P (K ++ [x])
def fcC (g : Nat → Int) (n : Nat) (al : Int) (K : List Int) (o : Int) (p : Nat) : SL := if ¬ wl g n ws_16 p = -1 then .inr (tx_e g n p, K ++ [13]) else bL (RC g n al true [] K o p) (fun p1 K1 => ndL (sp_sg g n p1).2 (fun p2 => bL (RC g n al true [] K1 o p2) (fun q K2 => .inr (q, K2 ++ [-19 - (sp_sg g n p1).1]))))
def anW (g : Nat → Int) (n p : Nat) : Prop := ¬ wl g n ws_14 p = -1
def mTc (g : Nat → Int) (n : Nat) (al : Int) : Nat → Bool → List Int → List Int → Int → Nat → SL
  | 0, _, _, _, _, _ => .inl (0, 0)
  | f + 1, true, P, K, o, p => if tx_k g n p = 3 ∧ g (tx_a g n p) = 91 then (if o = 6 then .inl (4, (tx_a g n p : Int)) else mTc g n al f true (25 :: P) K (o + 1) (tx_e g n p)) else if ¬ wl g n ws_15 p = -1 then (if o = 6 then .inl (4, (tx_a g n p : Int)) else mTc g n al f true (12 :: P) K (o + 1) (tx_e g n p)) else bL (fcC g n al K o p) (fun q K2 => mTc g n al f false (dN P K2 o).1 (dN P K2 o).2.1 (dN P K2 o).2.2 q)
  | f + 1, false, P, K, o, p => if (tx_k g n p = 3 ∧ g (tx_a g n p) = 93) ∧ tMem P = true then mTc g n al f false (dN (dS P K).1 (dS P K).2 (o - 1)).1 (dN (dS P K).1 (dS P K).2 (o - 1)).2.1 (dN (dS P K).1 (dS P K).2 (o - 1)).2.2 (tx_e g n p) else if ¬ wl g n ws_14 p = -1 then mTc g n al f true (10 :: (dA 10 P K).1) (dA 10 P K).2 o (tx_e g n p) else if ¬ wl g n ws_13 p = -1 then mTc g n al f true (11 :: (dA 11 P K).1) (dA 11 P K).2 o (tx_e g n p) else if tMem P = true then .inl (1, (tx_a g n p : Int)) else .inr (p, K ++ P)
section TC
variable {g : Nat → Int} {n : Nat} {al : Int}
theorem mRc_ok : ∀ (f : Nat) (m : Bool) (P K : List Int) (o : Int) (p q : Nat) (M : List Int), p ≤ n → mRc g n al f m P K o p = .inr (q, M) → q ≤ n ∧ p ≤ q ∧ (m = true → p < q) := by
  intro f
  induction f with
  | zero => intro m P K o p q M hp h; cases h
  | succ f ih =>
    intro m P K o p q M hp
    have hle := tx_e_le (f := g) hp
    have hle2 := tx_e_le (f := g) hle
    have go : ∀ (m2 : Bool) (P2 K2 : List Int) (o2 : Int) (p2 : Nat), p2 ≤ n → p < p2 → mRc g n al f m2 P2 K2 o2 p2 = .inr (q, M) → q ≤ n ∧ p ≤ q ∧ (m = true → p < q) := by
      intro m2 P2 K2 o2 p2 h1 h2 h3
      have := ih m2 P2 K2 o2 p2 q M h1 h3
      exact ⟨this.1, by omega, fun _ => by omega⟩
    have ite6 : ∀ (x : Int × Int) (P2 K2 : List Int) (p2 : Nat), p2 ≤ n → p < p2 → (if o = 6 then (.inl x : SL) else mRc g n al f true P2 K2 (o + 1) p2) = .inr (q, M) → q ≤ n ∧ p ≤ q ∧ (m = true → p < q) := by
      intro x P2 K2 p2 h1 h2 h3
      by_cases h6 : o = 6
      · rw [if_pos h6] at h3; cases h3
      · rw [if_neg h6] at h3
        exact go true P2 K2 (o + 1) p2 h1 h2 h3
    cases m with
    | true =>
      unfold mRc
      split
      · rename_i c
        exact ite6 _ _ _ _ hle (tx_e_gt' (by omega))
      · split
        · rename_i c
          have hlt : p < tx_e g n p := tx_e_gt' (by have := wl_k c; omega)
          split
          · rename_i c5
            have hlt2 : tx_e g n p < tx_e g n (tx_e g n p) := tx_e_gt' (by omega)
            exact ite6 _ _ _ _ hle2 (by omega)
          · intro h; cases h
        · split
          · rename_i c
            have hlt : p < tx_e g n p := tx_e_gt' (by have := wl_k c; omega)
            split
            · rename_i c5
              have hlt2 : tx_e g n p < tx_e g n (tx_e g n p) := tx_e_gt' (by omega)
              exact ite6 _ _ _ _ hle2 (by omega)
            · intro h; cases h
          · split
            · rename_i c
              exact ite6 _ _ _ _ hle (tx_e_gt' (by have := wl_k c.2; omega))
            · intro h
              cases e : atM g n al p with
              | inl z => rw [e] at h; cases h
              | inr z =>
                obtain ⟨q2, L⟩ := z
                rw [e] at h
                have h5 := atM_ok hp e
                exact go false _ _ _ q2 h5.2 h5.1 h
    | false =>
      unfold mRc
      split
      · rename_i c
        exact go false _ _ _ _ hle (tx_e_gt' (by omega))
      · split
        · rename_i c
          exact go true _ _ _ _ hle (tx_e_gt' (by omega))
        · split
          · split
            · rename_i c
              exact go true _ _ _ _ hle (tx_e_gt' (by omega))
            · intro h; cases h
          · split
            · intro h
              cases h
              exact ⟨hp, Nat.le_refl _, fun r => Bool.noConfusion r⟩
            · intro h; cases h
theorem RC_ok {P K M : List Int} {o : Int} {p q : Nat} (hp : p ≤ n) (h : RC g n al true P K o p = .inr (q, M)) : q ≤ n ∧ p < q := by
  have := mRc_ok (n - p + 1) true P K o p q M hp h
  exact ⟨this.1, this.2.2 rfl⟩
theorem fcC_ok {K M : List Int} {o : Int} {p q : Nat} (hp : p ≤ n) (h : fcC g n al K o p = .inr (q, M)) : q ≤ n ∧ p < q := by
  unfold fcC at h
  by_cases k : wl g n ws_16 p = -1
  · rw [if_neg (fun r => r k)] at h
    cases e1 : RC g n al true [] K o p with
    | inl z => rw [e1] at h; cases h
    | inr z =>
      obtain ⟨p1, K1⟩ := z
      rw [e1] at h
      have l1 := RC_ok hp e1
      have h' : ndL (sp_sg g n p1).2 (fun p2 => bL (RC g n al true [] K1 o p2) (fun q K2 => .inr (q, K2 ++ [-19 - (sp_sg g n p1).1]))) = .inr (q, M) := h
      cases e2 : (sp_sg g n p1).2 with
      | inl z => rw [e2] at h'; cases h'
      | inr p2 =>
        rw [e2] at h'
        have l2 := sp_sg_gt e2
        have l2n : p2 ≤ n := sv_le (sp_sg_v (g := g) l1.1) e2
        have h2 : bL (RC g n al true [] K1 o p2) (fun q K2 => .inr (q, K2 ++ [-19 - (sp_sg g n p1).1])) = .inr (q, M) := h'
        cases e3 : RC g n al true [] K1 o p2 with
        | inl z => rw [e3] at h2; cases h2
        | inr z =>
          obtain ⟨p3, K3⟩ := z
          rw [e3] at h2
          have l3 := RC_ok l2n e3
          cases h2
          exact ⟨l3.1, by omega⟩
  · rw [if_pos k] at h
    cases h
    exact ⟨tx_e_le hp, tx_e_gt' (by have := wl_k k; omega)⟩
theorem mTc_f : ∀ (f f2 : Nat) (m : Bool) (P K : List Int) (o : Int) (p : Nat), p ≤ n → n - p < f → n - p < f2 → mTc g n al f m P K o p = mTc g n al f2 m P K o p := by
  intro f
  induction f with
  | zero => intro f2 m P K o p h1 h2; omega
  | succ f ih =>
    intro f2 m P K o p hp h2 h3
    obtain ⟨f2, rfl⟩ : ∃ k, f2 = k + 1 := ⟨f2 - 1, by omega⟩
    have hle := tx_e_le (f := g) hp
    cases m with
    | true =>
      unfold mTc
      by_cases c1 : tx_k g n p = 3 ∧ g (tx_a g n p) = 91
      · have hlt : p < tx_e g n p := tx_e_gt' (by omega)
        rw [if_pos c1, if_pos c1, ih f2 true (25 :: P) K (o + 1) (tx_e g n p) hle (by omega) (by omega)]
      · rw [if_neg c1, if_neg c1]
        by_cases c2 : wl g n ws_15 p = -1
        · rw [if_neg (show ¬ ¬ wl g n ws_15 p = -1 from fun r => r c2), if_neg (show ¬ ¬ wl g n ws_15 p = -1 from fun r => r c2)]
          refine bL_cg (fun q L e => ?_)
          have h5 := fcC_ok hp e
          exact ih f2 false _ _ _ q h5.1 (by omega) (by omega)
        · have hlt : p < tx_e g n p := tx_e_gt' (by have := wl_k c2; omega)
          rw [if_pos c2, if_pos c2, ih f2 true (12 :: P) K (o + 1) (tx_e g n p) hle (by omega) (by omega)]
    | false =>
      unfold mTc
      by_cases c1 : (tx_k g n p = 3 ∧ g (tx_a g n p) = 93) ∧ tMem P = true
      · have hlt : p < tx_e g n p := tx_e_gt' (by omega)
        rw [if_pos c1, if_pos c1]
        exact ih f2 false _ _ _ (tx_e g n p) hle (by omega) (by omega)
      · rw [if_neg c1, if_neg c1]
        by_cases c2 : wl g n ws_14 p = -1
        · rw [if_neg (show ¬ ¬ wl g n ws_14 p = -1 from fun r => r c2), if_neg (show ¬ ¬ wl g n ws_14 p = -1 from fun r => r c2)]
          by_cases c3 : wl g n ws_13 p = -1
          · rw [if_neg (show ¬ ¬ wl g n ws_13 p = -1 from fun r => r c3), if_neg (show ¬ ¬ wl g n ws_13 p = -1 from fun r => r c3)]
          · have hlt : p < tx_e g n p := tx_e_gt' (by have := wl_k c3; omega)
            rw [if_pos c3, if_pos c3]
            exact ih f2 true _ _ o (tx_e g n p) hle (by omega) (by omega)
        · have hlt : p < tx_e g n p := tx_e_gt' (by have := wl_k c2; omega)
          rw [if_pos c2, if_pos c2]
          exact ih f2 true _ _ o (tx_e g n p) hle (by omega) (by omega)
end TC
def TC (g : Nat → Int) (n : Nat) (al : Int) (m : Bool) (P K : List Int) (o : Int) (p : Nat) : SL := mTc g n al (n - p + 1) m P K o p
