/-! codes of a text come to one number: their pile never gets too high, truths are 0 or 1 -/
def gdR (al : Int) (m : Nat) (t : Bool) (L : List Int) : Prop := ∀ (ρ : Int → Int) (κ : Int), (∀ j : Int, 0 ≤ j → j < 12 → alB al j = true → in6 (ρ j)) → ∃ v, in6 v ∧ bo t v ∧ ∀ S : List Int, S.length + m ≤ 64 → rnR ρ κ al L S (v :: S)
theorem gd_w {al : Int} {m m2 : Nat} {t : Bool} {L : List Int} (h : gdR al m t L) (hm : m ≤ m2) : gdR al m2 t L := by
  intro ρ κ hρ
  obtain ⟨v, h1, h2, h3⟩ := h ρ κ hρ
  exact ⟨v, h1, h2, fun S hS => h3 S (by omega)⟩
theorem gd_f {al : Int} {m : Nat} {t : Bool} {L : List Int} (h : gdR al m t L) : gdR al m false L := by
  intro ρ κ hρ
  obtain ⟨v, h1, h2, h3⟩ := h ρ κ hρ
  exact ⟨v, h1, fun r => Bool.noConfusion r, h3⟩
theorem gd_num {al x : Int} (h0 : 0 ≤ x) (h1 : x ≤ 9999) : gdR al 1 false [1000 + x] := by
  intro ρ κ hρ
  refine ⟨x, ⟨by omega, by omega⟩, fun r => Bool.noConfusion r, fun S hS => rnR_1 (Or.inl ⟨by omega, by omega, by omega, ?_⟩)⟩
  rw [show 1000 + x - 1000 = x from by omega]
theorem gd_pw {al w : Int} (h0 : 0 ≤ w) (h1 : w < 12) (ha : alB al w = true) : gdR al 1 false [40 + w] := by
  intro ρ κ hρ
  refine ⟨ρ w, hρ w h0 h1 ha, fun r => Bool.noConfusion r, fun S hS => rnR_1 (Or.inr (Or.inr (Or.inl ⟨by omega, by omega, ?_, by omega, ?_⟩)))⟩
  · rw [show 40 + w - 40 = w from by omega]
    exact ha
  · rw [show 40 + w - 40 = w from by omega]
theorem gd_all {al : Int} : gdR al 1 true [13] := by
  intro ρ κ hρ
  exact ⟨1, by unfold in6; omega, fun _ => Or.inr rfl, fun S hS => rnR_1 (Or.inr (Or.inr (Or.inr (Or.inl ⟨rfl, by omega, rfl⟩))))⟩
theorem gd_op {al c : Int} {m1 m2 m : Nat} {t1 t2 t : Bool} {L K : List Int} (h1 : gdR al m1 t1 L) (h2 : gdR al m2 t2 K) (hm1 : m1 ≤ m) (hm2 : m2 + 1 ≤ m) (hc : 1 ≤ c) (hc2 : c ≤ 11) (ht : t = true → 7 ≤ c) (h10 : 10 ≤ c → t1 = true ∧ t2 = true) : gdR al m t (L ++ K ++ [c]) := by
  intro ρ κ hρ
  obtain ⟨a, a1, a2, a3⟩ := h1 ρ κ hρ
  obtain ⟨b, b1, b2, b3⟩ := h2 ρ κ hρ
  have hb : c = 10 ∨ c = 11 → (a = 0 ∨ a = 1) ∧ (b = 0 ∨ b = 1) := by
    intro r
    have := h10 (by omega)
    exact ⟨a2 this.1, b2 this.2⟩
  have hv := opV_b a1 b1 hb hc hc2
  refine ⟨opV c a b, hv.1, fun r => hv.2 (ht r), fun S hS => ?_⟩
  refine rnR_app _ _ _ _ _ (rnR_app _ _ _ _ _ (a3 S (by omega)) (b3 (a :: S) (by show S.length + 1 + m2 ≤ 64; omega))) (rnR_1 ?_)
  exact Or.inr (Or.inr (Or.inr (Or.inr (Or.inr ⟨hc, hc2, a, b, S, rfl, a1, b1, hb, rfl⟩))))
theorem gd_k {al : Int} {m : Nat} {t : Bool} {L : List Int} (ha : al = 3707) (h : gdR al m t L) : gdR al m false (L ++ [60]) := by
  intro ρ κ hρ
  obtain ⟨a, a1, a2, a3⟩ := h ρ κ hρ
  refine ⟨if a = κ then 1 else 0, ?_, fun r => Bool.noConfusion r, fun S hS => ?_⟩
  · unfold in6
    by_cases q : a = κ
    · rw [if_pos q]
      omega
    · rw [if_neg q]
      omega
  · exact rnR_app _ _ _ _ _ (a3 S hS) (rnR_1 (Or.inr (Or.inl ⟨rfl, ha, a, S, rfl, rfl⟩)))
theorem gd_not {al : Int} {m : Nat} {L : List Int} (h : gdR al m true L) : gdR al m true (L ++ [12]) := by
  intro ρ κ hρ
  obtain ⟨a, a1, a2, a3⟩ := h ρ κ hρ
  have ha := a2 rfl
  refine ⟨1 - a, by unfold in6; omega, fun _ => by omega, fun S hS => ?_⟩
  exact rnR_app _ _ _ _ _ (a3 S hS) (rnR_1 (Or.inr (Or.inr (Or.inr (Or.inr (Or.inl ⟨rfl, a, S, rfl, ha, rfl⟩))))))
def gdS (al : Int) (m : Nat) (t : Bool) (S : Nat → SL) : Prop := ∀ p q L, S p = .inr (q, L) → gdR al m t L
theorem bL_inr {s : SL} {k : Nat → List Int → SL} {z : Nat × List Int} (h : bL s k = .inr z) : ∃ q L, s = .inr (q, L) ∧ k q L = .inr z := by
  cases s with
  | inl x => cases h
  | inr y => exact ⟨y.1, y.2, rfl, h⟩
theorem ndL_inr {s : ST} {k : Nat → SL} {z : Nat × List Int} (h : ndL s k = .inr z) : ∃ q, s = .inr q ∧ k q = .inr z := by
  cases s with
  | inl x => cases h
  | inr y => exact ⟨y, rfl, h⟩
section GD
variable {g : Nat → Int} {n : Nat} {al : Int}
theorem gd_lp {S : Nat → SL} {c1 c2 o1 o2 : Int} {m : Nat} (hS : gdS al m false S) (h1 : 1 ≤ o1) (h2 : o1 ≤ 6) (h3 : 1 ≤ o2) (h4 : o2 ≤ 6) : ∀ (f p : Nat) (L : List Int) (q : Nat) (M : List Int), gdR al (m + 1) false L → lpM g n S c1 c2 o1 o2 f p L = .inr (q, M) → gdR al (m + 1) false M := by
  intro f
  induction f with
  | zero =>
    intro p L q M hL h
    cases h
    exact hL
  | succ f ih =>
    intro p L q M hL h
    unfold lpM at h
    by_cases k1 : tx_k g n p = 3 ∧ g (tx_a g n p) = c1
    · rw [if_pos k1] at h
      obtain ⟨q1, K, e1, e2⟩ := bL_inr h
      exact ih q1 _ q M (gd_op hL (hS _ _ _ e1) (Nat.le_refl _) (Nat.le_refl _) h1 (by omega) (fun r => Bool.noConfusion r) (fun r => by omega)) e2
    · rw [if_neg k1] at h
      by_cases k2 : tx_k g n p = 3 ∧ g (tx_a g n p) = c2
      · rw [if_pos k2] at h
        obtain ⟨q1, K, e1, e2⟩ := bL_inr h
        exact ih q1 _ q M (gd_op hL (hS _ _ _ e1) (Nat.le_refl _) (Nat.le_refl _) h3 (by omega) (fun r => Bool.noConfusion r) (fun r => by omega)) e2
      · rw [if_neg k2] at h
        cases h
        exact hL
theorem gd_sL {S : Nat → SL} {c1 c2 o1 o2 : Int} {m : Nat} (hS : gdS al m false S) (h1 : 1 ≤ o1) (h2 : o1 ≤ 6) (h3 : 1 ≤ o2) (h4 : o2 ≤ 6) : gdS al (m + 1) false (sL g n S c1 c2 o1 o2) := by
  intro p q L h
  unfold sL at h
  obtain ⟨q1, K, e1, e2⟩ := bL_inr h
  exact gd_lp hS h1 h2 h3 h4 1602 q1 K q L (gd_w (hS _ _ _ e1) (Nat.le_succ m)) e2
theorem gd_lv {S : Nat → SL} {ws : List (List Int)} {o : Int} {m : Nat} (hS : gdS al m true S) (h1 : 10 ≤ o) (h2 : o ≤ 11) : ∀ (f p : Nat) (L : List Int) (q : Nat) (M : List Int), gdR al (m + 1) true L → lvM g n S ws o f p L = .inr (q, M) → gdR al (m + 1) true M := by
  intro f
  induction f with
  | zero =>
    intro p L q M hL h
    cases h
    exact hL
  | succ f ih =>
    intro p L q M hL h
    unfold lvM at h
    by_cases k1 : wl g n ws p = -1
    · rw [if_pos k1] at h
      cases h
      exact hL
    · rw [if_neg k1] at h
      obtain ⟨q1, K, e1, e2⟩ := bL_inr h
      exact ih q1 _ q M (gd_op hL (hS _ _ _ e1) (Nat.le_refl _) (Nat.le_refl _) (by omega) (by omega) (fun _ => by omega) (fun _ => ⟨rfl, rfl⟩)) e2
theorem gd_vL {S : Nat → SL} {ws : List (List Int)} {o : Int} {m : Nat} (hS : gdS al m true S) (h1 : 10 ≤ o) (h2 : o ≤ 11) : gdS al (m + 1) true (vL g n S ws o) := by
  intro p q L h
  unfold vL at h
  obtain ⟨q1, K, e1, e2⟩ := bL_inr h
  exact gd_lv hS h1 h2 1602 q1 K q L (gd_w (hS _ _ _ e1) (Nat.le_succ m)) e2
theorem gd_need {c : Int} {p : Nat} {L : List Int} {q : Nat} {M : List Int} (h : needM g n c p L = .inr (q, M)) : M = L := by
  unfold needM at h
  obtain ⟨q1, e1, e2⟩ := ndL_inr h
  cases e2
  rfl
theorem gd_opn {b : Bool} {p : Nat} {k : Nat → SL} {z : Nat × List Int} (h : opnM g n b p k = .inr z) : b = true ∧ k (tx_e g n p) = .inr z := by
  unfold opnM at h
  cases b with
  | true =>
    rw [if_pos rfl] at h
    exact ⟨rfl, h⟩
  | false =>
    rw [if_neg (fun r => Bool.noConfusion r)] at h
    cases h
theorem gd_pair {b : Bool} {S : Nat → SL} {o : Int} {m : Nat} (hS : b = true → gdS al m false S) (h1 : 5 ≤ o) (h2 : o ≤ 6) : gdS al (m + 1) false (pairM g n b S o) := by
  intro p q L h
  unfold pairM at h
  by_cases k1 : tx_k g n p = 3 ∧ g (tx_a g n p) = 40
  · rw [if_pos k1] at h
    obtain ⟨hb, h⟩ := gd_opn h
    obtain ⟨q1, L1, e1, h⟩ := bL_inr h
    obtain ⟨q2, e2, h⟩ := ndL_inr h
    obtain ⟨q3, L2, e3, h⟩ := bL_inr h
    rw [gd_need h]
    exact gd_op (hS hb _ _ _ e1) (hS hb _ _ _ e3) (Nat.le_succ m) (Nat.le_refl _) (by omega) (by omega) (fun r => Bool.noConfusion r) (fun r => by omega)
  · rw [if_neg k1] at h
    cases h
theorem gd_part {b : Bool} {S P : Nat → SL} {m : Nat} (hS : b = true → gdS al m false S) (hP : b = true → gdS al (m + 1) false P) : gdS al (m + 1) false (partM g n al b S P) := by
  intro p q L h
  unfold partM at h
  by_cases q0 : tx_k g n p = 2
  · rw [if_pos q0] at h
    unfold numM at h
    obtain ⟨q1, e1, e2⟩ := ndL_inr h
    cases e2
    exact gd_w (gd_num sp_num_lo (sp_num_hi e1)) (Nat.le_add_left 1 m)
  · rw [if_neg q0] at h
    by_cases q1 : tx_k g n p = 3 ∧ g (tx_a g n p) = 40
    · rw [if_pos q1] at h
      obtain ⟨hb, h⟩ := gd_opn h
      obtain ⟨q2, L1, e1, h⟩ := bL_inr h
      rw [gd_need h]
      exact gd_w (hS hb _ _ _ e1) (Nat.le_succ m)
    · rw [if_neg q1] at h
      by_cases q2 : wl g n ws_17 p = -1
      · rw [if_neg (show ¬ ¬ wl g n ws_17 p = -1 from fun r => r q2)] at h
        by_cases q3 : wl g n ws_18 p = -1
        · rw [if_neg (show ¬ ¬ wl g n ws_18 p = -1 from fun r => r q3)] at h
          by_cases q4 : al = 3707 ∧ ¬ wl g n ws_19 p = -1
          · rw [if_pos q4] at h
            obtain ⟨hb, h⟩ := gd_opn h
            obtain ⟨q5, L1, e1, h⟩ := bL_inr h
            cases h
            exact gd_k q4.1 (hP hb _ _ _ e1)
          · rw [if_neg q4] at h
            unfold pwM at h
            by_cases q5 : wl g n ws_20 p = -1 ∨ lf_o lf_iand (lf_o lf_ishr al (wl g n ws_20 p)) 1 = 0
            · rw [if_pos q5] at h
              cases h
            · rw [if_neg q5] at h
              cases h
              have hb := wl_20 (fun r => q5 (Or.inl r))
              exact gd_w (gd_pw hb.1 hb.2 (decide_eq_true (fun r => q5 (Or.inr r)))) (Nat.le_add_left 1 m)
        · rw [if_pos q3] at h
          exact gd_pair hS (by decide) (by decide) _ _ _ h
      · rw [if_pos q2] at h
        exact gd_pair hS (by decide) (by decide) _ _ _ h
theorem gd_mPart : ∀ d : Nat, gdS al (3 * d + 1) false (mPart g n al d)
  | 0 => gd_part (m := 0) (fun r => Bool.noConfusion r) (fun r => Bool.noConfusion r)
  | d + 1 => gd_part (m := 3 * d + 3) (fun _ => gd_sL (m := 3 * d + 2) (gd_sL (m := 3 * d + 1) (gd_mPart d) (by decide) (by decide) (by decide) (by decide)) (by decide) (by decide) (by decide) (by decide)) (fun _ => fun p q L h => gd_w (gd_mPart d p q L h) (by omega))
theorem gd_mSum (d : Nat) : gdS al (3 * d + 3) false (mSum g n al d) := gd_sL (m := 3 * d + 2) (gd_sL (m := 3 * d + 1) (gd_mPart d) (by decide) (by decide) (by decide) (by decide)) (by decide) (by decide) (by decide) (by decide)
theorem sg_b {q : Nat} : 7 ≤ -19 - (sp_sg g n q).1 ∧ -19 - (sp_sg g n q).1 ≤ 9 := by
  unfold sp_sg
  by_cases c1 : tx_k g n q = 3 ∧ g (tx_a g n q) = 60
  · rw [if_pos c1]
    show 7 ≤ (-19 : Int) - (-26) ∧ (-19 : Int) - (-26) ≤ 9
    decide
  · rw [if_neg c1]
    by_cases c2 : tx_k g n q = 3 ∧ g (tx_a g n q) = 62
    · rw [if_pos c2]
      show 7 ≤ (-19 : Int) - (-27) ∧ (-19 : Int) - (-27) ≤ 9
      decide
    · rw [if_neg c2]
      by_cases c3 : tx_k g n q = 3 ∧ g (tx_a g n q) = 61
      · rw [if_pos c3]
        show 7 ≤ (-19 : Int) - (-28) ∧ (-19 : Int) - (-28) ≤ 9
        decide
      · rw [if_neg c3]
        show 7 ≤ (-19 : Int) - (-28) ∧ (-19 : Int) - (-28) ≤ 9
        decide
theorem gd_cmp {S : Nat → SL} {m : Nat} (hS : gdS al m false S) : gdS al (m + 1) true (cmpM g n S) := by
  intro p q L h
  unfold cmpM at h
  obtain ⟨q1, L1, e1, h⟩ := bL_inr h
  obtain ⟨q2, e2, h⟩ := ndL_inr h
  obtain ⟨q3, L2, e3, h⟩ := bL_inr h
  cases h
  have hb := sg_b (g := g) (n := n) (q := q1)
  exact gd_op (hS _ _ _ e1) (hS _ _ _ e3) (Nat.le_succ m) (Nat.le_refl _) (by omega) (by omega) (fun _ => hb.1) (fun r => by omega)
theorem gd_fact {b : Bool} {S T Fq : Nat → SL} {m : Nat} (hS : gdS al m false S) (hT : b = true → gdS al (m + 1) true T) (hF : b = true → gdS al (m + 1) true Fq) : gdS al (m + 1) true (factM g n b S T Fq) := by
  intro p q L h
  unfold factM at h
  by_cases q0 : wl g n ws_15 p = -1
  · rw [if_neg (show ¬ ¬ wl g n ws_15 p = -1 from fun r => r q0)] at h
    by_cases q1 : tx_k g n p = 3 ∧ g (tx_a g n p) = 91
    · rw [if_pos q1] at h
      obtain ⟨hb, h⟩ := gd_opn h
      obtain ⟨q2, L1, e1, h⟩ := bL_inr h
      rw [gd_need h]
      exact hT hb _ _ _ e1
    · rw [if_neg q1] at h
      by_cases q2 : wl g n ws_16 p = -1
      · rw [if_neg (show ¬ ¬ wl g n ws_16 p = -1 from fun r => r q2)] at h
        exact gd_cmp hS _ _ _ h
      · rw [if_pos q2] at h
        cases h
        exact gd_w gd_all (Nat.le_add_left 1 m)
  · rw [if_pos q0] at h
    obtain ⟨hb, h⟩ := gd_opn h
    obtain ⟨q2, L1, e1, h⟩ := bL_inr h
    cases h
    exact gd_not (hF hb _ _ _ e1)
theorem gd_mFact : ∀ d : Nat, gdS al (3 * d + 4) true (mFact g n al d)
  | 0 => gd_fact (m := 3) (gd_mSum 0) (fun r => Bool.noConfusion r) (fun r => Bool.noConfusion r)
  | d + 1 => gd_fact (m := 3 * d + 6) (fun p q L h => gd_w (gd_mSum (d + 1) p q L h) (by omega)) (fun _ => fun p q L h => gd_w (gd_vL (m := 3 * d + 5) (gd_vL (m := 3 * d + 4) (gd_mFact d) (by decide) (by decide)) (by decide) (by decide) p q L h) (by omega)) (fun _ => fun p q L h => gd_w (gd_mFact d p q L h) (by omega))
theorem gd_mTest (d : Nat) : gdS al (3 * d + 6) true (mTest g n al d) := gd_vL (m := 3 * d + 5) (gd_vL (m := 3 * d + 4) (gd_mFact d) (by decide) (by decide)) (by decide) (by decide)
end GD
/-- what codes come to -/
theorem gd_val {al : Int} {m : Nat} {t : Bool} {L : List Int} (h : gdR al m t L) (hm : m ≤ 64) (ρ : Int → Int) (κ : Int) (hρ : ∀ j : Int, 0 ≤ j → j < 12 → alB al j = true → in6 (ρ j)) : ∃ v, in6 v ∧ bo t v ∧ rnR ρ κ al L [] [v] := by
  obtain ⟨v, h1, h2, h3⟩ := h ρ κ hρ
  exact ⟨v, h1, h2, h3 [] (by show 0 + m ≤ 64; omega)⟩
