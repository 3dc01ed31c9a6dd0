/-! what is coded grows by one at least, and by no more than there are bytes -/
theorem em_le (c : CD) (op : Int) : c.1 ≤ (em c op).1 ∧ (em c op).1 ≤ c.1 + 1 := by
  unfold em F_X5_emit
  split
  · exact ⟨Int.le_refl _, by show c.1 ≤ c.1 + 1; omega⟩
  · exact ⟨by show c.1 ≤ c.1 + 1; omega, Int.le_refl _⟩
theorem em_1 {c : CD} (op : Int) (h : c.1 < 1600) : (em c op).1 = c.1 + 1 := by
  unfold em F_X5_emit
  rw [if_neg (by omega)]
def okG (n : Nat) (sp : Nat → CD → ST × CD) : Prop := ∀ p c, p ≤ n → 0 ≤ c.1 → c.1 ≤ (p : Int) → ∀ q, (sp p c).1 = .inr q → c.1 < (sp p c).2.1 ∧ (sp p c).2.1 ≤ c.1 + ((q : Int) - (p : Int))
theorem lpS_G {g : Nat → Int} {n : Nat} {sp : Nat → CD → ST × CD} {c1 c2 o1 o2 : Int} (h : okR n sp) (hG : okG n sp) : ∀ (m p : Nat) (c : CD), p ≤ n → 0 ≤ c.1 → c.1 ≤ (p : Int) → ∀ q, (lpS g n sp c1 c2 o1 o2 m p c).1 = .inr q → c.1 ≤ (lpS g n sp c1 c2 o1 o2 m p c).2.1 ∧ (lpS g n sp c1 c2 o1 o2 m p c).2.1 ≤ c.1 + ((q : Int) - (p : Int)) := by
  intro m
  induction m with
  | zero => intro p c hp h0 h1 q e; cases e; exact ⟨Int.le_refl _, by show c.1 ≤ _; omega⟩
  | succ m ih =>
    intro p c hp h0 h1 q
    have step : ∀ o, tx_k g n p = 3 → (sbC (sp (tx_e g n p) c).1 (sp (tx_e g n p) c).2 (fun p2 d => lpS g n sp c1 c2 o1 o2 m p2 (em d o))).1 = .inr q → c.1 ≤ (sbC (sp (tx_e g n p) c).1 (sp (tx_e g n p) c).2 (fun p2 d => lpS g n sp c1 c2 o1 o2 m p2 (em d o))).2.1 ∧ (sbC (sp (tx_e g n p) c).1 (sp (tx_e g n p) c).2 (fun p2 d => lpS g n sp c1 c2 o1 o2 m p2 (em d o))).2.1 ≤ c.1 + ((q : Int) - (p : Int)) := by
      intro o hk r
      have h5 := h (tx_e g n p) c (tx_e_le hp)
      have h2 : p < tx_e g n p := tx_e_gt' (by omega)
      have h6 := hG (tx_e g n p) c (tx_e_le hp) h0 (by omega)
      cases e : (sp (tx_e g n p) c).1 with
      | inl q0 => rw [e] at r; cases r
      | inr p2 =>
        rw [e] at h5 h6 r
        have h3 := h5.2 p2 rfl
        have h7 := h6 p2 rfl
        have h8 := em_le (sp (tx_e g n p) c).2 o
        have h9 := ih p2 (em (sp (tx_e g n p) c).2 o) h5.1 (by omega) (by omega) q r
        show c.1 ≤ (lpS g n sp c1 c2 o1 o2 m p2 (em (sp (tx_e g n p) c).2 o)).2.1 ∧ (lpS g n sp c1 c2 o1 o2 m p2 (em (sp (tx_e g n p) c).2 o)).2.1 ≤ c.1 + ((q : Int) - (p : Int))
        exact ⟨by omega, by omega⟩
    unfold lpS
    split
    · rename_i k; exact step o1 k.1
    · split
      · rename_i k; exact step o2 k.1
      · intro e; cases e; exact ⟨Int.le_refl _, by show c.1 ≤ _; omega⟩
theorem spL_G {g : Nat → Int} {n : Nat} {sp : Nat → CD → ST × CD} {c1 c2 o1 o2 : Int} (h : okR n sp) (hG : okG n sp) : okG n (spL g n sp c1 c2 o1 o2) := by
  intro p c hp h0 h1 q
  have h5 := h p c hp
  have h6 := hG p c hp h0 h1
  unfold spL
  cases e : (sp p c).1 with
  | inl q0 => intro r; cases r
  | inr p2 =>
    rw [e] at h5 h6
    have h3 := h5.2 p2 rfl
    have h7 := h6 p2 rfl
    intro r
    have h9 := lpS_G (g := g) (c1 := c1) (c2 := c2) (o1 := o1) (o2 := o2) h hG 1602 p2 (sp p c).2 h5.1 (by omega) (by omega) q r
    show c.1 < (lpS g n sp c1 c2 o1 o2 1602 p2 (sp p c).2).2.1 ∧ (lpS g n sp c1 c2 o1 o2 1602 p2 (sp p c).2).2.1 ≤ _
    exact ⟨by omega, by omega⟩
theorem lpV_G {g : Nat → Int} {n : Nat} {sp : Nat → CD → ST × CD} {ws : List (List Int)} {op : Int} (h : okR n sp) (hG : okG n sp) : ∀ (m p : Nat) (c : CD), p ≤ n → 0 ≤ c.1 → c.1 ≤ (p : Int) → ∀ q, (lpV g n sp ws op m p c).1 = .inr q → c.1 ≤ (lpV g n sp ws op m p c).2.1 ∧ (lpV g n sp ws op m p c).2.1 ≤ c.1 + ((q : Int) - (p : Int)) := by
  intro m
  induction m with
  | zero => intro p c hp h0 h1 q e; cases e; exact ⟨Int.le_refl _, by show c.1 ≤ _; omega⟩
  | succ m ih =>
    intro p c hp h0 h1 q
    unfold lpV
    split
    · intro e; cases e; exact ⟨Int.le_refl _, by show c.1 ≤ _; omega⟩
    · rename_i hk
      have h5 := h (tx_e g n p) c (tx_e_le hp)
      have h2 : p < tx_e g n p := tx_e_gt' (by have := wl_k hk; omega)
      have h6 := hG (tx_e g n p) c (tx_e_le hp) h0 (by omega)
      cases e : (sp (tx_e g n p) c).1 with
      | inl q0 => intro r; cases r
      | inr p2 =>
        rw [e] at h5 h6
        have h3 := h5.2 p2 rfl
        have h7 := h6 p2 rfl
        have h8 := em_le (sp (tx_e g n p) c).2 op
        intro r
        have h9 := ih p2 (em (sp (tx_e g n p) c).2 op) h5.1 (by omega) (by omega) q r
        show c.1 ≤ (lpV g n sp ws op m p2 (em (sp (tx_e g n p) c).2 op)).2.1 ∧ (lpV g n sp ws op m p2 (em (sp (tx_e g n p) c).2 op)).2.1 ≤ _
        exact ⟨by omega, by omega⟩
theorem spV_G {g : Nat → Int} {n : Nat} {sp : Nat → CD → ST × CD} {ws : List (List Int)} {op : Int} (h : okR n sp) (hG : okG n sp) : okG n (spV g n sp ws op) := by
  intro p c hp h0 h1 q
  have h5 := h p c hp
  have h6 := hG p c hp h0 h1
  unfold spV
  cases e : (sp p c).1 with
  | inl q0 => intro r; cases r
  | inr p2 =>
    rw [e] at h5 h6
    have h3 := h5.2 p2 rfl
    have h7 := h6 p2 rfl
    intro r
    have h9 := lpV_G (g := g) (ws := ws) (op := op) h hG 1602 p2 (sp p c).2 h5.1 (by omega) (by omega) q r
    show c.1 < (lpV g n sp ws op 1602 p2 (sp p c).2).2.1 ∧ (lpV g n sp ws op 1602 p2 (sp p c).2).2.1 ≤ _
    exact ⟨by omega, by omega⟩
theorem pair_G {g : Nat → Int} {n : Nat} {S : Nat → CD → ST × CD} {b : Bool} {op : Int} (h : okR n S) (hG : okG n S) : okG n (sp_pair g n b S op) := by
  intro p c hp h0 h1 q
  unfold sp_pair
  split
  · rename_i k
    have hlt : p < tx_e g n p := tx_e_gt' (by have := k.1; omega)
    cases b with
    | false => rw [opn_f]; intro r; cases r
    | true =>
      rw [opn_t]
      have h5 := h (tx_e g n p) c (tx_e_le hp)
      have h6 := hG (tx_e g n p) c (tx_e_le hp) h0 (by omega)
      cases e1 : (S (tx_e g n p) c).1 with
      | inl q0 => intro r; cases r
      | inr p1 =>
        rw [e1] at h5 h6
        have l1 := h5.2 p1 rfl
        have g1 := h6 p1 rfl
        show sb (sbC (sp_need g n 44 p1) (S (tx_e g n p) c).2 S).1 (sp_need g n 41) = .inr q → c.1 < (em (sbC (sp_need g n 44 p1) (S (tx_e g n p) c).2 S).2 op).1 ∧ (em (sbC (sp_need g n 44 p1) (S (tx_e g n p) c).2 S).2 op).1 ≤ _
        have h2 := sp_need_v (g := g) 44 h5.1
        cases e2 : sp_need g n 44 p1 with
        | inl q0 => intro r; cases r
        | inr p2 =>
          rw [e2] at h2
          have l2 := sp_need_gt e2
          have h3 := h p2 (S (tx_e g n p) c).2 h2
          have g3 := hG p2 (S (tx_e g n p) c).2 h2 (by omega) (by omega)
          show sb (S p2 (S (tx_e g n p) c).2).1 (sp_need g n 41) = .inr q → c.1 < (em (S p2 (S (tx_e g n p) c).2).2 op).1 ∧ (em (S p2 (S (tx_e g n p) c).2).2 op).1 ≤ _
          cases e3 : (S p2 (S (tx_e g n p) c).2).1 with
          | inl q0 => intro r; cases r
          | inr p3 =>
            rw [e3] at h3 g3
            have l3 := h3.2 p3 rfl
            have g4 := g3 p3 rfl
            intro r
            have l4 := sp_need_gt (show sp_need g n 41 p3 = .inr q from r)
            have h8 := em_le (S p2 (S (tx_e g n p) c).2).2 op
            exact ⟨by omega, by omega⟩
  · intro r; cases r
theorem pw_G {g : Nat → Int} {n : Nat} {al : Int} (hn : n ≤ 1600) : okG n (sp_pw g n al) := by
  intro p c hp h0 h1 q
  have hok := (pw_ok (g := g) (al := al) p c hp)
  unfold sp_pw at *
  split
  · intro r; cases r
  · rename_i k
    intro r
    rw [if_neg k] at hok
    have l := hok.2 q r
    have l2 : q ≤ n := by
      have := hok.1
      cases r
      exact this
    have := em_1 (c := c) (-1 - wl g n ws_20 p) (by omega)
    exact ⟨by show c.1 < (em c _).1; omega, by show (em c _).1 ≤ _; omega⟩
theorem part_G {g : Nat → Int} {n : Nat} {al : Int} {b : Bool} {S P : Nat → CD → ST × CD} (hn : n ≤ 1600) (hS : okR n S) (gS : okG n S) (hP : okR n P) (gP : okG n P) : okG n (sp_partD g n al b S P) := by
  intro p c hp h0 h1 q
  unfold sp_partD
  split
  · intro r
    have l := sp_num_gt r
    have l2 : q ≤ n := by
      have := sp_num_v (g := g) 0 9999 hp
      have r' : (sp_num g n 0 9999 p).2 = .inr q := r
      rw [r'] at this
      exact this
    have := em_1 (c := c) (sp_num g n 0 9999 p).1 (by omega)
    exact ⟨by show c.1 < (em c _).1; omega, by show (em c _).1 ≤ _; omega⟩
  · split
    · rename_i k
      have hlt : p < tx_e g n p := tx_e_gt' (by have := k.1; omega)
      cases b with
      | false => rw [opn_f]; intro r; cases r
      | true =>
        rw [opn_t]
        have h5 := hS (tx_e g n p) c (tx_e_le hp)
        have h6 := gS (tx_e g n p) c (tx_e_le hp) h0 (by omega)
        cases e1 : (S (tx_e g n p) c).1 with
        | inl q0 => intro r; cases r
        | inr p1 =>
          rw [e1] at h5 h6
          have l1 := h5.2 p1 rfl
          have g1 := h6 p1 rfl
          intro r
          have l4 := sp_need_gt (show sp_need g n 41 p1 = .inr q from r)
          exact ⟨g1.1, by show (S (tx_e g n p) c).2.1 ≤ _; omega⟩
    · split
      · rename_i k
        have hlt : p < tx_e g n p := tx_e_gt' (by have := wl_k k; omega)
        intro r
        have := pair_G (g := g) (b := b) (op := -24) hS gS (tx_e g n p) c (tx_e_le hp) h0 (by omega) q r
        exact ⟨this.1, by omega⟩
      · split
        · rename_i k
          have hlt : p < tx_e g n p := tx_e_gt' (by have := wl_k k; omega)
          intro r
          have := pair_G (g := g) (b := b) (op := -25) hS gS (tx_e g n p) c (tx_e_le hp) h0 (by omega) q r
          exact ⟨this.1, by omega⟩
        · split
          · rename_i k
            have hlt : p < tx_e g n p := tx_e_gt' (by have := wl_k k.2; omega)
            cases b with
            | false => rw [opn_f]; intro r; cases r
            | true =>
              rw [opn_t]
              intro r
              have g1 := gP (tx_e g n p) c (tx_e_le hp) h0 (by omega) q r
              have h8 := em_le (P (tx_e g n p) c).2 (-32)
              exact ⟨by show c.1 < (em _ _).1; omega, by show (em _ _).1 ≤ _; omega⟩
          · exact pw_G hn p c hp h0 h1 q
theorem cmp_G {g : Nat → Int} {n : Nat} {S : Nat → CD → ST × CD} (h : okR n S) (hG : okG n S) : okG n (spCmp g n S) := by
  intro p c hp h0 h1 q
  have h5 := h p c hp
  have h6 := hG p c hp h0 h1
  unfold spCmp
  show (sbC (sbv (S p c).1 (sp_sg g n) (-28)).2 (S p c).2 S).1 = .inr q → c.1 < (em (sbC (sbv (S p c).1 (sp_sg g n) (-28)).2 (S p c).2 S).2 (sbv (S p c).1 (sp_sg g n) (-28)).1).1 ∧ (em (sbC (sbv (S p c).1 (sp_sg g n) (-28)).2 (S p c).2 S).2 (sbv (S p c).1 (sp_sg g n) (-28)).1).1 ≤ _
  cases e1 : (S p c).1 with
  | inl q0 => intro r; cases r
  | inr p1 =>
    rw [e1] at h5 h6
    have l1 := h5.2 p1 rfl
    have g1 := h6 p1 rfl
    show (sbC (sp_sg g n p1).2 (S p c).2 S).1 = .inr q → c.1 < (em (sbC (sp_sg g n p1).2 (S p c).2 S).2 (sp_sg g n p1).1).1 ∧ (em (sbC (sp_sg g n p1).2 (S p c).2 S).2 (sp_sg g n p1).1).1 ≤ _
    have h2 := sp_sg_v (g := g) h5.1
    cases e2 : (sp_sg g n p1).2 with
    | inl q0 => intro r; cases r
    | inr p2 =>
      rw [e2] at h2
      have l2 := sp_sg_gt e2
      have g3 := hG p2 (S p c).2 h2 (by omega) (by omega)
      intro r
      have g4 := g3 q r
      have h8 := em_le (S p2 (S p c).2).2 (sp_sg g n p1).1
      show c.1 < (em (S p2 (S p c).2).2 (sp_sg g n p1).1).1 ∧ (em (S p2 (S p c).2).2 (sp_sg g n p1).1).1 ≤ _
      exact ⟨by omega, by omega⟩
theorem fact_G {g : Nat → Int} {n : Nat} {b : Bool} {S T Fq : Nat → CD → ST × CD} (hn : n ≤ 1600) (hS : okR n S) (gS : okG n S) (hT : okR n T) (gT : okG n T) (gF : okG n Fq) : okG n (sp_factD g n b S T Fq) := by
  intro p c hp h0 h1 q
  unfold sp_factD
  split
  · rename_i k
    have hlt : p < tx_e g n p := tx_e_gt' (by have := wl_k k; omega)
    cases b with
    | false => rw [opn_f]; intro r; cases r
    | true =>
      rw [opn_t]
      intro r
      have g1 := gF (tx_e g n p) c (tx_e_le hp) h0 (by omega) q r
      have h8 := em_le (Fq (tx_e g n p) c).2 (-31)
      exact ⟨by show c.1 < (em _ _).1; omega, by show (em _ _).1 ≤ _; omega⟩
  · split
    · rename_i k
      have hlt : p < tx_e g n p := tx_e_gt' (by have := k.1; omega)
      cases b with
      | false => rw [opn_f]; intro r; cases r
      | true =>
        rw [opn_t]
        have h5 := hT (tx_e g n p) c (tx_e_le hp)
        have h6 := gT (tx_e g n p) c (tx_e_le hp) h0 (by omega)
        cases e1 : (T (tx_e g n p) c).1 with
        | inl q0 => intro r; cases r
        | inr p1 =>
          rw [e1] at h5 h6
          have l1 := h5.2 p1 rfl
          have g1 := h6 p1 rfl
          intro r
          have l4 := sp_need_gt (show sp_need g n 93 p1 = .inr q from r)
          exact ⟨g1.1, by show (T (tx_e g n p) c).2.1 ≤ _; omega⟩
    · split
      · rename_i k
        intro r
        have hlt : p < tx_e g n p := tx_e_gt' (by have := wl_k k; omega)
        have hle := tx_e_le (f := g) hp
        have e : tx_e g n p = q := by cases r; rfl
        have := em_1 (c := c) 1 (by omega)
        exact ⟨by show c.1 < (em c _).1; omega, by show (em c _).1 ≤ _; omega⟩
      · exact cmp_G hS gS p c hp h0 h1 q
theorem dmR_G {n : Nat} : okG n dmR := fun p c hp h0 h1 q r => by cases r
theorem sPart_G {g : Nat → Int} {n : Nat} {al : Int} (hn : n ≤ 1600) : ∀ d, okG n (sPart g n al d)
  | 0 => part_G hn dmR_ok dmR_G dmR_ok dmR_G
  | d + 1 => part_G hn (sSuO_ok (sPart_ok d)) (spL_G (sPrO_ok (sPart_ok d)) (spL_G (sPart_ok d) (sPart_G hn d))) (sPart_ok d) (sPart_G hn d)
theorem sSum_G {g : Nat → Int} {n : Nat} {al : Int} (hn : n ≤ 1600) (d : Nat) : okG n (sSum g n al d) := spL_G (sPrO_ok (sPart_ok d)) (spL_G (sPart_ok d) (sPart_G hn d))
theorem sFact_G {g : Nat → Int} {n : Nat} {al : Int} (hn : n ≤ 1600) : ∀ d, okG n (sFact g n al d)
  | 0 => fact_G hn (sSum_ok 0) (sSum_G hn 0) dmR_ok dmR_G dmR_G
  | d + 1 => fact_G hn (sSum_ok (d + 1)) (sSum_G hn (d + 1)) (sTeO_ok (sFact_ok d)) (spV_G (spV_ok (sFact_ok d)) (spV_G (sFact_ok d) (sFact_G hn d))) (sFact_G hn d)
theorem sTest_G {g : Nat → Int} {n : Nat} {al : Int} (hn : n ≤ 1600) (d : Nat) : okG n (sTest g n al d) := spV_G (spV_ok (sFact_ok d)) (spV_G (sFact_ok d) (sFact_G hn d))
