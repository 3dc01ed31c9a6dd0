section RC4
variable {g : Nat → Int} {n : Nat} {al : Int}
theorem mmC_eq {x op o : Int} {b : Bool} {S : Nat → SL} (hx : (x = 21 ∧ op = 5) ∨ (x = 22 ∧ op = 6)) (h6 : b = false → o = 6) (h7 : b = true → ¬ o = 6 ∧ cpN g n al (o + 1) 1 S ∧ endM n (fun q => ¬ opS g n q) S) (P K : List Int) (p : Nat) (hp : p ≤ n) : mmC g n al x P K o p = bL (pairM g n b S op p) (fun q L => RC g n al false (dE P (K ++ L) o).1 (dE P (K ++ L) o).2.1 (dE P (K ++ L) o).2.2 q) := by
  unfold mmC pairM
  by_cases q : tx_k g n p = 3 ∧ g (tx_a g n p) = 40
  · rw [if_pos q, if_pos q]
    unfold opnM
    cases b with
    | false =>
      rw [if_pos (h6 rfl), if_neg (fun r => Bool.noConfusion r)]
      rfl
    | true =>
      obtain ⟨ho, hS, hE⟩ := h7 rfl
      have hle := tx_e_le (f := g) hp
      have hb : brT (x :: P) = x := by
        rcases hx with ⟨e, _⟩ | ⟨e, _⟩ <;> (subst e; rfl)
      have hd : ∀ K, dB (x :: P) K = (x :: P, K) := fun K => by
        rcases hx with ⟨e, _⟩ | ⟨e, _⟩ <;> (subst e; rfl)
      have hk : ∀ K, clK (x + 2) K = K ++ [op] := fun K => by
        rcases hx with ⟨e, e2⟩ | ⟨e, e2⟩ <;> (subst e; subst e2; rfl)
      rw [if_neg ho, if_pos rfl, hS (x :: P) K (tx_e g n p) hle ⟨by omega, by omega⟩]
      show _ = bL (bL (S (tx_e g n p)) _) _
      cases e1 : S (tx_e g n p) with
      | inl z => rfl
      | inr z =>
        obtain ⟨q1, L1⟩ := z
        obtain ⟨l1, _, o1⟩ := hE (tx_e g n p) q1 L1 hle e1
        show RC g n al false (x :: P) (K ++ L1) (o + 1) q1 = bL (ndL (sp_need g n 44 q1) (fun q2 => bL (S q2) (fun q3 L2 => needM g n 41 q3 (L1 ++ L2 ++ [op])))) _
        rw [RC_cm l1 o1 (by rw [hb]; omega), hd]
        by_cases q2 : tx_k g n q1 = 3 ∧ g (tx_a g n q1) = 44
        · have hle1 := tx_e_le (f := g) l1
          rw [if_pos q2, show sp_need g n 44 q1 = .inr (tx_e g n q1) from if_pos q2]
          show RC g n al true ((x + 2) :: P) (K ++ L1) (o + 1) (tx_e g n q1) = bL (bL (S (tx_e g n q1)) (fun q3 L2 => needM g n 41 q3 (L1 ++ L2 ++ [op]))) _
          rw [hS ((x + 2) :: P) (K ++ L1) (tx_e g n q1) hle1 ⟨by omega, by omega⟩]
          cases e2 : S (tx_e g n q1) with
          | inl z => rfl
          | inr z =>
            obtain ⟨q3, L2⟩ := z
            obtain ⟨l3, _, o3⟩ := hE (tx_e g n q1) q3 L2 hle1 e2
            show RC g n al false ((x + 2) :: P) (K ++ L1 ++ L2) (o + 1) q3 = bL (needM g n 41 q3 (L1 ++ L2 ++ [op])) _
            rw [RC_br l3 o3 (by omega), hk]
            unfold needM
            cases sp_need g n 41 q3 with
            | inl z => rfl
            | inr q4 =>
              show RC g n al false (dE P (K ++ L1 ++ L2 ++ [op]) o).1 (dE P (K ++ L1 ++ L2 ++ [op]) o).2.1 (dE P (K ++ L1 ++ L2 ++ [op]) o).2.2 q4 = RC g n al false (dE P (K ++ (L1 ++ L2 ++ [op])) o).1 (dE P (K ++ (L1 ++ L2 ++ [op])) o).2.1 (dE P (K ++ (L1 ++ L2 ++ [op])) o).2.2 q4
              rw [← List.append_assoc, ← List.append_assoc]
        · rw [if_neg q2, show sp_need g n 44 q1 = .inl (1, (tx_a g n q1 : Int)) from if_neg q2]
          rfl
  · rw [if_neg q, if_neg q]
    rfl
theorem partC_eq {b : Bool} {S Pt : Nat → SL} {o : Int} (h6 : b = false → o = 6) (h7 : b = true → ¬ o = 6 ∧ cpN g n al (o + 1) 1 S ∧ endM n (fun q => ¬ opS g n q) S) (h8 : b = true → cpP g n al (o + 1) Pt) : cpP g n al o (partM g n al b S Pt) := by
  intro P K p hp
  have hle := tx_e_le (f := g) hp
  unfold partM
  by_cases q0 : tx_k g n p = 2
  · have n1 : ∀ ws, wl g n ws p = -1 := fun ws => by
      unfold wl
      rw [if_neg (by omega)]
    rw [if_pos q0, RC_at hp (fun r => by omega) (n1 _) (n1 _) (fun r => r.2 (n1 _)), show atM g n al p = numM g n p from if_pos q0]
  · rw [if_neg q0]
    by_cases q1 : tx_k g n p = 3 ∧ g (tx_a g n p) = 40
    · rw [if_pos q1]
      unfold opnM
      cases b with
      | false =>
        rw [h6 rfl, RC_o6 q1, if_neg (fun r => Bool.noConfusion r)]
        rfl
      | true =>
        obtain ⟨ho, hS, hE⟩ := h7 rfl
        rw [RC_o1 hp q1 ho, if_pos rfl, hS (20 :: P) K (tx_e g n p) hle ⟨by decide, by decide⟩]
        show _ = bL (bL (S (tx_e g n p)) _) _
        cases e1 : S (tx_e g n p) with
        | inl z => rfl
        | inr z =>
          obtain ⟨q, L⟩ := z
          obtain ⟨l1, _, o1⟩ := hE (tx_e g n p) q L hle e1
          show RC g n al false (20 :: P) (K ++ L) (o + 1) q = bL (needM g n 41 q L) _
          rw [RC_br l1 o1 (Or.inl rfl)]
          unfold needM
          cases sp_need g n 41 q with
          | inl z => rfl
          | inr q4 => rfl
    · rw [if_neg q1]
      by_cases q2 : wl g n ws_17 p = -1
      · rw [if_neg (show ¬ ¬ wl g n ws_17 p = -1 from fun r => r q2)]
        by_cases q3 : wl g n ws_18 p = -1
        · rw [if_neg (show ¬ ¬ wl g n ws_18 p = -1 from fun r => r q3)]
          by_cases q4 : al = 3707 ∧ ¬ wl g n ws_19 p = -1
          · rw [if_pos q4]
            unfold opnM
            cases b with
            | false =>
              rw [h6 rfl, RC_k6 q2 q3 q4, if_neg (fun r => Bool.noConfusion r)]
              rfl
            | true =>
              rw [RC_k1 hp q2 q3 q4 (h7 rfl).1, if_pos rfl, h8 rfl (60 :: P) K (tx_e g n p) hle]
              show _ = bL (bL (Pt (tx_e g n p)) _) _
              cases e1 : Pt (tx_e g n p) with
              | inl z => rfl
              | inr z =>
                obtain ⟨q, L⟩ := z
                have e9 : dE (60 :: P) (K ++ L) (o + 1) = dE P (K ++ (L ++ [60])) o := by
                  show (if (60 : Int) < 60 then ((60 :: P), K ++ L, o + 1) else dE P (K ++ L ++ [60]) (o + 1 - 1)) = _
                  rw [if_neg (by decide), show o + 1 - 1 = o from by omega, List.append_assoc]
                show RC g n al false (dE (60 :: P) (K ++ L) (o + 1)).1 (dE (60 :: P) (K ++ L) (o + 1)).2.1 (dE (60 :: P) (K ++ L) (o + 1)).2.2 q = _
                rw [e9]
                rfl
          · rw [if_neg q4, RC_at hp q1 q2 q3 q4, show atM g n al p = pwM g n al p from if_neg q0]
        · rw [if_pos q3, RC_mx hp q2 q3]
          exact mmC_eq (Or.inr ⟨rfl, rfl⟩) h6 h7 P K (tx_e g n p) hle
      · rw [if_pos q2, RC_mm hp q2]
        exact mmC_eq (Or.inl ⟨rfl, rfl⟩) h6 h7 P K (tx_e g n p) hle
theorem rlA_end {sp : Nat → CD → ST × CD} {S : Nat → SL} {Q : Nat → Prop} (h : rlA n sp S) (hok : okR n sp) (hQ : ∀ p c q, p ≤ n → (sp p c).1 = .inr q → Q q) : endM n Q S := by
  intro p q L hp e
  have h1 := h p (0, fun _ => 0) hp
  rw [e] at h1
  have h1' : sp p (0, fun _ => 0) = (.inr q, ems (0, fun _ => 0) (L.map toC)) := h1
  have h2 := hok p (0, fun _ => 0) hp
  rw [h1'] at h2
  exact ⟨h2.1, h2.2 q rfl, hQ p (0, fun _ => 0) q hp (by rw [h1'])⟩
theorem sumC_cl {o : Int} {S : Nat → SL} (hn : n ≤ 1600) (h : cpP g n al o S) (hE : endM n (fun _ => True) S) : cpN g n al o 1 (sL g n (sL g n S 42 47 3 4) 43 45 1 2) ∧ endM n (fun q => ¬ opS g n q) (sL g n (sL g n S 42 47 3 4) 43 45 1 2) := by
  have hN : ∀ lo, cpN g n al o lo S := fun lo P K p hp hT => by
    rw [h P K p hp]
    exact bL_cg (fun q L _ => by rw [tpN_E hT])
  have hM : ∀ x, x = 3 ∨ x = 4 → ∀ (P K : List Int) (p : Nat), p ≤ n → tpN 3 P → RC g n al true (x :: P) K o p = bL (S p) (fun q L => RC g n al false P (K ++ L ++ [x]) o q) := by
    intro x hx P K p hp hT
    rw [h (x :: P) K p hp]
    refine bL_cg (fun q L _ => ?_)
    rw [show dE (x :: P) (K ++ L) o = (x :: P, K ++ L, o) from if_pos (by omega)]
    exact RC_m hx
  have hc1 : ∀ p, (tx_k g n p = 3 ∧ g (tx_a g n p) = 42 → opS g n p ∧ opC g n p = 3 ∧ opL g n p = 3) ∧ (tx_k g n p = 3 ∧ g (tx_a g n p) = 47 → opS g n p ∧ opC g n p = 4 ∧ opL g n p = 3) := by
    intro p
    refine ⟨fun r => ⟨⟨r.1, Or.inl r.2⟩, if_pos r.2, if_pos (Or.inl r.2)⟩, fun r => ⟨⟨r.1, Or.inr (Or.inl r.2)⟩, ?_, if_pos (Or.inr r.2)⟩⟩
    unfold opC
    rw [if_neg (by have := r.2; omega), if_pos r.2]
  have hpr : cpN g n al o 3 (sL g n S 42 47 3 4) := sL_eq hE (hN 3) hM hc1
  have hpE := sL_end (g := g) (c1 := 42) (c2 := 47) (o1 := 3) (o2 := 4) hn hE
  have hA : ∀ x, x = 1 ∨ x = 2 → ∀ (P K : List Int) (p : Nat), p ≤ n → tpN 1 P → RC g n al true (x :: P) K o p = bL (sL g n S 42 47 3 4 p) (fun q L => RC g n al false P (K ++ L ++ [x]) o q) := by
    intro x hx P K p hp hT
    rw [hpr (x :: P) K p hp ⟨by omega, by omega⟩]
    refine bL_cg (fun q L e => ?_)
    have h5 := (hpE p q L hp e).2.2
    exact RC_a hx (fun r => r.2.elim (fun s => h5.2.1 ⟨r.1, s⟩) (fun s => h5.2.2 ⟨r.1, s⟩))
  have hc2 : ∀ p, (tx_k g n p = 3 ∧ g (tx_a g n p) = 43 → opS g n p ∧ opC g n p = 1 ∧ opL g n p = 1) ∧ (tx_k g n p = 3 ∧ g (tx_a g n p) = 45 → opS g n p ∧ opC g n p = 2 ∧ opL g n p = 1) := by
    intro p
    refine ⟨fun r => ⟨⟨r.1, Or.inr (Or.inr (Or.inl r.2))⟩, ?_, if_neg (by have := r.2; omega)⟩, fun r => ⟨⟨r.1, Or.inr (Or.inr (Or.inr r.2))⟩, ?_, if_neg (by have := r.2; omega)⟩⟩
    · unfold opC
      rw [if_neg (by have := r.2; omega), if_neg (by have := r.2; omega), if_pos r.2]
    · unfold opC
      rw [if_neg (by have := r.2; omega), if_neg (by have := r.2; omega), if_neg (by have := r.2; omega)]
  refine ⟨sL_eq hpE (fun P K p hp hT => hpr P K p hp ?_) hA hc2, ?_⟩
  · cases P with
    | nil => exact True.intro
    | cons x P => exact ⟨hT.1, fun r => hT.2 ⟨by omega, r.2⟩⟩
  · have hsE := sL_end (g := g) (c1 := 43) (c2 := 45) (o1 := 1) (o2 := 2) hn hpE
    intro p q L hp e
    obtain ⟨a1, a2, a3, a4, a5⟩ := hsE p q L hp e
    refine ⟨a1, a2, fun r => ?_⟩
    rcases r.2 with x | x | x | x
    · exact a3.2.1 ⟨r.1, x⟩
    · exact a3.2.2 ⟨r.1, x⟩
    · exact a4 ⟨r.1, x⟩
    · exact a5 ⟨r.1, x⟩
theorem part_endM (d : Nat) : endM n (fun _ => True) (mPart g n al d) := rlA_end (part_r d) (sPart_ok d) (fun _ _ _ _ _ => True.intro)
theorem P_allC (hn : n ≤ 1600) : ∀ d : Nat, d ≤ 6 → cpP g n al (6 - (d : Int)) (mPart g n al d)
  | 0, _ => partC_eq (fun _ => rfl) (fun r => Bool.noConfusion r) (fun r => Bool.noConfusion r)
  | d + 1, hd => by
    have h1 := P_allC hn d (by omega)
    have e : (6 - ((d + 1 : Nat) : Int)) + 1 = 6 - (d : Int) := by omega
    have h2 := sumC_cl hn h1 (part_endM d)
    refine partC_eq (fun r => Bool.noConfusion r) (fun _ => ⟨by omega, ?_⟩) (fun _ => ?_)
    · rw [e]
      exact h2
    · rw [e]
      exact h1
theorem S_allC (hn : n ≤ 1600) (d : Nat) (hd : d ≤ 6) : cpN g n al (6 - (d : Int)) 1 (mSum g n al d) ∧ endM n (fun q => ¬ opS g n q) (mSum g n al d) := sumC_cl hn (P_allC hn d hd) (part_endM d)
/-- a sum's codes read by the machine are those read level by level -/
theorem sumC_eq (hn : n ≤ 1600) (d : Nat) (hd : d ≤ 6) (p : Nat) (K : List Int) (hp : p ≤ n) : RC g n al true [] K (6 - (d : Int)) p = bL (mSum g n al d p) (fun q L => .inr (q, K ++ L)) := by
  have h := S_allC (g := g) (al := al) hn d hd
  rw [h.1 [] K p hp True.intro]
  refine bL_cg (fun q L e => ?_)
  have h2 := h.2 p q L hp e
  rw [RC_nd h2.2.2 rfl, List.append_nil]
end RC4
