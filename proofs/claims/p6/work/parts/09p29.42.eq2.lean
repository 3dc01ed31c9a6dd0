section EQ
variable {g : Nat → Int} {n : Nat} {al : Int}
theorem RR_tu {T : List Int} {o : Int} {p : Nat} : RR g n al true T o p = (if tx_k g n p = 3 ∧ g (tx_a g n p) = 40 then (if o = 6 then .inl (4, (tx_a g n p : Int)) else mR g n al (n - p) true (20 :: T) (o + 1) (tx_e g n p)) else if ¬ wl g n ws_17 p = -1 then (if tx_k g n (tx_e g n p) = 3 ∧ g (tx_a g n (tx_e g n p)) = 40 then (if o = 6 then .inl (4, (tx_a g n (tx_e g n p) : Int)) else mR g n al (n - p) true (21 :: T) (o + 1) (tx_e g n (tx_e g n p))) else .inl (1, (tx_a g n (tx_e g n p) : Int))) else if ¬ wl g n ws_18 p = -1 then (if tx_k g n (tx_e g n p) = 3 ∧ g (tx_a g n (tx_e g n p)) = 40 then (if o = 6 then .inl (4, (tx_a g n (tx_e g n p) : Int)) else mR g n al (n - p) true (22 :: T) (o + 1) (tx_e g n (tx_e g n p))) else .inl (1, (tx_a g n (tx_e g n p) : Int))) else if al = 3707 ∧ ¬ wl g n ws_19 p = -1 then (if o = 6 then .inl (4, (tx_a g n p : Int)) else mR g n al (n - p) true (60 :: T) (o + 1) (tx_e g n p)) else sb (atS g n al p) (fun p2 => mR g n al (n - p) false (eoD T o).1 (eoD T o).2 p2)) := rfl
theorem RR_fu {T : List Int} {o : Int} {p : Nat} : RR g n al false T o p = (if (tx_k g n p = 3 ∧ g (tx_a g n p) = 41) ∧ (brT T = 20 ∨ brT T = 23 ∨ brT T = 24) then mR g n al (n - p) false (eoD (drT T).tail (o - 1)).1 (eoD (drT T).tail (o - 1)).2 (tx_e g n p) else if tx_k g n p = 3 ∧ (g (tx_a g n p) = 42 ∨ g (tx_a g n p) = 47 ∨ g (tx_a g n p) = 43 ∨ g (tx_a g n p) = 45) then mR g n al (n - p) true T o (tx_e g n p) else if brT T = 21 ∨ brT T = 22 then (if tx_k g n p = 3 ∧ g (tx_a g n p) = 44 then mR g n al (n - p) true (cmT T) o (tx_e g n p) else .inl (1, (tx_a g n p : Int))) else if brT T = -1 then .inr p else .inl (1, (tx_a g n p : Int))) := rfl
theorem RR_o1 {T : List Int} {o : Int} {p : Nat} (hp : p ≤ n) (c : tx_k g n p = 3 ∧ g (tx_a g n p) = 40) (ho : ¬ o = 6) : RR g n al true T o p = RR g n al true (20 :: T) (o + 1) (tx_e g n p) := by
  have hlt : p < tx_e g n p := tx_e_gt' (by omega)
  rw [← RR_f (p := p) (tx_e_le hp) hlt]
  rw [RR_tu, if_pos c, if_neg ho]
theorem RR_o6 {T : List Int} {p : Nat} (c : tx_k g n p = 3 ∧ g (tx_a g n p) = 40) : RR g n al true T 6 p = .inl (4, (tx_a g n p : Int)) := by
  rw [RR_tu, if_pos c, if_pos rfl]
/-- what stands behind min or max -/
def mmB (g : Nat → Int) (n : Nat) (al : Int) (x : Int) (T : List Int) (o : Int) (p1 : Nat) : ST := if tx_k g n p1 = 3 ∧ g (tx_a g n p1) = 40 then (if o = 6 then .inl (4, (tx_a g n p1 : Int)) else RR g n al true (x :: T) (o + 1) (tx_e g n p1)) else .inl (1, (tx_a g n p1 : Int))
theorem k1_no {p : Nat} {c : Int} (h : tx_k g n p = 1) : ¬ (tx_k g n p = 3 ∧ g (tx_a g n p) = c) := fun r => by have := r.1; omega
theorem RR_mm {T : List Int} {o : Int} {p : Nat} (hp : p ≤ n) (c : ¬ wl g n ws_17 p = -1) : RR g n al true T o p = mmB g n al 21 T o (tx_e g n p) := by
  have hk := wl_k c
  have hlt : p < tx_e g n p := tx_e_gt' (by omega)
  have hle := tx_e_le (f := g) hp
  unfold mmB
  by_cases c5 : tx_k g n (tx_e g n p) = 3 ∧ g (tx_a g n (tx_e g n p)) = 40
  · have hlt2 : tx_e g n p < tx_e g n (tx_e g n p) := tx_e_gt' (by omega)
    rw [← RR_f (p := p) (tx_e_le hle) (by omega)]
    rw [RR_tu, if_neg (k1_no hk), if_pos c, if_pos c5]
  · unfold RR mR
    rw [if_neg (k1_no hk), if_pos c, if_neg c5, if_neg c5]
theorem RR_mx {T : List Int} {o : Int} {p : Nat} (hp : p ≤ n) (c0 : wl g n ws_17 p = -1) (c : ¬ wl g n ws_18 p = -1) : RR g n al true T o p = mmB g n al 22 T o (tx_e g n p) := by
  have hk := wl_k c
  have hlt : p < tx_e g n p := tx_e_gt' (by omega)
  have hle := tx_e_le (f := g) hp
  unfold mmB
  by_cases c5 : tx_k g n (tx_e g n p) = 3 ∧ g (tx_a g n (tx_e g n p)) = 40
  · have hlt2 : tx_e g n p < tx_e g n (tx_e g n p) := tx_e_gt' (by omega)
    rw [← RR_f (p := p) (tx_e_le hle) (by omega)]
    rw [RR_tu, if_neg (k1_no hk), if_neg (show ¬ ¬ wl g n ws_17 p = -1 from fun r => r c0), if_pos c, if_pos c5]
  · unfold RR mR
    rw [if_neg (k1_no hk), if_neg (show ¬ ¬ wl g n ws_17 p = -1 from fun r => r c0), if_pos c, if_neg c5, if_neg c5]
theorem RR_k1 {T : List Int} {o : Int} {p : Nat} (hp : p ≤ n) (c0 : wl g n ws_17 p = -1) (c1 : wl g n ws_18 p = -1) (c : al = 3707 ∧ ¬ wl g n ws_19 p = -1) (ho : ¬ o = 6) : RR g n al true T o p = RR g n al true (60 :: T) (o + 1) (tx_e g n p) := by
  have hk := wl_k c.2
  have hlt : p < tx_e g n p := tx_e_gt' (by omega)
  rw [← RR_f (p := p) (tx_e_le hp) hlt]
  rw [RR_tu, if_neg (k1_no hk), if_neg (show ¬ ¬ wl g n ws_17 p = -1 from fun r => r c0), if_neg (show ¬ ¬ wl g n ws_18 p = -1 from fun r => r c1), if_pos c, if_neg ho]
theorem RR_k6 {T : List Int} {p : Nat} (c0 : wl g n ws_17 p = -1) (c1 : wl g n ws_18 p = -1) (c : al = 3707 ∧ ¬ wl g n ws_19 p = -1) : RR g n al true T 6 p = .inl (4, (tx_a g n p : Int)) := by
  have hk := wl_k c.2
  rw [RR_tu, if_neg (k1_no hk), if_neg (show ¬ ¬ wl g n ws_17 p = -1 from fun r => r c0), if_neg (show ¬ ¬ wl g n ws_18 p = -1 from fun r => r c1), if_pos c, if_pos rfl]
theorem RR_at {T : List Int} {o : Int} {p : Nat} (hp : p ≤ n) (c : ¬ (tx_k g n p = 3 ∧ g (tx_a g n p) = 40)) (c0 : wl g n ws_17 p = -1) (c1 : wl g n ws_18 p = -1) (c2 : ¬ (al = 3707 ∧ ¬ wl g n ws_19 p = -1)) : RR g n al true T o p = sb (atS g n al p) (fun p2 => RR g n al false (eoD T o).1 (eoD T o).2 p2) := by
  have e : sb (atS g n al p) (fun p2 => RR g n al false (eoD T o).1 (eoD T o).2 p2) = sb (atS g n al p) (fun p2 => mR g n al (n - p) false (eoD T o).1 (eoD T o).2 p2) := sb_cg (fun q e => (RR_f (p := p) (sv_le (atS_v (al := al) hp) e) (atS_gt hp e)).symm)
  rw [e]
  rw [RR_tu, if_neg c, if_neg (show ¬ ¬ wl g n ws_17 p = -1 from fun r => r c0), if_neg (show ¬ ¬ wl g n ws_18 p = -1 from fun r => r c1), if_neg c2]
theorem RR_cl {T : List Int} {o : Int} {p : Nat} (hp : p ≤ n) (c : tx_k g n p = 3 ∧ g (tx_a g n p) = 41) (hT : brT T = 20 ∨ brT T = 23 ∨ brT T = 24) : RR g n al false T o p = RR g n al false (eoD (drT T).tail (o - 1)).1 (eoD (drT T).tail (o - 1)).2 (tx_e g n p) := by
  have hlt : p < tx_e g n p := tx_e_gt' (by omega)
  rw [← RR_f (p := p) (tx_e_le hp) hlt]
  rw [RR_fu, if_pos ⟨c, hT⟩]
theorem RR_op {T : List Int} {o : Int} {p : Nat} (hp : p ≤ n) (c : opS g n p) : RR g n al false T o p = RR g n al true T o (tx_e g n p) := by
  have hk := c.1
  have hlt : p < tx_e g n p := tx_e_gt' (by omega)
  rw [← RR_f (p := p) (tx_e_le hp) hlt]
  rw [RR_fu, if_neg (fun r => by have h1 := r.1.2; have h2 := c.2; omega), if_pos (show tx_k g n p = 3 ∧ (g (tx_a g n p) = 42 ∨ g (tx_a g n p) = 47 ∨ g (tx_a g n p) = 43 ∨ g (tx_a g n p) = 45) from c)]
theorem RR_cm {T : List Int} {o : Int} {p : Nat} (hp : p ≤ n) (c : ¬ opS g n p) (hT : brT T = 21 ∨ brT T = 22) : RR g n al false T o p = if tx_k g n p = 3 ∧ g (tx_a g n p) = 44 then RR g n al true (cmT T) o (tx_e g n p) else .inl (1, (tx_a g n p : Int)) := by
  by_cases c4 : tx_k g n p = 3 ∧ g (tx_a g n p) = 44
  · have hlt : p < tx_e g n p := tx_e_gt' (by omega)
    rw [← RR_f (p := p) (tx_e_le hp) hlt]
    rw [RR_fu, if_neg (fun r => by have := r.2; omega), if_neg (show ¬ (tx_k g n p = 3 ∧ (g (tx_a g n p) = 42 ∨ g (tx_a g n p) = 47 ∨ g (tx_a g n p) = 43 ∨ g (tx_a g n p) = 45)) from c), if_pos hT]
  · rw [if_neg c4]
    rw [RR_fu, if_neg (fun r => by have := r.2; omega), if_neg (show ¬ (tx_k g n p = 3 ∧ (g (tx_a g n p) = 42 ∨ g (tx_a g n p) = 47 ∨ g (tx_a g n p) = 43 ∨ g (tx_a g n p) = 45)) from c), if_pos hT, if_neg c4]
theorem RR_nd {T : List Int} {o : Int} {p : Nat} (c : ¬ opS g n p) (hT : brT T = -1) : RR g n al false T o p = .inr p := by
  rw [RR_fu, if_neg (fun r => by have := r.2; omega), if_neg (show ¬ (tx_k g n p = 3 ∧ (g (tx_a g n p) = 42 ∨ g (tx_a g n p) = 47 ∨ g (tx_a g n p) = 43 ∨ g (tx_a g n p) = 45)) from c), if_neg (by omega), if_pos hT]
theorem RR_bd {T : List Int} {o : Int} {p : Nat} (c0 : ¬ (tx_k g n p = 3 ∧ g (tx_a g n p) = 41)) (c : ¬ opS g n p) (h1 : ¬ (brT T = 21 ∨ brT T = 22)) (h2 : ¬ brT T = -1) : RR g n al false T o p = .inl (1, (tx_a g n p : Int)) := by
  rw [RR_fu, if_neg (fun r => c0 r.1), if_neg (show ¬ (tx_k g n p = 3 ∧ (g (tx_a g n p) = 42 ∨ g (tx_a g n p) = 47 ∨ g (tx_a g n p) = 43 ∨ g (tx_a g n p) = 45)) from c), if_neg h1, if_neg h2]
/-- behind the last sum in a bracket -/
theorem RR_br {x : Int} {T : List Int} {o : Int} {p : Nat} (hp : p ≤ n) (c : ¬ opS g n p) (hx : x = 20 ∨ x = 23 ∨ x = 24) : RR g n al false (x :: T) (o + 1) p = sb (sp_need g n 41 p) (fun p2 => RR g n al false (eoD T o).1 (eoD T o).2 p2) := by
  have hb : brT (x :: T) = x := by
    rcases hx with e | e | e <;> (subst e; rfl)
  have hd : drT (x :: T) = x :: T := by
    rcases hx with e | e | e <;> (subst e; rfl)
  by_cases q : tx_k g n p = 3 ∧ g (tx_a g n p) = 41
  · rw [RR_cl hp q (by rw [hb]; exact hx), hd, show sp_need g n 41 p = .inr (tx_e g n p) from if_pos q, show o + 1 - 1 = o from by omega]
    rfl
  · rw [RR_bd q c (by rw [hb]; omega) (by rw [hb]; omega), show sp_need g n 41 p = .inl (1, (tx_a g n p : Int)) from if_neg q]
    rfl
/-- a sum and its end, one level deeper -/
def clS (g : Nat → Int) (n : Nat) (al : Int) (o : Int) (S : Nat → CD → ST × CD) : Prop := (∀ (T : List Int) (p : Nat) (c : CD), p ≤ n → (∀ k, eoD T k = (T, k)) → RR g n al true T o p = sb (S p c).1 (fun p2 => RR g n al false T o p2)) ∧ ∀ (p : Nat) (c : CD) (q : Nat), p ≤ n → (S p c).1 = .inr q → q ≤ n ∧ ¬ opS g n q
def clP (g : Nat → Int) (n : Nat) (al : Int) (o : Int) (P : Nat → CD → ST × CD) : Prop := ∀ (T : List Int) (p : Nat) (c : CD), p ≤ n → RR g n al true T o p = sb (P p c).1 (fun p2 => RR g n al false (eoD T o).1 (eoD T o).2 p2)
theorem mm_eq {x : Int} {b : Bool} {S : Nat → CD → ST × CD} {op o : Int} (hx : x = 21 ∨ x = 22) (h6 : b = false → o = 6) (h7 : b = true → ¬ o = 6 ∧ clS g n al (o + 1) S) (T : List Int) (p : Nat) (c : CD) (hp : p ≤ n) : mmB g n al x T o p = sb (sp_pair g n b S op p c).1 (fun p2 => RR g n al false (eoD T o).1 (eoD T o).2 p2) := by
  unfold mmB sp_pair
  by_cases q : tx_k g n p = 3 ∧ g (tx_a g n p) = 40
  · rw [if_pos q, if_pos q]
    cases b with
    | false =>
      rw [if_pos (h6 rfl), opn_f]
      rfl
    | true =>
      obtain ⟨ho, hS, hE⟩ := h7 rfl
      have hle := tx_e_le (f := g) hp
      have n60 : ∀ (y : Int), y < 60 → ∀ k, eoD (y :: T) k = (y :: T, k) := fun y hy k => if_pos hy
      rw [if_neg ho, opn_t, hS (x :: T) (tx_e g n p) c hle (n60 x (by omega))]
      cases e1 : (S (tx_e g n p) c).1 with
      | inl y => rfl
      | inr p1 =>
        obtain ⟨l1, o1⟩ := hE (tx_e g n p) c p1 hle e1
        show RR g n al false (x :: T) (o + 1) p1 = sb (sb (sbC (sp_need g n 44 p1) (S (tx_e g n p) c).2 S).1 (sp_need g n 41)) _
        have hb : brT (x :: T) = x := by
          rcases hx with e | e <;> (subst e; rfl)
        have hc : cmT (x :: T) = (x + 2) :: T := by
          rcases hx with e | e <;> (subst e; rfl)
        rw [RR_cm l1 o1 (by rw [hb]; exact hx), hc]
        by_cases q2 : tx_k g n p1 = 3 ∧ g (tx_a g n p1) = 44
        · have hle1 := tx_e_le (f := g) l1
          rw [if_pos q2, show sp_need g n 44 p1 = .inr (tx_e g n p1) from if_pos q2, hS ((x + 2) :: T) (tx_e g n p1) (S (tx_e g n p) c).2 hle1 (n60 (x + 2) (by omega))]
          show sb (S (tx_e g n p1) (S (tx_e g n p) c).2).1 _ = sb (sb (S (tx_e g n p1) (S (tx_e g n p) c).2).1 (sp_need g n 41)) _
          cases e2 : (S (tx_e g n p1) (S (tx_e g n p) c).2).1 with
          | inl y => rfl
          | inr p2 =>
            obtain ⟨l2, o2⟩ := hE (tx_e g n p1) (S (tx_e g n p) c).2 p2 hle1 e2
            exact RR_br l2 o2 (by omega)
        · rw [if_neg q2, show sp_need g n 44 p1 = .inl (1, (tx_a g n p1 : Int)) from if_neg q2]
          rfl
  · rw [if_neg q, if_neg q]
    rfl
theorem pw_i {p : Nat} (c c2 : CD) : (sp_pw g n al p c).1 = (sp_pw g n al p c2).1 := by
  unfold sp_pw
  split
  · rfl
  · rfl
theorem part_eq {b : Bool} {S P : Nat → CD → ST × CD} {o : Int} (h6 : b = false → o = 6) (h7 : b = true → ¬ o = 6 ∧ clS g n al (o + 1) S) (h8 : b = true → clP g n al (o + 1) P) : clP g n al o (sp_partD g n al b S P) := by
  intro T p c hp
  have hle := tx_e_le (f := g) hp
  unfold sp_partD
  by_cases q0 : tx_k g n p = 2
  · have n1 : ∀ ws, wl g n ws p = -1 := fun ws => by
      unfold wl
      rw [if_neg (by omega)]
    rw [if_pos q0, RR_at hp (fun r => by omega) (n1 _) (n1 _) (fun r => r.2 (n1 _)), show atS g n al p = (sp_num g n 0 9999 p).2 from if_pos q0]
  · rw [if_neg q0]
    by_cases q1 : tx_k g n p = 3 ∧ g (tx_a g n p) = 40
    · rw [if_pos q1]
      cases b with
      | false =>
        rw [h6 rfl, RR_o6 q1, opn_f]
        rfl
      | true =>
        obtain ⟨ho, hS, hE⟩ := h7 rfl
        rw [RR_o1 hp q1 ho, opn_t, hS (20 :: T) (tx_e g n p) c hle (fun k => if_pos (by decide))]
        cases e1 : (S (tx_e g n p) c).1 with
        | inl y => rfl
        | inr p1 =>
          obtain ⟨l1, o1⟩ := hE (tx_e g n p) c p1 hle e1
          exact RR_br l1 o1 (Or.inl rfl)
    · rw [if_neg q1]
      by_cases q2 : wl g n ws_17 p = -1
      · rw [if_neg (show ¬ ¬ wl g n ws_17 p = -1 from fun r => r q2)]
        by_cases q3 : wl g n ws_18 p = -1
        · rw [if_neg (show ¬ ¬ wl g n ws_18 p = -1 from fun r => r q3)]
          by_cases q4 : al = 3707 ∧ ¬ wl g n ws_19 p = -1
          · rw [if_pos q4]
            cases b with
            | false =>
              rw [h6 rfl, RR_k6 q2 q3 q4, opn_f]
              rfl
            | true =>
              rw [RR_k1 hp q2 q3 q4 (h7 rfl).1, opn_t, h8 rfl (60 :: T) (tx_e g n p) c hle]
              have e9 : eoD (60 :: T) (o + 1) = eoD T o := by
                show (if (60 : Int) < 60 then ((60 :: T), o + 1) else eoD T (o + 1 - 1)) = eoD T o
                rw [if_neg (by decide), show o + 1 - 1 = o from by omega]
              rw [e9]
          · rw [if_neg q4, RR_at hp q1 q2 q3 q4, show atS g n al p = (sp_pw g n al p (0, fun _ => 0)).1 from if_neg q0, pw_i _ c]
        · rw [if_pos q3, RR_mx hp q2 q3]
          exact mm_eq (Or.inr rfl) h6 h7 T (tx_e g n p) c hle
      · rw [if_pos q2, RR_mm hp q2]
        exact mm_eq (Or.inl rfl) h6 h7 T (tx_e g n p) c hle
end EQ
