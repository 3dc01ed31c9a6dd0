/-! the same for tests: what is open are squares (25) and nots (12) -/
def ntD : List Int → Int → List Int × Int
  | [], o => ([], o)
  | x :: T, o => if x = 12 then ntD T (o - 1) else (x :: T, o)
/-- a fact without square or not, 6 - o more may open -/
def fcS (g : Nat → Int) (n : Nat) (al : Int) (o : Int) (p : Nat) : ST := if ¬ wl g n ws_16 p = -1 then .inr (tx_e g n p) else sb (RR g n al true [] o p) (fun p1 => sb (sp_sg g n p1).2 (fun p2 => RR g n al true [] o p2))
def tMem (T : List Int) : Bool := T.any (fun x => decide (x = 25))
def tPop : List Int → List Int
  | [] => []
  | x :: T => if x = 25 then T else tPop T
def mT (g : Nat → Int) (n : Nat) (al : Int) : Nat → Bool → List Int → Int → Nat → ST
  | 0, _, _, _, _ => .inl (0, 0)
  | f + 1, true, T, o, p => if tx_k g n p = 3 ∧ g (tx_a g n p) = 91 then (if o = 6 then .inl (4, (tx_a g n p : Int)) else mT g n al f true (25 :: T) (o + 1) (tx_e g n p)) else if ¬ wl g n ws_15 p = -1 then (if o = 6 then .inl (4, (tx_a g n p : Int)) else mT g n al f true (12 :: T) (o + 1) (tx_e g n p)) else sb (fcS g n al o p) (fun p2 => mT g n al f false (ntD T o).1 (ntD T o).2 p2)
  | f + 1, false, T, o, p => if (tx_k g n p = 3 ∧ g (tx_a g n p) = 93) ∧ tMem T = true then mT g n al f false (ntD (tPop T) (o - 1)).1 (ntD (tPop T) (o - 1)).2 (tx_e g n p) else if ¬ wl g n ws_14 p = -1 ∨ ¬ wl g n ws_13 p = -1 then mT g n al f true T o (tx_e g n p) else if tMem T = true then .inl (1, (tx_a g n p : Int)) else .inr p
section EQ4
variable {g : Nat → Int} {n : Nat} {al : Int}
theorem fcS_ok (hn : n ≤ 1600) (d : Nat) (hd : d ≤ 6) (c : CD) {p : Nat} (hp : p ≤ n) : sv n (fcS g n al (6 - (d : Int)) p) ∧ ∀ q, fcS g n al (6 - (d : Int)) p = .inr q → p < q := by
  unfold fcS
  split
  · rename_i k
    refine ⟨tx_e_le hp, fun q r => ?_⟩
    cases r
    exact tx_e_gt' (by have := wl_k k; omega)
  · rw [sum_eq hn d hd p c hp]
    have h1 := sSum_ok (g := g) (al := al) d p c hp
    cases e1 : (sSum g n al d p c).1 with
    | inl x =>
      rw [e1] at h1
      exact ⟨h1.1, fun q r => by cases r⟩
    | inr p1 =>
      rw [e1] at h1
      have l1 := h1.2 p1 rfl
      have l1n : p1 ≤ n := h1.1
      show sv n (sb (sp_sg g n p1).2 _) ∧ ∀ q, sb (sp_sg g n p1).2 _ = .inr q → p < q
      have h2 := sp_sg_v (g := g) l1n
      cases e2 : (sp_sg g n p1).2 with
      | inl x =>
        rw [e2] at h2
        exact ⟨h2, fun q r => by cases r⟩
      | inr p2 =>
        rw [e2] at h2
        have l2 := sp_sg_gt e2
        have l2n : p2 ≤ n := h2
        show sv n (RR g n al true [] (6 - (d : Int)) p2) ∧ ∀ q, RR g n al true [] (6 - (d : Int)) p2 = .inr q → p < q
        rw [sum_eq hn d hd p2 c l2n]
        have h3 := sSum_ok (g := g) (al := al) d p2 c l2n
        exact ⟨h3.1, fun q r => by have := h3.2 q r; omega⟩
/-- a comparison read by the machine -/
theorem fc_eq (hn : n ≤ 1600) (d : Nat) (hd : d ≤ 6) (c : CD) {p : Nat} (hp : p ≤ n) (K : Nat → ST) : sb (fcS g n al (6 - (d : Int)) p) K = sb (if ¬ wl g n ws_16 p = -1 then (.inr (tx_e g n p), em c 1) else spCmp g n (sSum g n al d) p c : ST × CD).1 K := by
  unfold fcS spCmp
  by_cases q : wl g n ws_16 p = -1
  · rw [if_neg (fun r => r q), if_neg (fun r => r q), sum_eq hn d hd p c hp]
    have h1 := sSum_ok (g := g) (al := al) d p c hp
    show sb _ K = sb (sbC (sbv (sSum g n al d p c).1 (sp_sg g n) (-28)).2 (sSum g n al d p c).2 (sSum g n al d)).1 K
    cases e1 : (sSum g n al d p c).1 with
    | inl x => rfl
    | inr p1 =>
      rw [e1] at h1
      have l1n : p1 ≤ n := h1.1
      show sb (sb (sp_sg g n p1).2 _) K = sb (sbC (sp_sg g n p1).2 (sSum g n al d p c).2 (sSum g n al d)).1 K
      have h2 := sp_sg_v (g := g) l1n
      cases e2 : (sp_sg g n p1).2 with
      | inl x => rfl
      | inr p2 =>
        rw [e2] at h2
        show sb (RR g n al true [] (6 - (d : Int)) p2) K = sb (sSum g n al d p2 (sSum g n al d p c).2).1 K
        rw [sum_eq hn d hd p2 (sSum g n al d p c).2 h2]
  · rw [if_pos q, if_pos q]
end EQ4
