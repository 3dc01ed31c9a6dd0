/-! the model's way to read a sum: a machine with what is open as a list (operators left out) -/
def atS (g : Nat → Int) (n : Nat) (al : Int) (p : Nat) : ST := if tx_k g n p = 2 then (sp_num g n 0 9999 p).2 else (sp_pw g n al p (0, fun _ => 0)).1
def cmT (T : List Int) : List Int := match drT T with
  | [] => []
  | x :: U => (x + 2) :: U
def opS (g : Nat → Int) (n p : Nat) : Prop := tx_k g n p = 3 ∧ (g (tx_a g n p) = 42 ∨ g (tx_a g n p) = 47 ∨ g (tx_a g n p) = 43 ∨ g (tx_a g n p) = 45)
def mR (g : Nat → Int) (n : Nat) (al : Int) : Nat → Bool → List Int → Int → Nat → ST
  | 0, _, _, _, _ => .inl (0, 0)
  | f + 1, true, T, o, p => if tx_k g n p = 3 ∧ g (tx_a g n p) = 40 then (if o = 6 then .inl (4, (tx_a g n p : Int)) else mR g n al f true (20 :: T) (o + 1) (tx_e g n p)) else if ¬ wl g n ws_17 p = -1 then (if tx_k g n (tx_e g n p) = 3 ∧ g (tx_a g n (tx_e g n p)) = 40 then (if o = 6 then .inl (4, (tx_a g n (tx_e g n p) : Int)) else mR g n al f true (21 :: T) (o + 1) (tx_e g n (tx_e g n p))) else .inl (1, (tx_a g n (tx_e g n p) : Int))) else if ¬ wl g n ws_18 p = -1 then (if tx_k g n (tx_e g n p) = 3 ∧ g (tx_a g n (tx_e g n p)) = 40 then (if o = 6 then .inl (4, (tx_a g n (tx_e g n p) : Int)) else mR g n al f true (22 :: T) (o + 1) (tx_e g n (tx_e g n p))) else .inl (1, (tx_a g n (tx_e g n p) : Int))) else if al = 3707 ∧ ¬ wl g n ws_19 p = -1 then (if o = 6 then .inl (4, (tx_a g n p : Int)) else mR g n al f true (60 :: T) (o + 1) (tx_e g n p)) else sb (atS g n al p) (fun p2 => mR g n al f false (eoD T o).1 (eoD T o).2 p2)
  | f + 1, false, T, o, p => if (tx_k g n p = 3 ∧ g (tx_a g n p) = 41) ∧ (brT T = 20 ∨ brT T = 23 ∨ brT T = 24) then mR g n al f false (eoD (drT T).tail (o - 1)).1 (eoD (drT T).tail (o - 1)).2 (tx_e g n p) else if tx_k g n p = 3 ∧ (g (tx_a g n p) = 42 ∨ g (tx_a g n p) = 47 ∨ g (tx_a g n p) = 43 ∨ g (tx_a g n p) = 45) then mR g n al f true T o (tx_e g n p) else if brT T = 21 ∨ brT T = 22 then (if tx_k g n p = 3 ∧ g (tx_a g n p) = 44 then mR g n al f true (cmT T) o (tx_e g n p) else .inl (1, (tx_a g n p : Int))) else if brT T = -1 then .inr p else .inl (1, (tx_a g n p : Int))
theorem atS_v {g : Nat → Int} {n p : Nat} {al : Int} (hp : p ≤ n) : sv n (atS g n al p) := by
  unfold atS
  split
  · exact sp_num_v 0 9999 hp
  · exact (pw_ok p _ hp).1
theorem atS_gt {g : Nat → Int} {n p q : Nat} {al : Int} (hp : p ≤ n) (h : atS g n al p = .inr q) : p < q := by
  unfold atS at h
  split at h
  · exact sp_num_gt h
  · exact (pw_ok p _ hp).2 q h
theorem sb_cg {s : ST} {k k2 : Nat → ST} (h : ∀ q, s = .inr q → k q = k2 q) : sb s k = sb s k2 := by
  cases s with
  | inl x => rfl
  | inr p => exact h p rfl
/-- enough fuel is enough -/
theorem mR_f {g : Nat → Int} {n : Nat} {al : Int} : ∀ (f f2 : Nat) (m : Bool) (T : List Int) (o : Int) (p : Nat), p ≤ n → n - p < f → n - p < f2 → mR g n al f m T o p = mR g n al f2 m T o p := by
  intro f
  induction f with
  | zero => intro f2 m T o p h1 h2; omega
  | succ f ih =>
    intro f2 m T o p hp h2 h3
    obtain ⟨f2, rfl⟩ : ∃ k, f2 = k + 1 := ⟨f2 - 1, by omega⟩
    have hle := tx_e_le (f := g) hp
    have hle2 := tx_e_le (f := g) hle
    cases m with
    | true =>
      unfold mR
      by_cases c1 : tx_k g n p = 3 ∧ g (tx_a g n p) = 40
      · have hlt : p < tx_e g n p := tx_e_gt' (by omega)
        rw [if_pos c1, if_pos c1, ih f2 true (20 :: T) (o + 1) (tx_e g n p) hle (by omega) (by omega)]
      · rw [if_neg c1, if_neg c1]
        by_cases c2 : wl g n ws_17 p = -1
        · rw [if_neg (show ¬ ¬ wl g n ws_17 p = -1 from fun r => r c2), if_neg (show ¬ ¬ wl g n ws_17 p = -1 from fun r => r c2)]
          by_cases c3 : wl g n ws_18 p = -1
          · rw [if_neg (show ¬ ¬ wl g n ws_18 p = -1 from fun r => r c3), if_neg (show ¬ ¬ wl g n ws_18 p = -1 from fun r => r c3)]
            by_cases c4 : al = 3707 ∧ ¬ wl g n ws_19 p = -1
            · have hlt : p < tx_e g n p := tx_e_gt' (by have := wl_k c4.2; omega)
              rw [if_pos c4, if_pos c4, ih f2 true (60 :: T) (o + 1) (tx_e g n p) hle (by omega) (by omega)]
            · rw [if_neg c4, if_neg c4]
              refine sb_cg (fun q e => ?_)
              have h5 := atS_gt hp e
              have h6 := sv_le (atS_v (al := al) hp) e
              exact ih f2 false _ _ q h6 (by omega) (by omega)
          · have hlt : p < tx_e g n p := tx_e_gt' (by have := wl_k c3; omega)
            rw [if_pos c3, if_pos c3]
            by_cases c5 : tx_k g n (tx_e g n p) = 3 ∧ g (tx_a g n (tx_e g n p)) = 40
            · have hlt2 : tx_e g n p < tx_e g n (tx_e g n p) := tx_e_gt' (by omega)
              rw [if_pos c5, if_pos c5, ih f2 true (22 :: T) (o + 1) (tx_e g n (tx_e g n p)) hle2 (by omega) (by omega)]
            · rw [if_neg c5, if_neg c5]
        · have hlt : p < tx_e g n p := tx_e_gt' (by have := wl_k c2; omega)
          rw [if_pos c2, if_pos c2]
          by_cases c5 : tx_k g n (tx_e g n p) = 3 ∧ g (tx_a g n (tx_e g n p)) = 40
          · have hlt2 : tx_e g n p < tx_e g n (tx_e g n p) := tx_e_gt' (by omega)
            rw [if_pos c5, if_pos c5, ih f2 true (21 :: T) (o + 1) (tx_e g n (tx_e g n p)) hle2 (by omega) (by omega)]
          · rw [if_neg c5, if_neg c5]
    | false =>
      unfold mR
      by_cases c1 : (tx_k g n p = 3 ∧ g (tx_a g n p) = 41) ∧ (brT T = 20 ∨ brT T = 23 ∨ brT T = 24)
      · have hlt : p < tx_e g n p := tx_e_gt' (by omega)
        rw [if_pos c1, if_pos c1]
        exact ih f2 false _ _ (tx_e g n p) hle (by omega) (by omega)
      · rw [if_neg c1, if_neg c1]
        by_cases c2 : tx_k g n p = 3 ∧ (g (tx_a g n p) = 42 ∨ g (tx_a g n p) = 47 ∨ g (tx_a g n p) = 43 ∨ g (tx_a g n p) = 45)
        · have hlt : p < tx_e g n p := tx_e_gt' (by omega)
          rw [if_pos c2, if_pos c2]
          exact ih f2 true T o (tx_e g n p) hle (by omega) (by omega)
        · rw [if_neg c2, if_neg c2]
          by_cases c3 : brT T = 21 ∨ brT T = 22
          · rw [if_pos c3, if_pos c3]
            by_cases c4 : tx_k g n p = 3 ∧ g (tx_a g n p) = 44
            · have hlt : p < tx_e g n p := tx_e_gt' (by omega)
              rw [if_pos c4, if_pos c4]
              exact ih f2 true (cmT T) o (tx_e g n p) hle (by omega) (by omega)
            · rw [if_neg c4, if_neg c4]
          · rw [if_neg c3, if_neg c3]
def RR (g : Nat → Int) (n : Nat) (al : Int) (m : Bool) (T : List Int) (o : Int) (p : Nat) : ST := mR g n al (n - p + 1) m T o p
theorem RR_f {g : Nat → Int} {n : Nat} {al : Int} {m : Bool} {T : List Int} {o : Int} {p q : Nat} (hq : q ≤ n) (hp : p < q) : mR g n al (n - p) m T o q = RR g n al m T o q := mR_f _ _ _ _ _ _ hq (by omega) (by omega)
