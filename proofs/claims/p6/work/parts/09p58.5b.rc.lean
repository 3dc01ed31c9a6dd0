/-! the model's machine for sums, with what waits and its codes -/
def dO (lo : Int) : List Int → List Int → List Int × List Int
  | [], K => ([], K)
  | x :: P, K => if lo ≤ x ∧ x ≤ 4 then dO lo P (K ++ [x]) else (x :: P, K)
def dB : List Int → List Int → List Int × List Int
  | [], K => ([], K)
  | x :: P, K => if isBr x = true then (x :: P, K) else dB P (K ++ [x])
def dE : List Int → List Int → Int → List Int × List Int × Int
  | [], K, o => ([], K, o)
  | x :: P, K, o => if x < 60 then (x :: P, K, o) else dE P (K ++ [x]) (o - 1)
def opL (g : Nat → Int) (n p : Nat) : Int := if g (tx_a g n p) = 42 ∨ g (tx_a g n p) = 47 then 3 else 1
def opC (g : Nat → Int) (n p : Nat) : Int := if g (tx_a g n p) = 42 then 3 else if g (tx_a g n p) = 47 then 4 else if g (tx_a g n p) = 43 then 1 else 2
def clK (x : Int) (K : List Int) : List Int := if x = 23 then K ++ [5] else if x = 24 then K ++ [6] else K
def cmH : List Int → List Int
  | [] => []
  | x :: U => (x + 2) :: U
def atM (g : Nat → Int) (n : Nat) (al : Int) (p : Nat) : SL := if tx_k g n p = 2 then numM g n p else pwM g n al p
def mRc (g : Nat → Int) (n : Nat) (al : Int) : Nat → Bool → List Int → List Int → Int → Nat → SL
  | 0, _, _, _, _, _ => .inl (0, 0)
  | f + 1, true, P, K, o, p => if tx_k g n p = 3 ∧ g (tx_a g n p) = 40 then (if o = 6 then .inl (4, (tx_a g n p : Int)) else mRc g n al f true (20 :: P) K (o + 1) (tx_e g n p)) else if ¬ wl g n ws_17 p = -1 then (if tx_k g n (tx_e g n p) = 3 ∧ g (tx_a g n (tx_e g n p)) = 40 then (if o = 6 then .inl (4, (tx_a g n (tx_e g n p) : Int)) else mRc g n al f true (21 :: P) K (o + 1) (tx_e g n (tx_e g n p))) else .inl (1, (tx_a g n (tx_e g n p) : Int))) else if ¬ wl g n ws_18 p = -1 then (if tx_k g n (tx_e g n p) = 3 ∧ g (tx_a g n (tx_e g n p)) = 40 then (if o = 6 then .inl (4, (tx_a g n (tx_e g n p) : Int)) else mRc g n al f true (22 :: P) K (o + 1) (tx_e g n (tx_e g n p))) else .inl (1, (tx_a g n (tx_e g n p) : Int))) else if al = 3707 ∧ ¬ wl g n ws_19 p = -1 then (if o = 6 then .inl (4, (tx_a g n p : Int)) else mRc g n al f true (60 :: P) K (o + 1) (tx_e g n p)) else bL (atM g n al p) (fun q L => mRc g n al f false (dE P (K ++ L) o).1 (dE P (K ++ L) o).2.1 (dE P (K ++ L) o).2.2 q)
  | f + 1, false, P, K, o, p => if (tx_k g n p = 3 ∧ g (tx_a g n p) = 41) ∧ (brT P = 20 ∨ brT P = 23 ∨ brT P = 24) then mRc g n al f false (dE (dB P K).1.tail (clK (brT P) (dB P K).2) (o - 1)).1 (dE (dB P K).1.tail (clK (brT P) (dB P K).2) (o - 1)).2.1 (dE (dB P K).1.tail (clK (brT P) (dB P K).2) (o - 1)).2.2 (tx_e g n p) else if tx_k g n p = 3 ∧ (g (tx_a g n p) = 42 ∨ g (tx_a g n p) = 47 ∨ g (tx_a g n p) = 43 ∨ g (tx_a g n p) = 45) then mRc g n al f true (opC g n p :: (dO (opL g n p) P K).1) (dO (opL g n p) P K).2 o (tx_e g n p) else if brT P = 21 ∨ brT P = 22 then (if tx_k g n p = 3 ∧ g (tx_a g n p) = 44 then mRc g n al f true (cmH (dB P K).1) (dB P K).2 o (tx_e g n p) else .inl (1, (tx_a g n p : Int))) else if brT P = -1 then .inr (p, K ++ P) else .inl (1, (tx_a g n p : Int))
section RC
variable {g : Nat → Int} {n : Nat} {al : Int}
theorem atM_ok {p q : Nat} {L : List Int} (hp : p ≤ n) (h : atM g n al p = .inr (q, L)) : p < q ∧ q ≤ n := by
  unfold atM at h
  by_cases k : tx_k g n p = 2
  · rw [if_pos k] at h
    unfold numM at h
    cases e : (sp_num g n 0 9999 p).2 with
    | inl z => rw [e] at h; cases h
    | inr z =>
      rw [e] at h
      cases h
      exact ⟨sp_num_gt e, sv_le (sp_num_v 0 9999 hp) e⟩
  · rw [if_neg k] at h
    unfold pwM at h
    by_cases q5 : wl g n ws_20 p = -1 ∨ lf_o lf_iand (lf_o lf_ishr al (wl g n ws_20 p)) 1 = 0
    · rw [if_pos q5] at h
      cases h
    · rw [if_neg q5] at h
      cases h
      exact ⟨tx_e_gt' (by have := wl_k (fun r => q5 (Or.inl r)); omega), tx_e_le hp⟩
theorem bL_cg {s : SL} {k k2 : Nat → List Int → SL} (h : ∀ q L, s = .inr (q, L) → k q L = k2 q L) : bL s k = bL s k2 := by
  cases s with
  | inl x => rfl
  | inr z => exact h z.1 z.2 rfl
theorem mRc_f : ∀ (f f2 : Nat) (m : Bool) (P K : List Int) (o : Int) (p : Nat), p ≤ n → n - p < f → n - p < f2 → mRc g n al f m P K o p = mRc g n al f2 m P K o p := by
  intro f
  induction f with
  | zero => intro f2 m P K o p h1 h2; omega
  | succ f ih =>
    intro f2 m P K o p hp h2 h3
    obtain ⟨f2, rfl⟩ : ∃ k, f2 = k + 1 := ⟨f2 - 1, by omega⟩
    have hle := tx_e_le (f := g) hp
    have hle2 := tx_e_le (f := g) hle
    cases m with
    | true =>
      unfold mRc
      by_cases c1 : tx_k g n p = 3 ∧ g (tx_a g n p) = 40
      · have hlt : p < tx_e g n p := tx_e_gt' (by omega)
        rw [if_pos c1, if_pos c1, ih f2 true (20 :: P) K (o + 1) (tx_e g n p) hle (by omega) (by omega)]
      · rw [if_neg c1, if_neg c1]
        by_cases c2 : wl g n ws_17 p = -1
        · rw [if_neg (show ¬ ¬ wl g n ws_17 p = -1 from fun r => r c2), if_neg (show ¬ ¬ wl g n ws_17 p = -1 from fun r => r c2)]
          by_cases c3 : wl g n ws_18 p = -1
          · rw [if_neg (show ¬ ¬ wl g n ws_18 p = -1 from fun r => r c3), if_neg (show ¬ ¬ wl g n ws_18 p = -1 from fun r => r c3)]
            by_cases c4 : al = 3707 ∧ ¬ wl g n ws_19 p = -1
            · have hlt : p < tx_e g n p := tx_e_gt' (by have := wl_k c4.2; omega)
              rw [if_pos c4, if_pos c4, ih f2 true (60 :: P) K (o + 1) (tx_e g n p) hle (by omega) (by omega)]
            · rw [if_neg c4, if_neg c4]
              refine bL_cg (fun q L e => ?_)
              have h5 := atM_ok hp e
              exact ih f2 false _ _ _ q h5.2 (by omega) (by omega)
          · have hlt : p < tx_e g n p := tx_e_gt' (by have := wl_k c3; omega)
            rw [if_pos c3, if_pos c3]
            by_cases c5 : tx_k g n (tx_e g n p) = 3 ∧ g (tx_a g n (tx_e g n p)) = 40
            · have hlt2 : tx_e g n p < tx_e g n (tx_e g n p) := tx_e_gt' (by omega)
              rw [if_pos c5, if_pos c5, ih f2 true (22 :: P) K (o + 1) (tx_e g n (tx_e g n p)) hle2 (by omega) (by omega)]
            · rw [if_neg c5, if_neg c5]
        · have hlt : p < tx_e g n p := tx_e_gt' (by have := wl_k c2; omega)
          rw [if_pos c2, if_pos c2]
          by_cases c5 : tx_k g n (tx_e g n p) = 3 ∧ g (tx_a g n (tx_e g n p)) = 40
          · have hlt2 : tx_e g n p < tx_e g n (tx_e g n p) := tx_e_gt' (by omega)
            rw [if_pos c5, if_pos c5, ih f2 true (21 :: P) K (o + 1) (tx_e g n (tx_e g n p)) hle2 (by omega) (by omega)]
          · rw [if_neg c5, if_neg c5]
    | false =>
      unfold mRc
      by_cases c1 : (tx_k g n p = 3 ∧ g (tx_a g n p) = 41) ∧ (brT P = 20 ∨ brT P = 23 ∨ brT P = 24)
      · have hlt : p < tx_e g n p := tx_e_gt' (by omega)
        rw [if_pos c1, if_pos c1]
        exact ih f2 false _ _ _ (tx_e g n p) hle (by omega) (by omega)
      · rw [if_neg c1, if_neg c1]
        by_cases c2 : tx_k g n p = 3 ∧ (g (tx_a g n p) = 42 ∨ g (tx_a g n p) = 47 ∨ g (tx_a g n p) = 43 ∨ g (tx_a g n p) = 45)
        · have hlt : p < tx_e g n p := tx_e_gt' (by omega)
          rw [if_pos c2, if_pos c2]
          exact ih f2 true _ _ o (tx_e g n p) hle (by omega) (by omega)
        · rw [if_neg c2, if_neg c2]
          by_cases c3 : brT P = 21 ∨ brT P = 22
          · rw [if_pos c3, if_pos c3]
            by_cases c4 : tx_k g n p = 3 ∧ g (tx_a g n p) = 44
            · have hlt : p < tx_e g n p := tx_e_gt' (by omega)
              rw [if_pos c4, if_pos c4]
              exact ih f2 true _ _ o (tx_e g n p) hle (by omega) (by omega)
            · rw [if_neg c4, if_neg c4]
          · rw [if_neg c3, if_neg c3]
end RC
def RC (g : Nat → Int) (n : Nat) (al : Int) (m : Bool) (P K : List Int) (o : Int) (p : Nat) : SL := mRc g n al (n - p + 1) m P K o p
section RC2
variable {g : Nat → Int} {n : Nat} {al : Int}
theorem RC_f {m : Bool} {P K : List Int} {o : Int} {p q : Nat} (hq : q ≤ n) (hp : p < q) : mRc g n al (n - p) m P K o q = RC g n al m P K o q := mRc_f _ _ _ _ _ _ _ hq (by omega) (by omega)
/-- a waiting * or / may fall at once behind a part -/
theorem mRc_m : ∀ (f : Nat) (P K : List Int) (o m : Int) (p : Nat), m = 3 ∨ m = 4 → mRc g n al f false (m :: P) K o p = mRc g n al f false P (K ++ [m]) o p := by
  intro f P K o m p hm
  cases f with
  | zero => rfl
  | succ f =>
    have hb : ¬ isBr m = true := fun r => by have := isBr_i.mp r; omega
    have e1 : brT (m :: P) = brT P := if_neg hb
    have e2 : dB (m :: P) K = dB P (K ++ [m]) := if_neg hb
    have e3 : dO (opL g n p) (m :: P) K = dO (opL g n p) P (K ++ [m]) := by
      refine if_pos ?_
      unfold opL
      split <;> omega
    unfold mRc
    rw [e1, e2, e3, List.append_assoc]
    rfl
/-- a waiting + or - too, where no * or / stands next -/
theorem mRc_a : ∀ (f : Nat) (P K : List Int) (o a : Int) (p : Nat), a = 1 ∨ a = 2 → ¬ (tx_k g n p = 3 ∧ (g (tx_a g n p) = 42 ∨ g (tx_a g n p) = 47)) → mRc g n al f false (a :: P) K o p = mRc g n al f false P (K ++ [a]) o p := by
  intro f P K o a p ha hn
  cases f with
  | zero => rfl
  | succ f =>
    have hb : ¬ isBr a = true := fun r => by have := isBr_i.mp r; omega
    have e1 : brT (a :: P) = brT P := if_neg hb
    have e2 : dB (a :: P) K = dB P (K ++ [a]) := if_neg hb
    unfold mRc
    rw [e1, e2]
    by_cases c1 : (tx_k g n p = 3 ∧ g (tx_a g n p) = 41) ∧ (brT P = 20 ∨ brT P = 23 ∨ brT P = 24)
    · rw [if_pos c1, if_pos c1]
    · rw [if_neg c1, if_neg c1]
      by_cases c2 : tx_k g n p = 3 ∧ (g (tx_a g n p) = 42 ∨ g (tx_a g n p) = 47 ∨ g (tx_a g n p) = 43 ∨ g (tx_a g n p) = 45)
      · have e4 : opL g n p = 1 := if_neg (fun r => hn ⟨c2.1, r⟩)
        have e3 : dO (opL g n p) (a :: P) K = dO (opL g n p) P (K ++ [a]) := by
          rw [e4]
          exact if_pos (by omega)
        rw [if_pos c2, if_pos c2, e3]
      · rw [if_neg c2, if_neg c2, List.append_assoc]
        rfl
end RC2
