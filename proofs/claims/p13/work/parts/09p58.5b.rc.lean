section
/-! 5b -/
/-! the model's machine for sums, with what waits and its codes -/
def dO (lo : Int) : List Int → List Int → List Int × List Int
  | [], K => ([], K)
  | x :: P, K => if lo ≤ x ∧ x ≤ 4 then dO lo P (K ++ [x]) else (x :: P, K)
def dB : List Int → List Int → List Int × List Int
  | [], K => ([], K)
  | x :: P, K => if isBr x = true then (x :: P, K) else dB P (K ++ [x])
def dE : List Int → List Int → Int → List Int × List Int × Int
  | [], K, o => ([], K, o)
  | x :: P, K, o => if x < 60 then (x :: P, K, o) else dE P (K ++ [x]) (o - 1)
def opL (g : Nat → Int) (n p : Nat) : Int := if g (tx_a g n p) = 42 ∨ g (tx_a g n p) = 47 then 3 else 1
def opC (g : Nat → Int) (n p : Nat) : Int := if g (tx_a g n p) = 42 then 3 else if g (tx_a g n p) = 47 then 4 else if g (tx_a g n p) = 43 then 1 else 2
def clK (x : Int) (K : List Int) : List Int := if x = 23 then K ++ [5] else if x = 24 then K ++ [6] else K
def cmH : List Int → List Int
  | [] => []
  | x :: U => (x + 2) :: U
def atM (g : Nat → Int) (n : Nat) (al : Int) (p : Nat) : SL := if tx_k g n p = 2 then numM g n p else pwM g n al p
def mRc (g : Nat → Int) (n : Nat) (al : Int) : Nat → Bool → List Int → List Int → Int → Nat → SL
  | 0, _, _, _, _, _ => .inl (0, 0)
  | f + 1, true, P, K, o, p => if tx_k g n p = 3 ∧ g (tx_a g n p) = 40 then (if o = 6 then .inl (4, (tx_a g n p : Int)) else mRc g n al f true (20 :: P) K (o + 1) (tx_e g n p)) else if ¬ wl g n ws_17 p = -1 then (if tx_k g n (tx_e g n p) = 3 ∧ g (tx_a g n (tx_e g n p)) = 40 then (if o = 6 then .inl (4, (tx_a g n (tx_e g n p) : Int)) else mRc g n al f true (21 :: P) K (o + 1) (tx_e g n (tx_e g n p))) else .inl (1, (tx_a g n (tx_e g n p) : Int))) else if ¬ wl g n ws_18 p = -1 then (if tx_k g n (tx_e g n p) = 3 ∧ g (tx_a g n (tx_e g n p)) = 40 then (if o = 6 then .inl (4, (tx_a g n (tx_e g n p) : Int)) else mRc g n al f true (22 :: P) K (o + 1) (tx_e g n (tx_e g n p))) else .inl (1, (tx_a g n (tx_e g n p) : Int))) else if al = 3707 ∧ ¬ wl g n ws_19 p = -1 then (if o = 6 then .inl (4, (tx_a g n p : Int)) else mRc g n al f true (60 :: P) K (o + 1) (tx_e g n p)) else bL (atM g n al p) (fun q L => mRc g n al f false (dE P (K ++ L) o).1 (dE P (K ++ L) o).2.1 (dE P (K ++ L) o).2.2 q)
  | f + 1, false, P, K, o, p => if (tx_k g n p = 3 ∧ g (tx_a g n p) = 41) ∧ (brT P = 20 ∨ brT P = 23 ∨ brT P = 24) then mRc g n al f false (dE (dB P K).1.tail (clK (brT P) (dB P K).2) (o - 1)).1 (dE (dB P K).1.tail (clK (brT P) (dB P K).2) (o - 1)).2.1 (dE (dB P K).1.tail (clK (brT P) (dB P K).2) (o - 1)).2.2 (tx_e g n p) else if tx_k g n p = 3 ∧ (g (tx_a g n p) = 42 ∨ g (tx_a g n p) = 47 ∨ g (tx_a g n p) = 43 ∨ g (tx_a g n p) = 45) then mRc g n al f true (opC g n p :: (dO (opL g n p) P K).1) (dO (opL g n p) P K).2 o (tx_e g n p) else if brT P = 21 ∨ brT P = 22 then (if tx_k g n p = 3 ∧ g (tx_a g n p) = 44 then mRc g n al f true (cmH (dB P K).1) (dB P K).2 o (tx_e g n p) else .inl (1, (tx_a g n p : Int))) else if brT P = -1 then .inr (p, K ++ P) else .inl (1, (tx_a g n p : Int))
section RC
variable {g : Nat → Int} {n : Nat} {al : Int}
theorem atM_ok {p q : Nat} {L : List Int} (hp : p ≤ n) (h : atM g n al p = .inr (q, L)) : p < q ∧ q ≤ n := by
  unfold atM at h
  by_cases k : tx_k g n p = 2
  · rw [if_pos k] at h
    unfold numM at h
    cases e : (sp_num g n 0 9999 p).2 with
    | inl z => rw [e] at h; cases h
    | inr z =>
      rw [e] at h
      cases h
      exact ⟨sp_num_gt e, sv_le (sp_num_v 0 9999 hp) e⟩
  · rw [if_neg k] at h
    unfold pwM at h
    by_cases q5 : wl g n ws_20 p = -1 ∨ lf_o lf_iand (lf_o lf_ishr al (wl g n ws_20 p)) 1 = 0
    · rw [if_pos q5] at h
      cases h
    · rw [if_neg q5] at h
      cases h
      exact ⟨tx_e_gt' (by have := wl_k (fun r => q5 (Or.inl r)); omega), tx_e_le hp⟩
theorem bL_cg {s : SL} {k k2 : Nat → List Int → SL} (h : ∀ q L, s = .inr (q, L) → k q L = k2 q L) : bL s k = bL s k2 := by
  cases s with
  | inl x => rfl
  | inr z => exact h z.1 z.2 rfl
theorem mRc_f : ∀ (f f2 : Nat) (m : Bool) (P K : List Int) (o : Int) (p : Nat), p ≤ n → n - p < f → n - p < f2 → mRc g n al f m P K o p = mRc g n al f2 m P K o p := by
  intro f
  induction f with
  | zero => intro f2 m P K o p h1 h2; omega
  | succ f ih =>
    intro f2 m P K o p hp h2 h3
    obtain ⟨f2, rfl⟩ : ∃ k, f2 = k + 1 := ⟨f2 - 1, by omega⟩
    have hle := tx_e_le (f := g) hp
    have hle2 := tx_e_le (f := g) hle
    cases m with
    | true =>
      unfold mRc
      by_cases c1 : tx_k g n p = 3 ∧ g (tx_a g n p) = 40
      · have hlt : p < tx_e g n p := tx_e_gt' (by omega)
        rw [if_pos c1, if_pos c1, ih f2 true (20 :: P) K (o + 1) (tx_e g n p) hle (by omega) (by omega)]
      · rw [if_neg c1, if_neg c1]
        by_cases c2 : wl g n ws_17 p = -1
        · rw [if_neg (show ¬ ¬ wl g n ws_17 p = -1 from fun r => r c2), if_neg (show ¬ ¬ wl g n ws_17 p = -1 from fun r => r c2)]
          by_cases c3 : wl g n ws_18 p = -1
          · rw [if_neg (show ¬ ¬ wl g n ws_18 p = -1 from fun r => r c3), if_neg (show ¬ ¬ wl g n ws_18 p = -1 from fun r => r c3)]
            by_cases c4 : al = 3707 ∧ ¬ wl g n ws_19 p = -1
            · have hlt : p < tx_e g n p := tx_e_gt' (by have := wl_k c4.2; omega)
              rw [if_pos c4, if_pos c4, ih f2 true (60 :: P) K (o + 1) (tx_e g n p) hle (by omega) (by omega)]
            · rw [if_neg c4, if_neg c4]
              refine bL_cg (fun q L e => ?_)
              have h5 := atM_ok hp e
              exact ih f2 false _ _ _ q h5.2 (by omega) (by omega)
          · have hlt : p < tx_e g n p := tx_e_gt' (by have := wl_k c3; omega)
            rw [if_pos c3, if_pos c3]
            by_cases c5 : tx_k g n (tx_e g n p) = 3 ∧ g (tx_a g n (tx_e g n p)) = 40
            · have hlt2 : tx_e g n p < tx_e g n (tx_e g n p) := tx_e_gt' (by omega)
              rw [if_pos c5, if_pos c5, ih f2 true (22 :: P) K (o + 1) (tx_e g n (tx_e g n p)) hle2 (by omega) (by omega)]
            · rw [if_neg c5, if_neg c5]
        · have hlt : p < tx_e g n p := tx_e_gt' (by have := wl_k c2; omega)
          rw [if_pos c2, if_pos c2]
          by_cases c5 : tx_k g n (tx_e g n p) = 3 ∧ g (tx_a g n (tx_e g n p)) = 40
          · have hlt2 : tx_e g n p < tx_e g n (tx_e g n p) := tx_e_gt' (by omega)
            rw [if_pos c5, if_pos c5, ih f2 true (21 :: P) K (o + 1) (tx_e g n (tx_e g n p)) hle2 (by omega) (by omega)]
          · rw [if_neg c5, if_neg c5]
    | false =>
      unfold mRc
      by_cases c1 : (tx_k g n p = 3 ∧ g (tx_a g n p) = 41) ∧ (brT P = 20 ∨ brT P = 23 ∨ brT P = 24)
      · have hlt : p < tx_e g n p := tx_e_gt' (by omega)
        rw [if_pos c1, if_pos c1]
        exact ih f2 false _ _ _ (tx_e g n p) hle (by omega) (by omega)
      · rw [if_neg c1, if_neg c1]
        by_cases c2 : tx_k g n p = 3 ∧ (g (tx_a g n p) = 42 ∨ g (tx_a g n p) = 47 ∨ g (tx_a g n p) = 43 ∨ g (tx_a g n p) = 45)
        · have hlt : p < tx_e g n p := tx_e_gt' (by omega)
          rw [if_pos c2, if_pos c2]
          exact ih f2 true _ _ o (tx_e g n p) hle (by omega) (by omega)
        · rw [if_neg c2, if_neg c2]
          by_cases c3 : brT P = 21 ∨ brT P = 22
          · rw [if_pos c3, if_pos c3]
            by_cases c4 : tx_k g n p = 3 ∧ g (tx_a g n p) = 44
            · have hlt : p < tx_e g n p := tx_e_gt' (by omega)
              rw [if_pos c4, if_pos c4]
              exact ih f2 true _ _ o (tx_e g n p) hle (by omega) (by omega)
            · rw [if_neg c4, if_neg c4]
          · rw [if_neg c3, if_neg c3]
end RC
def RC (g : Nat → Int) (n : Nat) (al : Int) (m : Bool) (P K : List Int) (o : Int) (p : Nat) : SL := mRc g n al (n - p + 1) m P K o p
section RC2
variable {g : Nat → Int} {n : Nat} {al : Int}
theorem RC_f {m : Bool} {P K : List Int} {o : Int} {p q : Nat} (hq : q ≤ n) (hp : p < q) : mRc g n al (n - p) m P K o q = RC g n al m P K o q := mRc_f _ _ _ _ _ _ _ hq (by omega) (by omega)
/-- a waiting * or / may fall at once behind a part -/
theorem mRc_m : ∀ (f : Nat) (P K : List Int) (o m : Int) (p : Nat), m = 3 ∨ m = 4 → mRc g n al f false (m :: P) K o p = mRc g n al f false P (K ++ [m]) o p := by
  intro f P K o m p hm
  cases f with
  | zero => rfl
  | succ f =>
    have hb : ¬ isBr m = true := fun r => by have := isBr_i.mp r; omega
    have e1 : brT (m :: P) = brT P := if_neg hb
    have e2 : dB (m :: P) K = dB P (K ++ [m]) := if_neg hb
    have e3 : dO (opL g n p) (m :: P) K = dO (opL g n p) P (K ++ [m]) := by
      refine if_pos ?_
      unfold opL
      split <;> omega
    unfold mRc
    rw [e1, e2, e3, List.append_assoc]
    rfl
/-- a waiting + or - too, where no * or / stands next -/
theorem mRc_a : ∀ (f : Nat) (P K : List Int) (o a : Int) (p : Nat), a = 1 ∨ a = 2 → ¬ (tx_k g n p = 3 ∧ (g (tx_a g n p) = 42 ∨ g (tx_a g n p) = 47)) → mRc g n al f false (a :: P) K o p = mRc g n al f false P (K ++ [a]) o p := by
  intro f P K o a p ha hn
  cases f with
  | zero => rfl
  | succ f =>
    have hb : ¬ isBr a = true := fun r => by have := isBr_i.mp r; omega
    have e1 : brT (a :: P) = brT P := if_neg hb
    have e2 : dB (a :: P) K = dB P (K ++ [a]) := if_neg hb
    unfold mRc
    rw [e1, e2]
    by_cases c1 : (tx_k g n p = 3 ∧ g (tx_a g n p) = 41) ∧ (brT P = 20 ∨ brT P = 23 ∨ brT P = 24)
    · rw [if_pos c1, if_pos c1]
    · rw [if_neg c1, if_neg c1]
      by_cases c2 : tx_k g n p = 3 ∧ (g (tx_a g n p) = 42 ∨ g (tx_a g n p) = 47 ∨ g (tx_a g n p) = 43 ∨ g (tx_a g n p) = 45)
      · have e4 : opL g n p = 1 := if_neg (fun r => hn ⟨c2.1, r⟩)
        have e3 : dO (opL g n p) (a :: P) K = dO (opL g n p) P (K ++ [a]) := by
          rw [e4]
          exact if_pos (by omega)
        rw [if_pos c2, if_pos c2, e3]
      · rw [if_neg c2, if_neg c2, List.append_assoc]
        rfl
end RC2
end
section
/-! 5c -/
section RC3
variable {g : Nat → Int} {n : Nat} {al : Int}
theorem RC_tu {P K : List Int} {o : Int} {p : Nat} : RC g n al true P K o p = (if tx_k g n p = 3 ∧ g (tx_a g n p) = 40 then (if o = 6 then .inl (4, (tx_a g n p : Int)) else mRc g n al (n - p) true (20 :: P) K (o + 1) (tx_e g n p)) else if ¬ wl g n ws_17 p = -1 then (if tx_k g n (tx_e g n p) = 3 ∧ g (tx_a g n (tx_e g n p)) = 40 then (if o = 6 then .inl (4, (tx_a g n (tx_e g n p) : Int)) else mRc g n al (n - p) true (21 :: P) K (o + 1) (tx_e g n (tx_e g n p))) else .inl (1, (tx_a g n (tx_e g n p) : Int))) else if ¬ wl g n ws_18 p = -1 then (if tx_k g n (tx_e g n p) = 3 ∧ g (tx_a g n (tx_e g n p)) = 40 then (if o = 6 then .inl (4, (tx_a g n (tx_e g n p) : Int)) else mRc g n al (n - p) true (22 :: P) K (o + 1) (tx_e g n (tx_e g n p))) else .inl (1, (tx_a g n (tx_e g n p) : Int))) else if al = 3707 ∧ ¬ wl g n ws_19 p = -1 then (if o = 6 then .inl (4, (tx_a g n p : Int)) else mRc g n al (n - p) true (60 :: P) K (o + 1) (tx_e g n p)) else bL (atM g n al p) (fun q L => mRc g n al (n - p) false (dE P (K ++ L) o).1 (dE P (K ++ L) o).2.1 (dE P (K ++ L) o).2.2 q)) := rfl
theorem RC_fu {P K : List Int} {o : Int} {p : Nat} : RC g n al false P K o p = (if (tx_k g n p = 3 ∧ g (tx_a g n p) = 41) ∧ (brT P = 20 ∨ brT P = 23 ∨ brT P = 24) then mRc g n al (n - p) false (dE (dB P K).1.tail (clK (brT P) (dB P K).2) (o - 1)).1 (dE (dB P K).1.tail (clK (brT P) (dB P K).2) (o - 1)).2.1 (dE (dB P K).1.tail (clK (brT P) (dB P K).2) (o - 1)).2.2 (tx_e g n p) else if tx_k g n p = 3 ∧ (g (tx_a g n p) = 42 ∨ g (tx_a g n p) = 47 ∨ g (tx_a g n p) = 43 ∨ g (tx_a g n p) = 45) then mRc g n al (n - p) true (opC g n p :: (dO (opL g n p) P K).1) (dO (opL g n p) P K).2 o (tx_e g n p) else if brT P = 21 ∨ brT P = 22 then (if tx_k g n p = 3 ∧ g (tx_a g n p) = 44 then mRc g n al (n - p) true (cmH (dB P K).1) (dB P K).2 o (tx_e g n p) else .inl (1, (tx_a g n p : Int))) else if brT P = -1 then .inr (p, K ++ P) else .inl (1, (tx_a g n p : Int))) := rfl
theorem RC_o1 {P K : List Int} {o : Int} {p : Nat} (hp : p ≤ n) (c : tx_k g n p = 3 ∧ g (tx_a g n p) = 40) (ho : ¬ o = 6) : RC g n al true P K o p = RC g n al true (20 :: P) K (o + 1) (tx_e g n p) := by
  have hlt : p < tx_e g n p := tx_e_gt' (by omega)
  rw [← RC_f (p := p) (tx_e_le hp) hlt]
  rw [RC_tu, if_pos c, if_neg ho]
theorem RC_o6 {P K : List Int} {p : Nat} (c : tx_k g n p = 3 ∧ g (tx_a g n p) = 40) : RC g n al true P K 6 p = .inl (4, (tx_a g n p : Int)) := by
  rw [RC_tu, if_pos c, if_pos rfl]
def mmC (g : Nat → Int) (n : Nat) (al : Int) (x : Int) (P K : List Int) (o : Int) (p1 : Nat) : SL := if tx_k g n p1 = 3 ∧ g (tx_a g n p1) = 40 then (if o = 6 then .inl (4, (tx_a g n p1 : Int)) else RC g n al true (x :: P) K (o + 1) (tx_e g n p1)) else .inl (1, (tx_a g n p1 : Int))
theorem RC_mm {P K : List Int} {o : Int} {p : Nat} (hp : p ≤ n) (c : ¬ wl g n ws_17 p = -1) : RC g n al true P K o p = mmC g n al 21 P K o (tx_e g n p) := by
  have hk := wl_k c
  have hlt : p < tx_e g n p := tx_e_gt' (by omega)
  have hle := tx_e_le (f := g) hp
  show mRc g n al (n - p + 1) true P K o p = _
  unfold mmC mRc
  rw [if_neg (k1_no hk), if_pos c]
  by_cases c5 : tx_k g n (tx_e g n p) = 3 ∧ g (tx_a g n (tx_e g n p)) = 40
  · have hlt2 : tx_e g n p < tx_e g n (tx_e g n p) := tx_e_gt' (by omega)
    rw [if_pos c5, if_pos c5, ← RC_f (p := p) (tx_e_le hle) (by omega)]
  · rw [if_neg c5, if_neg c5]
theorem RC_mx {P K : List Int} {o : Int} {p : Nat} (hp : p ≤ n) (c0 : wl g n ws_17 p = -1) (c : ¬ wl g n ws_18 p = -1) : RC g n al true P K o p = mmC g n al 22 P K o (tx_e g n p) := by
  have hk := wl_k c
  have hlt : p < tx_e g n p := tx_e_gt' (by omega)
  have hle := tx_e_le (f := g) hp
  show mRc g n al (n - p + 1) true P K o p = _
  unfold mmC mRc
  rw [if_neg (k1_no hk), if_neg (show ¬ ¬ wl g n ws_17 p = -1 from fun r => r c0), if_pos c]
  by_cases c5 : tx_k g n (tx_e g n p) = 3 ∧ g (tx_a g n (tx_e g n p)) = 40
  · have hlt2 : tx_e g n p < tx_e g n (tx_e g n p) := tx_e_gt' (by omega)
    rw [if_pos c5, if_pos c5, ← RC_f (p := p) (tx_e_le hle) (by omega)]
  · rw [if_neg c5, if_neg c5]
theorem RC_k1 {P K : List Int} {o : Int} {p : Nat} (hp : p ≤ n) (c0 : wl g n ws_17 p = -1) (c1 : wl g n ws_18 p = -1) (c : al = 3707 ∧ ¬ wl g n ws_19 p = -1) (ho : ¬ o = 6) : RC g n al true P K o p = RC g n al true (60 :: P) K (o + 1) (tx_e g n p) := by
  have hk := wl_k c.2
  have hlt : p < tx_e g n p := tx_e_gt' (by omega)
  rw [← RC_f (p := p) (tx_e_le hp) hlt]
  rw [RC_tu, if_neg (k1_no hk), if_neg (show ¬ ¬ wl g n ws_17 p = -1 from fun r => r c0), if_neg (show ¬ ¬ wl g n ws_18 p = -1 from fun r => r c1), if_pos c, if_neg ho]
theorem RC_k6 {P K : List Int} {p : Nat} (c0 : wl g n ws_17 p = -1) (c1 : wl g n ws_18 p = -1) (c : al = 3707 ∧ ¬ wl g n ws_19 p = -1) : RC g n al true P K 6 p = .inl (4, (tx_a g n p : Int)) := by
  have hk := wl_k c.2
  rw [RC_tu, if_neg (k1_no hk), if_neg (show ¬ ¬ wl g n ws_17 p = -1 from fun r => r c0), if_neg (show ¬ ¬ wl g n ws_18 p = -1 from fun r => r c1), if_pos c, if_pos rfl]
theorem RC_at {P K : List Int} {o : Int} {p : Nat} (hp : p ≤ n) (c : ¬ (tx_k g n p = 3 ∧ g (tx_a g n p) = 40)) (c0 : wl g n ws_17 p = -1) (c1 : wl g n ws_18 p = -1) (c2 : ¬ (al = 3707 ∧ ¬ wl g n ws_19 p = -1)) : RC g n al true P K o p = bL (atM g n al p) (fun q L => RC g n al false (dE P (K ++ L) o).1 (dE P (K ++ L) o).2.1 (dE P (K ++ L) o).2.2 q) := by
  have e : bL (atM g n al p) (fun q L => RC g n al false (dE P (K ++ L) o).1 (dE P (K ++ L) o).2.1 (dE P (K ++ L) o).2.2 q) = bL (atM g n al p) (fun q L => mRc g n al (n - p) false (dE P (K ++ L) o).1 (dE P (K ++ L) o).2.1 (dE P (K ++ L) o).2.2 q) := bL_cg (fun q L e => (RC_f (p := p) (atM_ok hp e).2 (atM_ok hp e).1).symm)
  rw [e]
  rw [RC_tu, if_neg c, if_neg (show ¬ ¬ wl g n ws_17 p = -1 from fun r => r c0), if_neg (show ¬ ¬ wl g n ws_18 p = -1 from fun r => r c1), if_neg c2]
theorem RC_cl {P K : List Int} {o : Int} {p : Nat} (hp : p ≤ n) (c : tx_k g n p = 3 ∧ g (tx_a g n p) = 41) (hT : brT P = 20 ∨ brT P = 23 ∨ brT P = 24) : RC g n al false P K o p = RC g n al false (dE (dB P K).1.tail (clK (brT P) (dB P K).2) (o - 1)).1 (dE (dB P K).1.tail (clK (brT P) (dB P K).2) (o - 1)).2.1 (dE (dB P K).1.tail (clK (brT P) (dB P K).2) (o - 1)).2.2 (tx_e g n p) := by
  have hlt : p < tx_e g n p := tx_e_gt' (by omega)
  rw [← RC_f (p := p) (tx_e_le hp) hlt]
  rw [RC_fu, if_pos ⟨c, hT⟩]
theorem RC_op {P K : List Int} {o : Int} {p : Nat} (hp : p ≤ n) (c : opS g n p) : RC g n al false P K o p = RC g n al true (opC g n p :: (dO (opL g n p) P K).1) (dO (opL g n p) P K).2 o (tx_e g n p) := by
  have hk := c.1
  have hlt : p < tx_e g n p := tx_e_gt' (by omega)
  rw [← RC_f (p := p) (tx_e_le hp) hlt]
  rw [RC_fu, if_neg (fun r => by have h1 := r.1.2; have h2 := c.2; omega), if_pos (show tx_k g n p = 3 ∧ (g (tx_a g n p) = 42 ∨ g (tx_a g n p) = 47 ∨ g (tx_a g n p) = 43 ∨ g (tx_a g n p) = 45) from c)]
theorem RC_cm {P K : List Int} {o : Int} {p : Nat} (hp : p ≤ n) (c : ¬ opS g n p) (hT : brT P = 21 ∨ brT P = 22) : RC g n al false P K o p = if tx_k g n p = 3 ∧ g (tx_a g n p) = 44 then RC g n al true (cmH (dB P K).1) (dB P K).2 o (tx_e g n p) else .inl (1, (tx_a g n p : Int)) := by
  rw [RC_fu, if_neg (fun r => by have := r.2; omega), if_neg (show ¬ (tx_k g n p = 3 ∧ (g (tx_a g n p) = 42 ∨ g (tx_a g n p) = 47 ∨ g (tx_a g n p) = 43 ∨ g (tx_a g n p) = 45)) from c), if_pos hT]
  by_cases c4 : tx_k g n p = 3 ∧ g (tx_a g n p) = 44
  · have hlt : p < tx_e g n p := tx_e_gt' (by omega)
    rw [if_pos c4, if_pos c4, ← RC_f (p := p) (tx_e_le hp) hlt]
  · rw [if_neg c4, if_neg c4]
theorem RC_nd {P K : List Int} {o : Int} {p : Nat} (c : ¬ opS g n p) (hT : brT P = -1) : RC g n al false P K o p = .inr (p, K ++ P) := by
  rw [RC_fu, if_neg (fun r => by have := r.2; omega), if_neg (show ¬ (tx_k g n p = 3 ∧ (g (tx_a g n p) = 42 ∨ g (tx_a g n p) = 47 ∨ g (tx_a g n p) = 43 ∨ g (tx_a g n p) = 45)) from c), if_neg (by omega), if_pos hT]
theorem RC_bd {P K : List Int} {o : Int} {p : Nat} (c0 : ¬ (tx_k g n p = 3 ∧ g (tx_a g n p) = 41)) (c : ¬ opS g n p) (h1 : ¬ (brT P = 21 ∨ brT P = 22)) (h2 : ¬ brT P = -1) : RC g n al false P K o p = .inl (1, (tx_a g n p : Int)) := by
  rw [RC_fu, if_neg (fun r => c0 r.1), if_neg (show ¬ (tx_k g n p = 3 ∧ (g (tx_a g n p) = 42 ∨ g (tx_a g n p) = 47 ∨ g (tx_a g n p) = 43 ∨ g (tx_a g n p) = 45)) from c), if_neg h1, if_neg h2]
theorem RC_m {P K : List Int} {o m : Int} {p : Nat} (h : m = 3 ∨ m = 4) : RC g n al false (m :: P) K o p = RC g n al false P (K ++ [m]) o p := mRc_m _ P K o m p h
theorem RC_a {P K : List Int} {o a : Int} {p : Nat} (h : a = 1 ∨ a = 2) (hn : ¬ (tx_k g n p = 3 ∧ (g (tx_a g n p) = 42 ∨ g (tx_a g n p) = 47))) : RC g n al false (a :: P) K o p = RC g n al false P (K ++ [a]) o p := mRc_a _ P K o a p h hn
/-- behind the last sum in a bracket -/
theorem RC_br {x : Int} {P K : List Int} {o : Int} {p : Nat} (hp : p ≤ n) (c : ¬ opS g n p) (hx : x = 20 ∨ x = 23 ∨ x = 24) : RC g n al false (x :: P) K (o + 1) p = ndL (sp_need g n 41 p) (fun p2 => RC g n al false (dE P (clK x K) o).1 (dE P (clK x K) o).2.1 (dE P (clK x K) o).2.2 p2) := by
  have hb : brT (x :: P) = x := by
    rcases hx with e | e | e <;> (subst e; rfl)
  have hd : dB (x :: P) K = (x :: P, K) := by
    rcases hx with e | e | e <;> (subst e; rfl)
  by_cases q : tx_k g n p = 3 ∧ g (tx_a g n p) = 41
  · rw [RC_cl hp q (by rw [hb]; exact hx), hd, hb, show sp_need g n 41 p = .inr (tx_e g n p) from if_pos q, show o + 1 - 1 = o from by omega]
    rfl
  · rw [RC_bd q c (by rw [hb]; omega) (by rw [hb]; omega), show sp_need g n 41 p = .inl (1, (tx_a g n p : Int)) from if_neg q]
    rfl
/-- tops that stay -/
def tpN (lo : Int) : List Int → Prop
  | [] => True
  | x :: _ => x < 60 ∧ ¬ (lo ≤ x ∧ x ≤ 4)
theorem tpN_E {lo : Int} {P : List Int} (h : tpN lo P) (K : List Int) (k : Int) : dE P K k = (P, K, k) := by
  cases P with
  | nil => rfl
  | cons x P => exact if_pos h.1
theorem tpN_O {lo : Int} {P : List Int} (h : tpN lo P) (K : List Int) : dO lo P K = (P, K) := by
  cases P with
  | nil => rfl
  | cons x P => exact if_neg h.2
def cpP (g : Nat → Int) (n : Nat) (al : Int) (o : Int) (S : Nat → SL) : Prop := ∀ (P K : List Int) (p : Nat), p ≤ n → RC g n al true P K o p = bL (S p) (fun q L => RC g n al false (dE P (K ++ L) o).1 (dE P (K ++ L) o).2.1 (dE P (K ++ L) o).2.2 q)
def cpN (g : Nat → Int) (n : Nat) (al : Int) (o : Int) (lo : Int) (S : Nat → SL) : Prop := ∀ (P K : List Int) (p : Nat), p ≤ n → tpN lo P → RC g n al true P K o p = bL (S p) (fun q L => RC g n al false P (K ++ L) o q)
/-- where a reading ends -/
def endM (n : Nat) (Q : Nat → Prop) (S : Nat → SL) : Prop := ∀ p q L, p ≤ n → S p = .inr (q, L) → q ≤ n ∧ p < q ∧ Q q
theorem lpM_eq {o lo : Int} {S : Nat → SL} {c1 c2 o1 o2 : Int} {Q : Nat → Prop} (hE : endM n Q S) (h : ∀ x, x = o1 ∨ x = o2 → ∀ (P K : List Int) (p : Nat), p ≤ n → tpN lo P → RC g n al true (x :: P) K o p = bL (S p) (fun q L => RC g n al false P (K ++ L ++ [x]) o q)) (hc : ∀ p, (tx_k g n p = 3 ∧ g (tx_a g n p) = c1 → opS g n p ∧ opC g n p = o1 ∧ opL g n p = lo) ∧ (tx_k g n p = 3 ∧ g (tx_a g n p) = c2 → opS g n p ∧ opC g n p = o2 ∧ opL g n p = lo)) : ∀ (m : Nat) (P K L : List Int) (p : Nat), p ≤ n → tpN lo P → RC g n al false P (K ++ L) o p = bL (lpM g n S c1 c2 o1 o2 m p L) (fun q L => RC g n al false P (K ++ L) o q) := by
  intro m
  induction m with
  | zero => intro P K L p hp hT; rfl
  | succ m ih =>
    intro P K L p hp hT
    have hle := tx_e_le (f := g) hp
    have step : ∀ x, x = o1 ∨ x = o2 → opS g n p ∧ opC g n p = x ∧ opL g n p = lo → RC g n al false P (K ++ L) o p = bL (bL (S (tx_e g n p)) (fun q M => lpM g n S c1 c2 o1 o2 m q (L ++ M ++ [x]))) (fun q L => RC g n al false P (K ++ L) o q) := by
      intro x hx hop
      rw [RC_op hp hop.1, hop.2.1, hop.2.2, tpN_O hT, h x hx P (K ++ L) (tx_e g n p) hle hT]
      cases e : S (tx_e g n p) with
      | inl z => rfl
      | inr z =>
        obtain ⟨q, M⟩ := z
        have hq := hE (tx_e g n p) q M hle e
        have := ih P K (L ++ M ++ [x]) q hq.1 hT
        show RC g n al false P (K ++ L ++ M ++ [x]) o q = bL (lpM g n S c1 c2 o1 o2 m q (L ++ M ++ [x])) (fun q L => RC g n al false P (K ++ L) o q)
        rw [← this, ← List.append_assoc, ← List.append_assoc]
    unfold lpM
    by_cases q1 : tx_k g n p = 3 ∧ g (tx_a g n p) = c1
    · rw [if_pos q1]
      exact step o1 (Or.inl rfl) ((hc p).1 q1)
    · rw [if_neg q1]
      by_cases q2 : tx_k g n p = 3 ∧ g (tx_a g n p) = c2
      · rw [if_pos q2]
        exact step o2 (Or.inr rfl) ((hc p).2 q2)
      · rw [if_neg q2]
        rfl
theorem sL_eqm (m : Nat) {o lo : Int} {S : Nat → SL} {c1 c2 o1 o2 : Int} {Q : Nat → Prop} (hE : endM n Q S) (h0 : cpN g n al o lo S) (h : ∀ x, x = o1 ∨ x = o2 → ∀ (P K : List Int) (p : Nat), p ≤ n → tpN lo P → RC g n al true (x :: P) K o p = bL (S p) (fun q L => RC g n al false P (K ++ L ++ [x]) o q)) (hc : ∀ p, (tx_k g n p = 3 ∧ g (tx_a g n p) = c1 → opS g n p ∧ opC g n p = o1 ∧ opL g n p = lo) ∧ (tx_k g n p = 3 ∧ g (tx_a g n p) = c2 → opS g n p ∧ opC g n p = o2 ∧ opL g n p = lo)) : cpN g n al o lo (fun p => bL (S p) (lpM g n S c1 c2 o1 o2 m)) := by
  intro P K p hp hT
  show _ = bL (bL (S p) (lpM g n S c1 c2 o1 o2 m)) _
  rw [h0 P K p hp hT]
  cases e : S p with
  | inl z => rfl
  | inr z =>
    obtain ⟨q, L⟩ := z
    exact lpM_eq hE h hc m P K L q (hE p q L hp e).1 hT
theorem sL_eq {o lo : Int} {S : Nat → SL} {c1 c2 o1 o2 : Int} {Q : Nat → Prop} (hE : endM n Q S) (h0 : cpN g n al o lo S) (h : ∀ x, x = o1 ∨ x = o2 → ∀ (P K : List Int) (p : Nat), p ≤ n → tpN lo P → RC g n al true (x :: P) K o p = bL (S p) (fun q L => RC g n al false P (K ++ L ++ [x]) o q)) (hc : ∀ p, (tx_k g n p = 3 ∧ g (tx_a g n p) = c1 → opS g n p ∧ opC g n p = o1 ∧ opL g n p = lo) ∧ (tx_k g n p = 3 ∧ g (tx_a g n p) = c2 → opS g n p ∧ opC g n p = o2 ∧ opL g n p = lo)) : cpN g n al o lo (sL g n S c1 c2 o1 o2) := sL_eqm 1602 hE h0 h hc
theorem lpM_end {S : Nat → SL} {c1 c2 o1 o2 : Int} {Q : Nat → Prop} (hE : endM n Q S) : ∀ (m p : Nat) (L : List Int) (q : Nat) (M : List Int), p ≤ n → n - p < m → Q p → lpM g n S c1 c2 o1 o2 m p L = .inr (q, M) → q ≤ n ∧ p ≤ q ∧ Q q ∧ ¬ (tx_k g n q = 3 ∧ g (tx_a g n q) = c1) ∧ ¬ (tx_k g n q = 3 ∧ g (tx_a g n q) = c2) := by
  intro m
  induction m with
  | zero => intro p L q M hp h1; omega
  | succ m ih =>
    intro p L q M hp h1 hq
    have hle := tx_e_le (f := g) hp
    have step : ∀ x, tx_k g n p = 3 → bL (S (tx_e g n p)) (fun q K => lpM g n S c1 c2 o1 o2 m q (L ++ K ++ [x])) = .inr (q, M) → q ≤ n ∧ p ≤ q ∧ Q q ∧ ¬ (tx_k g n q = 3 ∧ g (tx_a g n q) = c1) ∧ ¬ (tx_k g n q = 3 ∧ g (tx_a g n q) = c2) := by
      intro x hk r
      have hlt : p < tx_e g n p := tx_e_gt' (by omega)
      cases e : S (tx_e g n p) with
      | inl z => rw [e] at r; cases r
      | inr z =>
        obtain ⟨p2, K⟩ := z
        rw [e] at r
        have h5 := hE (tx_e g n p) p2 K hle e
        have h6' := ih p2 _ q M h5.1 (by omega) h5.2.2 r
        exact ⟨h6'.1, by omega, h6'.2.2⟩
    unfold lpM
    by_cases q1 : tx_k g n p = 3 ∧ g (tx_a g n p) = c1
    · rw [if_pos q1]
      exact step o1 q1.1
    · rw [if_neg q1]
      by_cases q2 : tx_k g n p = 3 ∧ g (tx_a g n p) = c2
      · rw [if_pos q2]
        exact step o2 q2.1
      · rw [if_neg q2]
        intro r
        cases r
        exact ⟨hp, Nat.le_refl _, hq, q1, q2⟩
theorem sL_endm (m : Nat) (hf : 1601 < m) {S : Nat → SL} {c1 c2 o1 o2 : Int} {Q : Nat → Prop} (hn : n ≤ 1600) (hE : endM n Q S) : endM n (fun q => Q q ∧ ¬ (tx_k g n q = 3 ∧ g (tx_a g n q) = c1) ∧ ¬ (tx_k g n q = 3 ∧ g (tx_a g n q) = c2)) (fun p => bL (S p) (lpM g n S c1 c2 o1 o2 m)) := by
  intro p q M hp h
  have h : bL (S p) (lpM g n S c1 c2 o1 o2 m) = .inr (q, M) := h
  cases e : S p with
  | inl z => rw [e] at h; cases h
  | inr z =>
    obtain ⟨p2, L⟩ := z
    rw [e] at h
    have h5 := hE p p2 L hp e
    have h6' := lpM_end hE m p2 L q M h5.1 (by omega) h5.2.2 h
    exact ⟨h6'.1, by omega, h6'.2.2⟩
theorem sL_end {S : Nat → SL} {c1 c2 o1 o2 : Int} {Q : Nat → Prop} (hn : n ≤ 1600) (hE : endM n Q S) : endM n (fun q => Q q ∧ ¬ (tx_k g n q = 3 ∧ g (tx_a g n q) = c1) ∧ ¬ (tx_k g n q = 3 ∧ g (tx_a g n q) = c2)) (sL g n S c1 c2 o1 o2) := sL_endm 1602 (by decide) hn hE
end RC3
end
section
/-! 5d -/
section RC4
variable {g : Nat → Int} {n : Nat} {al : Int}
theorem mmC_eq {x op o : Int} {b : Bool} {S : Nat → SL} (hx : (x = 21 ∧ op = 5) ∨ (x = 22 ∧ op = 6)) (h6 : b = false → o = 6) (h7 : b = true → ¬ o = 6 ∧ cpN g n al (o + 1) 1 S ∧ endM n (fun q => ¬ opS g n q) S) (P K : List Int) (p : Nat) (hp : p ≤ n) : mmC g n al x P K o p = bL (pairM g n b S op p) (fun q L => RC g n al false (dE P (K ++ L) o).1 (dE P (K ++ L) o).2.1 (dE P (K ++ L) o).2.2 q) := by
  unfold mmC pairM
  by_cases q : tx_k g n p = 3 ∧ g (tx_a g n p) = 40
  · rw [if_pos q, if_pos q]
    unfold opnM
    cases b with
    | false =>
      rw [if_pos (h6 rfl), if_neg (fun r => Bool.noConfusion r)]
      rfl
    | true =>
      obtain ⟨ho, hS, hE⟩ := h7 rfl
      have hle := tx_e_le (f := g) hp
      have hb : brT (x :: P) = x := by
        rcases hx with ⟨e, _⟩ | ⟨e, _⟩ <;> (subst e; rfl)
      have hd : ∀ K, dB (x :: P) K = (x :: P, K) := fun K => by
        rcases hx with ⟨e, _⟩ | ⟨e, _⟩ <;> (subst e; rfl)
      have hk : ∀ K, clK (x + 2) K = K ++ [op] := fun K => by
        rcases hx with ⟨e, e2⟩ | ⟨e, e2⟩ <;> (subst e; subst e2; rfl)
      rw [if_neg ho, if_pos rfl, hS (x :: P) K (tx_e g n p) hle ⟨by omega, by omega⟩]
      show _ = bL (bL (S (tx_e g n p)) _) _
      cases e1 : S (tx_e g n p) with
      | inl z => rfl
      | inr z =>
        obtain ⟨q1, L1⟩ := z
        obtain ⟨l1, _, o1⟩ := hE (tx_e g n p) q1 L1 hle e1
        show RC g n al false (x :: P) (K ++ L1) (o + 1) q1 = bL (ndL (sp_need g n 44 q1) (fun q2 => bL (S q2) (fun q3 L2 => needM g n 41 q3 (L1 ++ L2 ++ [op])))) _
        rw [RC_cm l1 o1 (by rw [hb]; omega), hd]
        by_cases q2 : tx_k g n q1 = 3 ∧ g (tx_a g n q1) = 44
        · have hle1 := tx_e_le (f := g) l1
          rw [if_pos q2, show sp_need g n 44 q1 = .inr (tx_e g n q1) from if_pos q2]
          show RC g n al true ((x + 2) :: P) (K ++ L1) (o + 1) (tx_e g n q1) = bL (bL (S (tx_e g n q1)) (fun q3 L2 => needM g n 41 q3 (L1 ++ L2 ++ [op]))) _
          rw [hS ((x + 2) :: P) (K ++ L1) (tx_e g n q1) hle1 ⟨by omega, by omega⟩]
          cases e2 : S (tx_e g n q1) with
          | inl z => rfl
          | inr z =>
            obtain ⟨q3, L2⟩ := z
            obtain ⟨l3, _, o3⟩ := hE (tx_e g n q1) q3 L2 hle1 e2
            show RC g n al false ((x + 2) :: P) (K ++ L1 ++ L2) (o + 1) q3 = bL (needM g n 41 q3 (L1 ++ L2 ++ [op])) _
            rw [RC_br l3 o3 (by omega), hk]
            unfold needM
            cases sp_need g n 41 q3 with
            | inl z => rfl
            | inr q4 =>
              show RC g n al false (dE P (K ++ L1 ++ L2 ++ [op]) o).1 (dE P (K ++ L1 ++ L2 ++ [op]) o).2.1 (dE P (K ++ L1 ++ L2 ++ [op]) o).2.2 q4 = RC g n al false (dE P (K ++ (L1 ++ L2 ++ [op])) o).1 (dE P (K ++ (L1 ++ L2 ++ [op])) o).2.1 (dE P (K ++ (L1 ++ L2 ++ [op])) o).2.2 q4
              rw [← List.append_assoc, ← List.append_assoc]
        · rw [if_neg q2, show sp_need g n 44 q1 = .inl (1, (tx_a g n q1 : Int)) from if_neg q2]
          rfl
  · rw [if_neg q, if_neg q]
    rfl
theorem partC_eq {b : Bool} {S Pt : Nat → SL} {o : Int} (h6 : b = false → o = 6) (h7 : b = true → ¬ o = 6 ∧ cpN g n al (o + 1) 1 S ∧ endM n (fun q => ¬ opS g n q) S) (h8 : b = true → cpP g n al (o + 1) Pt) : cpP g n al o (partM g n al b S Pt) := by
  intro P K p hp
  have hle := tx_e_le (f := g) hp
  unfold partM
  by_cases q0 : tx_k g n p = 2
  · have n1 : ∀ ws, wl g n ws p = -1 := fun ws => by
      unfold wl
      rw [if_neg (by omega)]
    rw [if_pos q0, RC_at hp (fun r => by omega) (n1 _) (n1 _) (fun r => r.2 (n1 _)), show atM g n al p = numM g n p from if_pos q0]
  · rw [if_neg q0]
    by_cases q1 : tx_k g n p = 3 ∧ g (tx_a g n p) = 40
    · rw [if_pos q1]
      unfold opnM
      cases b with
      | false =>
        rw [h6 rfl, RC_o6 q1, if_neg (fun r => Bool.noConfusion r)]
        rfl
      | true =>
        obtain ⟨ho, hS, hE⟩ := h7 rfl
        rw [RC_o1 hp q1 ho, if_pos rfl, hS (20 :: P) K (tx_e g n p) hle ⟨by decide, by decide⟩]
        show _ = bL (bL (S (tx_e g n p)) _) _
        cases e1 : S (tx_e g n p) with
        | inl z => rfl
        | inr z =>
          obtain ⟨q, L⟩ := z
          obtain ⟨l1, _, o1⟩ := hE (tx_e g n p) q L hle e1
          show RC g n al false (20 :: P) (K ++ L) (o + 1) q = bL (needM g n 41 q L) _
          rw [RC_br l1 o1 (Or.inl rfl)]
          unfold needM
          cases sp_need g n 41 q with
          | inl z => rfl
          | inr q4 => rfl
    · rw [if_neg q1]
      by_cases q2 : wl g n ws_17 p = -1
      · rw [if_neg (show ¬ ¬ wl g n ws_17 p = -1 from fun r => r q2)]
        by_cases q3 : wl g n ws_18 p = -1
        · rw [if_neg (show ¬ ¬ wl g n ws_18 p = -1 from fun r => r q3)]
          by_cases q4 : al = 3707 ∧ ¬ wl g n ws_19 p = -1
          · rw [if_pos q4]
            unfold opnM
            cases b with
            | false =>
              rw [h6 rfl, RC_k6 q2 q3 q4, if_neg (fun r => Bool.noConfusion r)]
              rfl
            | true =>
              rw [RC_k1 hp q2 q3 q4 (h7 rfl).1, if_pos rfl, h8 rfl (60 :: P) K (tx_e g n p) hle]
              show _ = bL (bL (Pt (tx_e g n p)) _) _
              cases e1 : Pt (tx_e g n p) with
              | inl z => rfl
              | inr z =>
                obtain ⟨q, L⟩ := z
                have e9 : dE (60 :: P) (K ++ L) (o + 1) = dE P (K ++ (L ++ [60])) o := by
                  show (if (60 : Int) < 60 then ((60 :: P), K ++ L, o + 1) else dE P (K ++ L ++ [60]) (o + 1 - 1)) = _
                  rw [if_neg (by decide), show o + 1 - 1 = o from by omega, List.append_assoc]
                show RC g n al false (dE (60 :: P) (K ++ L) (o + 1)).1 (dE (60 :: P) (K ++ L) (o + 1)).2.1 (dE (60 :: P) (K ++ L) (o + 1)).2.2 q = _
                rw [e9]
                rfl
          · rw [if_neg q4, RC_at hp q1 q2 q3 q4, show atM g n al p = pwM g n al p from if_neg q0]
        · rw [if_pos q3, RC_mx hp q2 q3]
          exact mmC_eq (Or.inr ⟨rfl, rfl⟩) h6 h7 P K (tx_e g n p) hle
      · rw [if_pos q2, RC_mm hp q2]
        exact mmC_eq (Or.inl ⟨rfl, rfl⟩) h6 h7 P K (tx_e g n p) hle
theorem rlA_end {sp : Nat → CD → ST × CD} {S : Nat → SL} {Q : Nat → Prop} (h : rlA n sp S) (hok : okR n sp) (hQ : ∀ p c q, p ≤ n → (sp p c).1 = .inr q → Q q) : endM n Q S := by
  intro p q L hp e
  have h1 := h p (0, fun _ => 0) hp
  rw [e] at h1
  have h1' : sp p (0, fun _ => 0) = (.inr q, ems (0, fun _ => 0) (L.map toC)) := h1
  have h2 := hok p (0, fun _ => 0) hp
  rw [h1'] at h2
  exact ⟨h2.1, h2.2 q rfl, hQ p (0, fun _ => 0) q hp (by rw [h1'])⟩
theorem sumC_cl {o : Int} {S : Nat → SL} (hn : n ≤ 1600) (h : cpP g n al o S) (hE : endM n (fun _ => True) S) : cpN g n al o 1 (sL g n (sL g n S 42 47 3 4) 43 45 1 2) ∧ endM n (fun q => ¬ opS g n q) (sL g n (sL g n S 42 47 3 4) 43 45 1 2) := by
  have hN : ∀ lo, cpN g n al o lo S := fun lo P K p hp hT => by
    rw [h P K p hp]
    exact bL_cg (fun q L _ => by rw [tpN_E hT])
  have hM : ∀ x, x = 3 ∨ x = 4 → ∀ (P K : List Int) (p : Nat), p ≤ n → tpN 3 P → RC g n al true (x :: P) K o p = bL (S p) (fun q L => RC g n al false P (K ++ L ++ [x]) o q) := by
    intro x hx P K p hp hT
    rw [h (x :: P) K p hp]
    refine bL_cg (fun q L _ => ?_)
    rw [show dE (x :: P) (K ++ L) o = (x :: P, K ++ L, o) from if_pos (by omega)]
    exact RC_m hx
  have hc1 : ∀ p, (tx_k g n p = 3 ∧ g (tx_a g n p) = 42 → opS g n p ∧ opC g n p = 3 ∧ opL g n p = 3) ∧ (tx_k g n p = 3 ∧ g (tx_a g n p) = 47 → opS g n p ∧ opC g n p = 4 ∧ opL g n p = 3) := by
    intro p
    refine ⟨fun r => ⟨⟨r.1, Or.inl r.2⟩, if_pos r.2, if_pos (Or.inl r.2)⟩, fun r => ⟨⟨r.1, Or.inr (Or.inl r.2)⟩, ?_, if_pos (Or.inr r.2)⟩⟩
    unfold opC
    rw [if_neg (by have := r.2; omega), if_pos r.2]
  have hpr : cpN g n al o 3 (sL g n S 42 47 3 4) := sL_eq hE (hN 3) hM hc1
  have hpE := sL_end (g := g) (c1 := 42) (c2 := 47) (o1 := 3) (o2 := 4) hn hE
  have hA : ∀ x, x = 1 ∨ x = 2 → ∀ (P K : List Int) (p : Nat), p ≤ n → tpN 1 P → RC g n al true (x :: P) K o p = bL (sL g n S 42 47 3 4 p) (fun q L => RC g n al false P (K ++ L ++ [x]) o q) := by
    intro x hx P K p hp hT
    rw [hpr (x :: P) K p hp ⟨by omega, by omega⟩]
    refine bL_cg (fun q L e => ?_)
    have h5 := (hpE p q L hp e).2.2
    exact RC_a hx (fun r => r.2.elim (fun s => h5.2.1 ⟨r.1, s⟩) (fun s => h5.2.2 ⟨r.1, s⟩))
  have hc2 : ∀ p, (tx_k g n p = 3 ∧ g (tx_a g n p) = 43 → opS g n p ∧ opC g n p = 1 ∧ opL g n p = 1) ∧ (tx_k g n p = 3 ∧ g (tx_a g n p) = 45 → opS g n p ∧ opC g n p = 2 ∧ opL g n p = 1) := by
    intro p
    refine ⟨fun r => ⟨⟨r.1, Or.inr (Or.inr (Or.inl r.2))⟩, ?_, if_neg (by have := r.2; omega)⟩, fun r => ⟨⟨r.1, Or.inr (Or.inr (Or.inr r.2))⟩, ?_, if_neg (by have := r.2; omega)⟩⟩
    · unfold opC
      rw [if_neg (by have := r.2; omega), if_neg (by have := r.2; omega), if_pos r.2]
    · unfold opC
      rw [if_neg (by have := r.2; omega), if_neg (by have := r.2; omega), if_neg (by have := r.2; omega)]
  refine ⟨sL_eq hpE (fun P K p hp hT => hpr P K p hp ?_) hA hc2, ?_⟩
  · cases P with
    | nil => exact True.intro
    | cons x P => exact ⟨hT.1, fun r => hT.2 ⟨by omega, r.2⟩⟩
  · have hsE := sL_end (g := g) (c1 := 43) (c2 := 45) (o1 := 1) (o2 := 2) hn hpE
    intro p q L hp e
    obtain ⟨a1, a2, a3, a4, a5⟩ := hsE p q L hp e
    refine ⟨a1, a2, fun r => ?_⟩
    rcases r.2 with x | x | x | x
    · exact a3.2.1 ⟨r.1, x⟩
    · exact a3.2.2 ⟨r.1, x⟩
    · exact a4 ⟨r.1, x⟩
    · exact a5 ⟨r.1, x⟩
theorem part_endM (d : Nat) : endM n (fun _ => True) (mPart g n al d) := rlA_end (part_r d) (sPart_ok d) (fun _ _ _ _ _ => True.intro)
theorem P_allC (hn : n ≤ 1600) : ∀ d : Nat, d ≤ 6 → cpP g n al (6 - (d : Int)) (mPart g n al d)
  | 0, _ => partC_eq (fun _ => rfl) (fun r => Bool.noConfusion r) (fun r => Bool.noConfusion r)
  | d + 1, hd => by
    have h1 := P_allC hn d (by omega)
    have e : (6 - ((d + 1 : Nat) : Int)) + 1 = 6 - (d : Int) := by omega
    have h2 := sumC_cl hn h1 (part_endM d)
    refine partC_eq (fun r => Bool.noConfusion r) (fun _ => ⟨by omega, ?_⟩) (fun _ => ?_)
    · rw [e]
      exact h2
    · rw [e]
      exact h1
theorem S_allC (hn : n ≤ 1600) (d : Nat) (hd : d ≤ 6) : cpN g n al (6 - (d : Int)) 1 (mSum g n al d) ∧ endM n (fun q => ¬ opS g n q) (mSum g n al d) := sumC_cl hn (P_allC hn d hd) (part_endM d)
/-- a sum's codes read by the machine are those read level by level -/
theorem sumC_eq (hn : n ≤ 1600) (d : Nat) (hd : d ≤ 6) (p : Nat) (K : List Int) (hp : p ≤ n) : RC g n al true [] K (6 - (d : Int)) p = bL (mSum g n al d p) (fun q L => .inr (q, K ++ L)) := by
  have h := S_allC (g := g) (al := al) hn d hd
  rw [h.1 [] K p hp True.intro]
  refine bL_cg (fun q L e => ?_)
  have h2 := h.2 p q L hp e
  rw [RC_nd h2.2.2 rfl, List.append_nil]
end RC4
end
section
/-! 5e -/
/-! the model's machine for tests, with what waits and its codes -/
def dA (hi : Int) : List Int → List Int → List Int × List Int
  | [], K => ([], K)
  | x :: P, K => if 10 ≤ x ∧ x ≤ hi then dA hi P (K ++ [x]) else (x :: P, K)
def dN : List Int → List Int → Int → List Int × List Int × Int
  | [], K, o => ([], K, o)
  | x :: P, K, o => if x = 12 then dN P (K ++ [x]) (o - 1) else (x :: P, K, o)
/-- all down to the square falls, and the square -/
def dS : List Int → List Int → List Int × List Int
  | [], K => ([], K)
  | x :: P, K => if x = 25 then (P, K) else dS P (K ++ [x])
def fcC (g : Nat → Int) (n : Nat) (al : Int) (K : List Int) (o : Int) (p : Nat) : SL := if ¬ wl g n ws_16 p = -1 then .inr (tx_e g n p, K ++ [13]) else bL (RC g n al true [] K o p) (fun p1 K1 => ndL (sp_sg g n p1).2 (fun p2 => bL (RC g n al true [] K1 o p2) (fun q K2 => .inr (q, K2 ++ [-19 - (sp_sg g n p1).1]))))
def anW (g : Nat → Int) (n p : Nat) : Prop := ¬ wl g n ws_14 p = -1
def mTc (g : Nat → Int) (n : Nat) (al : Int) : Nat → Bool → List Int → List Int → Int → Nat → SL
  | 0, _, _, _, _, _ => .inl (0, 0)
  | f + 1, true, P, K, o, p => if tx_k g n p = 3 ∧ g (tx_a g n p) = 91 then (if o = 6 then .inl (4, (tx_a g n p : Int)) else mTc g n al f true (25 :: P) K (o + 1) (tx_e g n p)) else if ¬ wl g n ws_15 p = -1 then (if o = 6 then .inl (4, (tx_a g n p : Int)) else mTc g n al f true (12 :: P) K (o + 1) (tx_e g n p)) else bL (fcC g n al K o p) (fun q K2 => mTc g n al f false (dN P K2 o).1 (dN P K2 o).2.1 (dN P K2 o).2.2 q)
  | f + 1, false, P, K, o, p => if (tx_k g n p = 3 ∧ g (tx_a g n p) = 93) ∧ tMem P = true then mTc g n al f false (dN (dS P K).1 (dS P K).2 (o - 1)).1 (dN (dS P K).1 (dS P K).2 (o - 1)).2.1 (dN (dS P K).1 (dS P K).2 (o - 1)).2.2 (tx_e g n p) else if ¬ wl g n ws_14 p = -1 then mTc g n al f true (10 :: (dA 10 P K).1) (dA 10 P K).2 o (tx_e g n p) else if ¬ wl g n ws_13 p = -1 then mTc g n al f true (11 :: (dA 11 P K).1) (dA 11 P K).2 o (tx_e g n p) else if tMem P = true then .inl (1, (tx_a g n p : Int)) else .inr (p, K ++ P)
section TC
variable {g : Nat → Int} {n : Nat} {al : Int}
theorem mRc_ok : ∀ (f : Nat) (m : Bool) (P K : List Int) (o : Int) (p q : Nat) (M : List Int), p ≤ n → mRc g n al f m P K o p = .inr (q, M) → q ≤ n ∧ p ≤ q ∧ (m = true → p < q) := by
  intro f
  induction f with
  | zero => intro m P K o p q M hp h; cases h
  | succ f ih =>
    intro m P K o p q M hp
    have hle := tx_e_le (f := g) hp
    have hle2 := tx_e_le (f := g) hle
    have go : ∀ (m2 : Bool) (P2 K2 : List Int) (o2 : Int) (p2 : Nat), p2 ≤ n → p < p2 → mRc g n al f m2 P2 K2 o2 p2 = .inr (q, M) → q ≤ n ∧ p ≤ q ∧ (m = true → p < q) := by
      intro m2 P2 K2 o2 p2 h1 h2 h3
      have := ih m2 P2 K2 o2 p2 q M h1 h3
      exact ⟨this.1, by omega, fun _ => by omega⟩
    have ite6 : ∀ (x : Int × Int) (P2 K2 : List Int) (p2 : Nat), p2 ≤ n → p < p2 → (if o = 6 then (.inl x : SL) else mRc g n al f true P2 K2 (o + 1) p2) = .inr (q, M) → q ≤ n ∧ p ≤ q ∧ (m = true → p < q) := by
      intro x P2 K2 p2 h1 h2 h3
      by_cases h6 : o = 6
      · rw [if_pos h6] at h3; cases h3
      · rw [if_neg h6] at h3
        exact go true P2 K2 (o + 1) p2 h1 h2 h3
    cases m with
    | true =>
      unfold mRc
      split
      · rename_i c
        exact ite6 _ _ _ _ hle (tx_e_gt' (by omega))
      · split
        · rename_i c
          have hlt : p < tx_e g n p := tx_e_gt' (by have := wl_k c; omega)
          split
          · rename_i c5
            have hlt2 : tx_e g n p < tx_e g n (tx_e g n p) := tx_e_gt' (by omega)
            exact ite6 _ _ _ _ hle2 (by omega)
          · intro h; cases h
        · split
          · rename_i c
            have hlt : p < tx_e g n p := tx_e_gt' (by have := wl_k c; omega)
            split
            · rename_i c5
              have hlt2 : tx_e g n p < tx_e g n (tx_e g n p) := tx_e_gt' (by omega)
              exact ite6 _ _ _ _ hle2 (by omega)
            · intro h; cases h
          · split
            · rename_i c
              exact ite6 _ _ _ _ hle (tx_e_gt' (by have := wl_k c.2; omega))
            · intro h
              cases e : atM g n al p with
              | inl z => rw [e] at h; cases h
              | inr z =>
                obtain ⟨q2, L⟩ := z
                rw [e] at h
                have h5 := atM_ok hp e
                exact go false _ _ _ q2 h5.2 h5.1 h
    | false =>
      unfold mRc
      split
      · rename_i c
        exact go false _ _ _ _ hle (tx_e_gt' (by omega))
      · split
        · rename_i c
          exact go true _ _ _ _ hle (tx_e_gt' (by omega))
        · split
          · split
            · rename_i c
              exact go true _ _ _ _ hle (tx_e_gt' (by omega))
            · intro h; cases h
          · split
            · intro h
              cases h
              exact ⟨hp, Nat.le_refl _, fun r => Bool.noConfusion r⟩
            · intro h; cases h
theorem RC_ok {P K M : List Int} {o : Int} {p q : Nat} (hp : p ≤ n) (h : RC g n al true P K o p = .inr (q, M)) : q ≤ n ∧ p < q := by
  have := mRc_ok (n - p + 1) true P K o p q M hp h
  exact ⟨this.1, this.2.2 rfl⟩
theorem fcC_ok {K M : List Int} {o : Int} {p q : Nat} (hp : p ≤ n) (h : fcC g n al K o p = .inr (q, M)) : q ≤ n ∧ p < q := by
  unfold fcC at h
  by_cases k : wl g n ws_16 p = -1
  · rw [if_neg (fun r => r k)] at h
    cases e1 : RC g n al true [] K o p with
    | inl z => rw [e1] at h; cases h
    | inr z =>
      obtain ⟨p1, K1⟩ := z
      rw [e1] at h
      have l1 := RC_ok hp e1
      have h' : ndL (sp_sg g n p1).2 (fun p2 => bL (RC g n al true [] K1 o p2) (fun q K2 => .inr (q, K2 ++ [-19 - (sp_sg g n p1).1]))) = .inr (q, M) := h
      cases e2 : (sp_sg g n p1).2 with
      | inl z => rw [e2] at h'; cases h'
      | inr p2 =>
        rw [e2] at h'
        have l2 := sp_sg_gt e2
        have l2n : p2 ≤ n := sv_le (sp_sg_v (g := g) l1.1) e2
        have h2 : bL (RC g n al true [] K1 o p2) (fun q K2 => .inr (q, K2 ++ [-19 - (sp_sg g n p1).1])) = .inr (q, M) := h'
        cases e3 : RC g n al true [] K1 o p2 with
        | inl z => rw [e3] at h2; cases h2
        | inr z =>
          obtain ⟨p3, K3⟩ := z
          rw [e3] at h2
          have l3 := RC_ok l2n e3
          cases h2
          exact ⟨l3.1, by omega⟩
  · rw [if_pos k] at h
    cases h
    exact ⟨tx_e_le hp, tx_e_gt' (by have := wl_k k; omega)⟩
theorem mTc_f : ∀ (f f2 : Nat) (m : Bool) (P K : List Int) (o : Int) (p : Nat), p ≤ n → n - p < f → n - p < f2 → mTc g n al f m P K o p = mTc g n al f2 m P K o p := by
  intro f
  induction f with
  | zero => intro f2 m P K o p h1 h2; omega
  | succ f ih =>
    intro f2 m P K o p hp h2 h3
    obtain ⟨f2, rfl⟩ : ∃ k, f2 = k + 1 := ⟨f2 - 1, by omega⟩
    have hle := tx_e_le (f := g) hp
    cases m with
    | true =>
      unfold mTc
      by_cases c1 : tx_k g n p = 3 ∧ g (tx_a g n p) = 91
      · have hlt : p < tx_e g n p := tx_e_gt' (by omega)
        rw [if_pos c1, if_pos c1, ih f2 true (25 :: P) K (o + 1) (tx_e g n p) hle (by omega) (by omega)]
      · rw [if_neg c1, if_neg c1]
        by_cases c2 : wl g n ws_15 p = -1
        · rw [if_neg (show ¬ ¬ wl g n ws_15 p = -1 from fun r => r c2), if_neg (show ¬ ¬ wl g n ws_15 p = -1 from fun r => r c2)]
          refine bL_cg (fun q L e => ?_)
          have h5 := fcC_ok hp e
          exact ih f2 false _ _ _ q h5.1 (by omega) (by omega)
        · have hlt : p < tx_e g n p := tx_e_gt' (by have := wl_k c2; omega)
          rw [if_pos c2, if_pos c2, ih f2 true (12 :: P) K (o + 1) (tx_e g n p) hle (by omega) (by omega)]
    | false =>
      unfold mTc
      by_cases c1 : (tx_k g n p = 3 ∧ g (tx_a g n p) = 93) ∧ tMem P = true
      · have hlt : p < tx_e g n p := tx_e_gt' (by omega)
        rw [if_pos c1, if_pos c1]
        exact ih f2 false _ _ _ (tx_e g n p) hle (by omega) (by omega)
      · rw [if_neg c1, if_neg c1]
        by_cases c2 : wl g n ws_14 p = -1
        · rw [if_neg (show ¬ ¬ wl g n ws_14 p = -1 from fun r => r c2), if_neg (show ¬ ¬ wl g n ws_14 p = -1 from fun r => r c2)]
          by_cases c3 : wl g n ws_13 p = -1
          · rw [if_neg (show ¬ ¬ wl g n ws_13 p = -1 from fun r => r c3), if_neg (show ¬ ¬ wl g n ws_13 p = -1 from fun r => r c3)]
          · have hlt : p < tx_e g n p := tx_e_gt' (by have := wl_k c3; omega)
            rw [if_pos c3, if_pos c3]
            exact ih f2 true _ _ o (tx_e g n p) hle (by omega) (by omega)
        · have hlt : p < tx_e g n p := tx_e_gt' (by have := wl_k c2; omega)
          rw [if_pos c2, if_pos c2]
          exact ih f2 true _ _ o (tx_e g n p) hle (by omega) (by omega)
end TC
def TC (g : Nat → Int) (n : Nat) (al : Int) (m : Bool) (P K : List Int) (o : Int) (p : Nat) : SL := mTc g n al (n - p + 1) m P K o p
end
section
/-! 5f -/
section TC2
variable {g : Nat → Int} {n : Nat} {al : Int}
theorem TC_tu {P K : List Int} {o : Int} {p : Nat} : TC g n al true P K o p = (if tx_k g n p = 3 ∧ g (tx_a g n p) = 91 then (if o = 6 then .inl (4, (tx_a g n p : Int)) else mTc g n al (n - p) true (25 :: P) K (o + 1) (tx_e g n p)) else if ¬ wl g n ws_15 p = -1 then (if o = 6 then .inl (4, (tx_a g n p : Int)) else mTc g n al (n - p) true (12 :: P) K (o + 1) (tx_e g n p)) else bL (fcC g n al K o p) (fun q K2 => mTc g n al (n - p) false (dN P K2 o).1 (dN P K2 o).2.1 (dN P K2 o).2.2 q)) := rfl
theorem TC_fu {P K : List Int} {o : Int} {p : Nat} : TC g n al false P K o p = (if (tx_k g n p = 3 ∧ g (tx_a g n p) = 93) ∧ tMem P = true then mTc g n al (n - p) false (dN (dS P K).1 (dS P K).2 (o - 1)).1 (dN (dS P K).1 (dS P K).2 (o - 1)).2.1 (dN (dS P K).1 (dS P K).2 (o - 1)).2.2 (tx_e g n p) else if ¬ wl g n ws_14 p = -1 then mTc g n al (n - p) true (10 :: (dA 10 P K).1) (dA 10 P K).2 o (tx_e g n p) else if ¬ wl g n ws_13 p = -1 then mTc g n al (n - p) true (11 :: (dA 11 P K).1) (dA 11 P K).2 o (tx_e g n p) else if tMem P = true then .inl (1, (tx_a g n p : Int)) else .inr (p, K ++ P)) := rfl
theorem TC_f {m : Bool} {P K : List Int} {o : Int} {p q : Nat} (hq : q ≤ n) (hp : p < q) : mTc g n al (n - p) m P K o q = TC g n al m P K o q := mTc_f _ _ _ _ _ _ _ hq (by omega) (by omega)
theorem TC_s1 {P K : List Int} {o : Int} {p : Nat} (hp : p ≤ n) (c : tx_k g n p = 3 ∧ g (tx_a g n p) = 91) (ho : ¬ o = 6) : TC g n al true P K o p = TC g n al true (25 :: P) K (o + 1) (tx_e g n p) := by
  have hlt : p < tx_e g n p := tx_e_gt' (by omega)
  rw [← TC_f (p := p) (tx_e_le hp) hlt]
  rw [TC_tu, if_pos c, if_neg ho]
theorem TC_s6 {P K : List Int} {p : Nat} (c : tx_k g n p = 3 ∧ g (tx_a g n p) = 91) : TC g n al true P K 6 p = .inl (4, (tx_a g n p : Int)) := by
  rw [TC_tu, if_pos c, if_pos rfl]
theorem TC_n1 {P K : List Int} {o : Int} {p : Nat} (hp : p ≤ n) (c : ¬ wl g n ws_15 p = -1) (ho : ¬ o = 6) : TC g n al true P K o p = TC g n al true (12 :: P) K (o + 1) (tx_e g n p) := by
  have hk := wl_k c
  have hlt : p < tx_e g n p := tx_e_gt' (by omega)
  rw [← TC_f (p := p) (tx_e_le hp) hlt]
  rw [TC_tu, if_neg (k1_no hk), if_pos c, if_neg ho]
theorem TC_n6 {P K : List Int} {p : Nat} (c : ¬ wl g n ws_15 p = -1) : TC g n al true P K 6 p = .inl (4, (tx_a g n p : Int)) := by
  have hk := wl_k c
  rw [TC_tu, if_neg (k1_no hk), if_pos c, if_pos rfl]
theorem TC_at {P K : List Int} {o : Int} {p : Nat} (hp : p ≤ n) (c : ¬ (tx_k g n p = 3 ∧ g (tx_a g n p) = 91)) (c0 : wl g n ws_15 p = -1) : TC g n al true P K o p = bL (fcC g n al K o p) (fun q K2 => TC g n al false (dN P K2 o).1 (dN P K2 o).2.1 (dN P K2 o).2.2 q) := by
  have e : bL (fcC g n al K o p) (fun q K2 => TC g n al false (dN P K2 o).1 (dN P K2 o).2.1 (dN P K2 o).2.2 q) = bL (fcC g n al K o p) (fun q K2 => mTc g n al (n - p) false (dN P K2 o).1 (dN P K2 o).2.1 (dN P K2 o).2.2 q) := bL_cg (fun q L e => (TC_f (p := p) (fcC_ok hp e).1 (fcC_ok hp e).2).symm)
  rw [e]
  rw [TC_tu, if_neg c, if_neg (show ¬ ¬ wl g n ws_15 p = -1 from fun r => r c0)]
theorem TC_cl {P K : List Int} {o : Int} {p : Nat} (hp : p ≤ n) (c : tx_k g n p = 3 ∧ g (tx_a g n p) = 93) (hm : tMem P = true) : TC g n al false P K o p = TC g n al false (dN (dS P K).1 (dS P K).2 (o - 1)).1 (dN (dS P K).1 (dS P K).2 (o - 1)).2.1 (dN (dS P K).1 (dS P K).2 (o - 1)).2.2 (tx_e g n p) := by
  have hlt : p < tx_e g n p := tx_e_gt' (by omega)
  rw [← TC_f (p := p) (tx_e_le hp) hlt]
  rw [TC_fu, if_pos ⟨c, hm⟩]
theorem TC_an {P K : List Int} {o : Int} {p : Nat} (hp : p ≤ n) (c : ¬ wl g n ws_14 p = -1) : TC g n al false P K o p = TC g n al true (10 :: (dA 10 P K).1) (dA 10 P K).2 o (tx_e g n p) := by
  have hk := wl_k c
  have hlt : p < tx_e g n p := tx_e_gt' (by omega)
  rw [← TC_f (p := p) (tx_e_le hp) hlt]
  rw [TC_fu, if_neg (fun r => k1_no hk r.1), if_pos c]
theorem TC_or {P K : List Int} {o : Int} {p : Nat} (hp : p ≤ n) (c0 : wl g n ws_14 p = -1) (c : ¬ wl g n ws_13 p = -1) : TC g n al false P K o p = TC g n al true (11 :: (dA 11 P K).1) (dA 11 P K).2 o (tx_e g n p) := by
  have hk := wl_k c
  have hlt : p < tx_e g n p := tx_e_gt' (by omega)
  rw [← TC_f (p := p) (tx_e_le hp) hlt]
  rw [TC_fu, if_neg (fun r => k1_no hk r.1), if_neg (show ¬ ¬ wl g n ws_14 p = -1 from fun r => r c0), if_pos c]
theorem TC_bd {P K : List Int} {o : Int} {p : Nat} (c0 : ¬ (tx_k g n p = 3 ∧ g (tx_a g n p) = 93)) (c : ¬ jnW g n p) (hm : tMem P = true) : TC g n al false P K o p = .inl (1, (tx_a g n p : Int)) := by
  rw [TC_fu, if_neg (fun r => c0 r.1), if_neg (fun r => c (Or.inl r)), if_neg (fun r => c (Or.inr r)), if_pos hm]
theorem TC_nd {P K : List Int} {o : Int} {p : Nat} (c : ¬ jnW g n p) (hm : tMem P = false) : TC g n al false P K o p = .inr (p, K ++ P) := by
  rw [TC_fu, if_neg (fun r => Bool.noConfusion (hm.symm.trans r.2)), if_neg (fun r => c (Or.inl r)), if_neg (fun r => c (Or.inr r)), if_neg (fun r => Bool.noConfusion (hm.symm.trans r))]
theorem TC_10 {P K : List Int} {o : Int} {p : Nat} : TC g n al false (10 :: P) K o p = TC g n al false P (K ++ [10]) o p := by
  show mTc g n al (n - p + 1) false (10 :: P) K o p = mTc g n al (n - p + 1) false P (K ++ [10]) o p
  have e1 : tMem (10 :: P) = tMem P := rfl
  have e2 : dS (10 :: P) K = dS P (K ++ [10]) := rfl
  have e3 : dA 10 (10 :: P) K = dA 10 P (K ++ [10]) := rfl
  have e4 : dA 11 (10 :: P) K = dA 11 P (K ++ [10]) := rfl
  unfold mTc
  rw [e1, e2, e3, e4, List.append_assoc]
  rfl
theorem TC_11 {P K : List Int} {o : Int} {p : Nat} (c : wl g n ws_14 p = -1) : TC g n al false (11 :: P) K o p = TC g n al false P (K ++ [11]) o p := by
  show mTc g n al (n - p + 1) false (11 :: P) K o p = mTc g n al (n - p + 1) false P (K ++ [11]) o p
  have e1 : tMem (11 :: P) = tMem P := rfl
  have e2 : dS (11 :: P) K = dS P (K ++ [11]) := rfl
  have e4 : dA 11 (11 :: P) K = dA 11 P (K ++ [11]) := rfl
  unfold mTc
  rw [e1, e2, e4, if_neg (show ¬ ¬ wl g n ws_14 p = -1 from fun r => r c), if_neg (show ¬ ¬ wl g n ws_14 p = -1 from fun r => r c), List.append_assoc]
  rfl
/-- behind the last fact in a square -/
theorem TC_sq {P K : List Int} {o : Int} {p : Nat} (hp : p ≤ n) (c : ¬ jnW g n p) : TC g n al false (25 :: P) K (o + 1) p = ndL (sp_need g n 93 p) (fun p2 => TC g n al false (dN P K o).1 (dN P K o).2.1 (dN P K o).2.2 p2) := by
  have hm : tMem (25 :: P) = true := rfl
  have hd : dS (25 :: P) K = (P, K) := rfl
  by_cases q : tx_k g n p = 3 ∧ g (tx_a g n p) = 93
  · rw [TC_cl hp q hm, hd, show sp_need g n 93 p = .inr (tx_e g n p) from if_pos q, show o + 1 - 1 = o from by omega]
    rfl
  · rw [TC_bd q c hm, show sp_need g n 93 p = .inl (1, (tx_a g n p : Int)) from if_neg q]
    rfl
def tpA (hi : Int) : List Int → Prop
  | [] => True
  | x :: _ => ¬ x = 12 ∧ ¬ (10 ≤ x ∧ x ≤ hi)
theorem tpA_N {hi : Int} {P : List Int} (h : tpA hi P) (K : List Int) (k : Int) : dN P K k = (P, K, k) := by
  cases P with
  | nil => rfl
  | cons x P => exact if_neg h.1
theorem tpA_A {hi : Int} {P : List Int} (h : tpA hi P) (K : List Int) : dA hi P K = (P, K) := by
  cases P with
  | nil => rfl
  | cons x P => exact if_neg h.2
def cfP (g : Nat → Int) (n : Nat) (al : Int) (o : Int) (S : Nat → SL) : Prop := ∀ (P K : List Int) (p : Nat), p ≤ n → TC g n al true P K o p = bL (S p) (fun q L => TC g n al false (dN P (K ++ L) o).1 (dN P (K ++ L) o).2.1 (dN P (K ++ L) o).2.2 q)
def cfN (g : Nat → Int) (n : Nat) (al : Int) (o : Int) (hi : Int) (S : Nat → SL) : Prop := ∀ (P K : List Int) (p : Nat), p ≤ n → tpA hi P → TC g n al true P K o p = bL (S p) (fun q L => TC g n al false P (K ++ L) o q)
theorem lvM_eq {o hi x : Int} {S : Nat → SL} {ws : List (List Int)} {Q : Nat → Prop} (hE : endM n Q S) (h : ∀ (P K : List Int) (p : Nat), p ≤ n → tpA hi P → TC g n al true (x :: P) K o p = bL (S p) (fun q L => TC g n al false P (K ++ L ++ [x]) o q)) (hc : ∀ (P K : List Int) (p : Nat), p ≤ n → Q p → ¬ wl g n ws p = -1 → TC g n al false P K o p = TC g n al true (x :: (dA hi P K).1) (dA hi P K).2 o (tx_e g n p)) : ∀ (m : Nat) (P K L : List Int) (p : Nat), p ≤ n → Q p → tpA hi P → TC g n al false P (K ++ L) o p = bL (lvM g n S ws x m p L) (fun q L => TC g n al false P (K ++ L) o q) := by
  intro m
  induction m with
  | zero => intro P K L p hp hQ hT; rfl
  | succ m ih =>
    intro P K L p hp hQ hT
    have hle := tx_e_le (f := g) hp
    unfold lvM
    by_cases q1 : wl g n ws p = -1
    · rw [if_pos q1]
      rfl
    · rw [if_neg q1, hc P (K ++ L) p hp hQ q1, tpA_A hT, h P (K ++ L) (tx_e g n p) hle hT]
      cases e : S (tx_e g n p) with
      | inl z => rfl
      | inr z =>
        obtain ⟨q, M⟩ := z
        have hq := hE (tx_e g n p) q M hle e
        have := ih P K (L ++ M ++ [x]) q hq.1 hq.2.2 hT
        show TC g n al false P (K ++ L ++ M ++ [x]) o q = bL (lvM g n S ws x m q (L ++ M ++ [x])) (fun q L => TC g n al false P (K ++ L) o q)
        rw [← this, ← List.append_assoc, ← List.append_assoc]
theorem vL_eqm (m : Nat) {o hi x : Int} {S : Nat → SL} {ws : List (List Int)} {Q : Nat → Prop} (hE : endM n Q S) (h0 : cfN g n al o hi S) (h : ∀ (P K : List Int) (p : Nat), p ≤ n → tpA hi P → TC g n al true (x :: P) K o p = bL (S p) (fun q L => TC g n al false P (K ++ L ++ [x]) o q)) (hc : ∀ (P K : List Int) (p : Nat), p ≤ n → Q p → ¬ wl g n ws p = -1 → TC g n al false P K o p = TC g n al true (x :: (dA hi P K).1) (dA hi P K).2 o (tx_e g n p)) : cfN g n al o hi (fun p => bL (S p) (lvM g n S ws x m)) := by
  intro P K p hp hT
  show _ = bL (bL (S p) (lvM g n S ws x m)) _
  rw [h0 P K p hp hT]
  cases e : S p with
  | inl z => rfl
  | inr z =>
    obtain ⟨q, L⟩ := z
    have h5 := hE p q L hp e
    exact lvM_eq hE h hc m P K L q h5.1 h5.2.2 hT
theorem vL_eq {o hi x : Int} {S : Nat → SL} {ws : List (List Int)} {Q : Nat → Prop} (hE : endM n Q S) (h0 : cfN g n al o hi S) (h : ∀ (P K : List Int) (p : Nat), p ≤ n → tpA hi P → TC g n al true (x :: P) K o p = bL (S p) (fun q L => TC g n al false P (K ++ L ++ [x]) o q)) (hc : ∀ (P K : List Int) (p : Nat), p ≤ n → Q p → ¬ wl g n ws p = -1 → TC g n al false P K o p = TC g n al true (x :: (dA hi P K).1) (dA hi P K).2 o (tx_e g n p)) : cfN g n al o hi (vL g n S ws x) := vL_eqm 1602 hE h0 h hc
theorem lvM_end {S : Nat → SL} {ws : List (List Int)} {x : Int} {Q : Nat → Prop} (hE : endM n Q S) : ∀ (m p : Nat) (L : List Int) (q : Nat) (M : List Int), p ≤ n → n - p < m → Q p → lvM g n S ws x m p L = .inr (q, M) → q ≤ n ∧ p ≤ q ∧ Q q ∧ wl g n ws q = -1 := by
  intro m
  induction m with
  | zero => intro p L q M hp h1; omega
  | succ m ih =>
    intro p L q M hp h1 hq
    have hle := tx_e_le (f := g) hp
    unfold lvM
    by_cases q1 : wl g n ws p = -1
    · rw [if_pos q1]
      intro r
      cases r
      exact ⟨hp, Nat.le_refl _, hq, q1⟩
    · rw [if_neg q1]
      intro r
      have hlt : p < tx_e g n p := tx_e_gt' (by have := wl_k q1; omega)
      cases e : S (tx_e g n p) with
      | inl z => rw [e] at r; cases r
      | inr z =>
        obtain ⟨p2, K⟩ := z
        rw [e] at r
        have h5 := hE (tx_e g n p) p2 K hle e
        have h6' := ih p2 _ q M h5.1 (by omega) h5.2.2 r
        exact ⟨h6'.1, by omega, h6'.2.2⟩
theorem vL_endm (m : Nat) (hf : 1601 < m) {S : Nat → SL} {ws : List (List Int)} {x : Int} {Q : Nat → Prop} (hn : n ≤ 1600) (hE : endM n Q S) : endM n (fun q => Q q ∧ wl g n ws q = -1) (fun p => bL (S p) (lvM g n S ws x m)) := by
  intro p q M hp h
  have h : bL (S p) (lvM g n S ws x m) = .inr (q, M) := h
  cases e : S p with
  | inl z => rw [e] at h; cases h
  | inr z =>
    obtain ⟨p2, L⟩ := z
    rw [e] at h
    have h5 := hE p p2 L hp e
    have h6' := lvM_end hE m p2 L q M h5.1 (by omega) h5.2.2 h
    exact ⟨h6'.1, by omega, h6'.2.2⟩
theorem vL_end {S : Nat → SL} {ws : List (List Int)} {x : Int} {Q : Nat → Prop} (hn : n ≤ 1600) (hE : endM n Q S) : endM n (fun q => Q q ∧ wl g n ws q = -1) (vL g n S ws x) := vL_endm 1602 (by decide) hn hE
theorem testC_cl {o : Int} {S : Nat → SL} (hn : n ≤ 1600) (h : cfP g n al o S) (hE : endM n (fun _ => True) S) : cfN g n al o 11 (vL g n (vL g n S ws_14 10) ws_13 11) ∧ endM n (fun q => ¬ jnW g n q) (vL g n (vL g n S ws_14 10) ws_13 11) := by
  have hN : ∀ hi, cfN g n al o hi S := fun hi P K p hp hT => by
    rw [h P K p hp]
    exact bL_cg (fun q L _ => by rw [tpA_N hT])
  have hM : ∀ (P K : List Int) (p : Nat), p ≤ n → tpA 10 P → TC g n al true (10 :: P) K o p = bL (S p) (fun q L => TC g n al false P (K ++ L ++ [10]) o q) := by
    intro P K p hp hT
    rw [h (10 :: P) K p hp]
    refine bL_cg (fun q L _ => ?_)
    rw [show dN (10 :: P) (K ++ L) o = (10 :: P, K ++ L, o) from if_neg (by decide)]
    exact TC_10
  have hpr : cfN g n al o 10 (vL g n S ws_14 10) := vL_eq hE (hN 10) hM (fun P K p hp _ c => TC_an hp c)
  have hpE := vL_end (g := g) (ws := ws_14) (x := 10) hn hE
  have hA : ∀ (P K : List Int) (p : Nat), p ≤ n → tpA 11 P → TC g n al true (11 :: P) K o p = bL (vL g n S ws_14 10 p) (fun q L => TC g n al false P (K ++ L ++ [11]) o q) := by
    intro P K p hp hT
    rw [hpr (11 :: P) K p hp ⟨by decide, by decide⟩]
    refine bL_cg (fun q L e => ?_)
    exact TC_11 (hpE p q L hp e).2.2.2
  refine ⟨vL_eq hpE (fun P K p hp hT => hpr P K p hp ?_) hA (fun P K p hp hQ c => TC_or hp hQ.2 c), ?_⟩
  · cases P with
    | nil => exact True.intro
    | cons x P => exact ⟨hT.1, fun r => hT.2 ⟨r.1, by omega⟩⟩
  · have hsE := vL_end (g := g) (ws := ws_13) (x := 11) hn hpE
    intro p q L hp e
    obtain ⟨a1, a2, a3, a4⟩ := hsE p q L hp e
    exact ⟨a1, a2, fun r => r.elim (fun r => r a3.2) (fun r => r a4)⟩
theorem fcC_eq (hn : n ≤ 1600) (d : Nat) (hd : d ≤ 6) (K : List Int) {p : Nat} (hp : p ≤ n) (k : Nat → List Int → SL) : bL (fcC g n al K (6 - (d : Int)) p) k = bL (if ¬ wl g n ws_16 p = -1 then .inr (tx_e g n p, [13]) else cmpM g n (mSum g n al d) p) (fun q L => k q (K ++ L)) := by
  unfold fcC cmpM
  by_cases q : wl g n ws_16 p = -1
  · rw [if_neg (fun r => r q), if_neg (fun r => r q), sumC_eq hn d hd p K hp]
    have hE := (S_allC (g := g) (al := al) hn d hd).2
    cases e1 : mSum g n al d p with
    | inl z => rfl
    | inr z =>
      obtain ⟨p1, L1⟩ := z
      have l1 := hE p p1 L1 hp e1
      show bL (ndL (sp_sg g n p1).2 (fun p2 => bL (RC g n al true [] (K ++ L1) (6 - (d : Int)) p2) (fun q K2 => .inr (q, K2 ++ [-19 - (sp_sg g n p1).1])))) k = bL (ndL (sp_sg g n p1).2 (fun q2 => bL (mSum g n al d q2) (fun q3 M => .inr (q3, L1 ++ M ++ [-19 - (sp_sg g n p1).1])))) (fun q L => k q (K ++ L))
      cases e2 : (sp_sg g n p1).2 with
      | inl z => rfl
      | inr p2 =>
        have l2n : p2 ≤ n := sv_le (sp_sg_v (g := g) l1.1) e2
        show bL (bL (RC g n al true [] (K ++ L1) (6 - (d : Int)) p2) (fun q K2 => .inr (q, K2 ++ [-19 - (sp_sg g n p1).1]))) k = bL (bL (mSum g n al d p2) (fun q3 M => .inr (q3, L1 ++ M ++ [-19 - (sp_sg g n p1).1]))) (fun q L => k q (K ++ L))
        rw [sumC_eq hn d hd p2 (K ++ L1) l2n]
        cases e3 : mSum g n al d p2 with
        | inl z => rfl
        | inr z =>
          obtain ⟨p3, M⟩ := z
          show k p3 (K ++ L1 ++ M ++ [-19 - (sp_sg g n p1).1]) = k p3 (K ++ (L1 ++ M ++ [-19 - (sp_sg g n p1).1]))
          rw [← List.append_assoc, ← List.append_assoc]
  · rw [if_pos q, if_pos q]
    rfl
theorem factC_eq (hn : n ≤ 1600) {b : Bool} {T1 F1 : Nat → SL} {d : Nat} (hd : d ≤ 6) (h6 : b = false → 6 - (d : Int) = 6) (h7 : b = true → ¬ 6 - (d : Int) = 6 ∧ cfN g n al (6 - (d : Int) + 1) 11 T1 ∧ endM n (fun q => ¬ jnW g n q) T1) (h8 : b = true → cfP g n al (6 - (d : Int) + 1) F1) : cfP g n al (6 - (d : Int)) (factM g n b (mSum g n al d) T1 F1) := by
  intro P K p hp
  have hle := tx_e_le (f := g) hp
  unfold factM
  by_cases q0 : wl g n ws_15 p = -1
  · rw [if_neg (show ¬ ¬ wl g n ws_15 p = -1 from fun r => r q0)]
    by_cases q1 : tx_k g n p = 3 ∧ g (tx_a g n p) = 91
    · rw [if_pos q1]
      unfold opnM
      cases b with
      | false =>
        rw [h6 rfl, TC_s6 q1, if_neg (fun r => Bool.noConfusion r)]
        rfl
      | true =>
        obtain ⟨ho, hM, hE⟩ := h7 rfl
        rw [TC_s1 hp q1 ho, if_pos rfl, hM (25 :: P) K (tx_e g n p) hle ⟨by decide, by decide⟩]
        show _ = bL (bL (T1 (tx_e g n p)) _) _
        cases e1 : T1 (tx_e g n p) with
        | inl z => rfl
        | inr z =>
          obtain ⟨q, L⟩ := z
          obtain ⟨l1, _, o1⟩ := hE (tx_e g n p) q L hle e1
          show TC g n al false (25 :: P) (K ++ L) (6 - (d : Int) + 1) q = bL (needM g n 93 q L) _
          rw [TC_sq l1 o1]
          unfold needM
          cases sp_need g n 93 q with
          | inl z => rfl
          | inr z => rfl
    · rw [if_neg q1, TC_at hp q1 q0]
      exact fcC_eq hn d hd K hp _
  · rw [if_pos q0]
    unfold opnM
    cases b with
    | false =>
      rw [h6 rfl, TC_n6 q0, if_neg (fun r => Bool.noConfusion r)]
      rfl
    | true =>
      rw [TC_n1 hp q0 (h7 rfl).1, if_pos rfl, h8 rfl (12 :: P) K (tx_e g n p) hle]
      show _ = bL (bL (F1 (tx_e g n p)) _) _
      cases e1 : F1 (tx_e g n p) with
      | inl z => rfl
      | inr z =>
        obtain ⟨q, L⟩ := z
        have e9 : dN (12 :: P) (K ++ L) (6 - (d : Int) + 1) = dN P (K ++ (L ++ [12])) (6 - (d : Int)) := by
          show (if (12 : Int) = 12 then dN P (K ++ L ++ [12]) (6 - (d : Int) + 1 - 1) else _) = _
          rw [if_pos rfl, show 6 - (d : Int) + 1 - 1 = 6 - (d : Int) from by omega, List.append_assoc]
        show TC g n al false (dN (12 :: P) (K ++ L) (6 - (d : Int) + 1)).1 (dN (12 :: P) (K ++ L) (6 - (d : Int) + 1)).2.1 (dN (12 :: P) (K ++ L) (6 - (d : Int) + 1)).2.2 q = _
        rw [e9]
        rfl
theorem fact_endM (d : Nat) : endM n (fun _ => True) (mFact g n al d) := rlA_end (fact_r d) (sFact_ok d) (fun _ _ _ _ _ => True.intro)
theorem F_allC (hn : n ≤ 1600) : ∀ d : Nat, d ≤ 6 → cfP g n al (6 - (d : Int)) (mFact g n al d)
  | 0, _ => factC_eq hn (d := 0) (by omega) (fun _ => rfl) (fun r => Bool.noConfusion r) (fun r => Bool.noConfusion r)
  | d + 1, hd => by
    have h1 := F_allC hn d (by omega)
    have e : (6 - ((d + 1 : Nat) : Int)) + 1 = 6 - (d : Int) := by omega
    have h2 := testC_cl hn h1 (fact_endM d)
    refine factC_eq hn hd (fun r => Bool.noConfusion r) (fun _ => ⟨by omega, ?_⟩) (fun _ => ?_)
    · rw [e]
      exact h2
    · rw [e]
      exact h1
/-- a test's codes read by the machine are those read level by level -/
theorem testC_eq (hn : n ≤ 1600) (d : Nat) (hd : d ≤ 6) (p : Nat) (K : List Int) (hp : p ≤ n) : TC g n al true [] K (6 - (d : Int)) p = bL (mTest g n al d p) (fun q L => .inr (q, K ++ L)) := by
  have h := testC_cl (g := g) (al := al) hn (F_allC hn d hd) (fact_endM d)
  rw [h.1 [] K p hp True.intro]
  show bL (mTest g n al d p) _ = _
  refine bL_cg (fun q L e => ?_)
  have h2 := h.2 p q L hp e
  rw [TC_nd h2.2.2 rfl, List.append_nil]
end TC2
end
section
/-! 6a -/
/-! what falls is coded: the codes as they become -/
def pcl (cd : Nat → Int) (K : List Int) : Prop := ∀ i, i < K.length → cd i = K.getD i 0
theorem pcl_0 (cd : Nat → Int) : pcl cd [] := fun i hi => absurd hi (Nat.not_lt_zero i)
theorem len_1 (K : List Int) (v : Int) : ((K ++ [v]).length : Int) = (K.length : Int) + 1 := by
  rw [List.length_append]
  rfl
theorem pcl_app {cd : Nat → Int} {K : List Int} (h : pcl cd K) (v : Int) : pcl (lf_up cd (K.length : Int) v) (K ++ [v]) := by
  intro i hi
  have hl : (K ++ [v]).length = K.length + 1 := by
    rw [List.length_append]
    rfl
  by_cases q : i = K.length
  · rw [lf_up_y (by omega), q, List.getD_eq_getElem?_getD, List.getElem?_append_right (Nat.le_refl _), Nat.sub_self]
    rfl
  · rw [lf_up_o (by omega), List.getD_eq_getElem?_getD, List.getElem?_append_left (by omega), ← List.getD_eq_getElem?_getD]
    exact h i (by omega)
theorem dB_1 : ∀ (P K : List Int), (dB P K).1 = drT P
  | [], _ => rfl
  | x :: P, K => by
    show (if isBr x = true then (x :: P, K) else dB P (K ++ [x])).1 = if isBr x = true then x :: P else drT P
    by_cases q : isBr x = true
    · rw [if_pos q, if_pos q]
    · rw [if_neg q, if_neg q]
      exact dB_1 P (K ++ [x])
theorem dE_1 : ∀ (P K : List Int) (o : Int), (dE P K o).1 = (eoD P o).1 ∧ (dE P K o).2.2 = (eoD P o).2
  | [], _, _ => ⟨rfl, rfl⟩
  | x :: P, K, o => by
    show (if x < 60 then (x :: P, K, o) else dE P (K ++ [x]) (o - 1)).1 = (if x < 60 then (x :: P, o) else eoD P (o - 1)).1 ∧ (if x < 60 then (x :: P, K, o) else dE P (K ++ [x]) (o - 1)).2.2 = (if x < 60 then (x :: P, o) else eoD P (o - 1)).2
    by_cases q : x < 60
    · rw [if_pos q, if_pos q]
      exact ⟨rfl, rfl⟩
    · rw [if_neg q, if_neg q]
      exact dE_1 P (K ++ [x]) (o - 1)
theorem dO_1 {lo : Int} : ∀ (P K : List Int), (dO lo P K).1 = opD lo P
  | [], _ => rfl
  | x :: P, K => by
    show (if lo ≤ x ∧ x ≤ 4 then dO lo P (K ++ [x]) else (x :: P, K)).1 = if lo ≤ x ∧ x ≤ 4 then opD lo P else x :: P
    by_cases q : lo ≤ x ∧ x ≤ 4
    · rw [if_pos q, if_pos q]
      exact dO_1 P (K ++ [x])
    · rw [if_neg q, if_neg q]
theorem dN_1 : ∀ (P K : List Int) (o : Int), (dN P K o).1 = (ntD P o).1 ∧ (dN P K o).2.2 = (ntD P o).2
  | [], _, _ => ⟨rfl, rfl⟩
  | x :: P, K, o => by
    show (if x = 12 then dN P (K ++ [x]) (o - 1) else (x :: P, K, o)).1 = (if x = 12 then ntD P (o - 1) else (x :: P, o)).1 ∧ (if x = 12 then dN P (K ++ [x]) (o - 1) else (x :: P, K, o)).2.2 = (if x = 12 then ntD P (o - 1) else (x :: P, o)).2
    by_cases q : x = 12
    · rw [if_pos q, if_pos q]
      exact dN_1 P (K ++ [x]) (o - 1)
    · rw [if_neg q, if_neg q]
      exact ⟨rfl, rfl⟩
theorem dA_1 {hi : Int} : ∀ (P K : List Int), (dA hi P K).1 = opQ hi P
  | [], _ => rfl
  | x :: P, K => by
    show (if 10 ≤ x ∧ x ≤ hi then dA hi P (K ++ [x]) else (x :: P, K)).1 = if 10 ≤ x ∧ x ≤ hi then opQ hi P else x :: P
    by_cases q : 10 ≤ x ∧ x ≤ hi
    · rw [if_pos q, if_pos q]
      exact dA_1 P (K ++ [x])
    · rw [if_neg q, if_neg q]
theorem dS_1 : ∀ (P K : List Int), (dS P K).1 = tPop P
  | [], _ => rfl
  | x :: P, K => by
    show (if x = 25 then (P, K) else dS P (K ++ [x])).1 = if x = 25 then P else tPop P
    by_cases q : x = 25
    · rw [if_pos q, if_pos q]
    · rw [if_neg q, if_neg q]
      exact dS_1 P (K ++ [x])
theorem qc_dtb {w : Nat → Int} {B : List Int} : ∀ (T : List Int) (f : Nat) (K : List Int) (cd : Nat → Int), pwl w (T ++ B) → T.length < f → pcl cd K → ∃ cd2, F_X10_qDropsToBracket_0 (B.length : Int) w f (K.length : Int) ((T ++ B).length : Int) cd = (((dB T K).2.length : Int), (((dB T K).1 ++ B).length : Int), cd2) ∧ pcl cd2 (dB T K).2 := by
  intro T
  induction T with
  | nil =>
    intro f K cd h hf hK
    obtain ⟨k, rfl⟩ : ∃ k, f = k + 1 := ⟨f - 1, by have : 0 < f := hf; omega⟩
    refine ⟨cd, ?_, hK⟩
    show F_X10_qDropsToBracket_0b (B.length : Int) w _ (K.length : Int) (B.length : Int) cd = _
    unfold F_X10_qDropsToBracket_0b
    rw [if_pos (Int.le_refl _)]
    rfl
  | cons x T ih =>
    intro f K cd h hf hK
    obtain ⟨k, rfl⟩ : ∃ k, f = k + 1 := ⟨f - 1, by have : 0 < f := Nat.lt_of_le_of_lt (Nat.zero_le _) hf; omega⟩
    have hl : (T ++ B).length = T.length + B.length := List.length_append
    have hx : w (T ++ B).length = x := h.1
    have e1 : (((x :: T) ++ B).length : Int) = ((T ++ B).length : Int) + 1 := rfl
    have e2 : (((x :: T) ++ B).length : Int) - 1 = ((T ++ B).length : Int) := by omega
    show ∃ cd2, F_X10_qDropsToBracket_0b (B.length : Int) w (F_X10_qDropsToBracket_0 (B.length : Int) w k) (K.length : Int) (((x :: T) ++ B).length : Int) cd = (((if isBr x = true then (x :: T, K) else dB T (K ++ [x])).2.length : Int), (((if isBr x = true then (x :: T, K) else dB T (K ++ [x])).1 ++ B).length : Int), cd2) ∧ pcl cd2 (if isBr x = true then (x :: T, K) else dB T (K ++ [x])).2
    unfold F_X10_qDropsToBracket_0b
    rw [if_neg (by omega), lf_b_e, e2, Int.toNat_natCast, hx, q_br]
    cases cc : isBr x with
    | true =>
      rw [if_neg (show ¬ b2 true = 0 from by decide), if_pos rfl]
      exact ⟨cd, rfl, hK⟩
    | false =>
      obtain ⟨cd2, e3, e4⟩ := ih k (K ++ [x]) (lf_up cd (K.length : Int) x) h.2 (by have : T.length + 1 < k + 1 := hf; omega) (pcl_app hK x)
      rw [len_1] at e3
      rw [if_pos (show b2 false = 0 from rfl), if_neg (fun r => Bool.noConfusion r), show F_X10_qDrops (K.length : Int) (((x :: T) ++ B).length : Int) cd w = (((K.length : Int) + 1), ((T ++ B).length : Int), lf_up cd (K.length : Int) (w (T ++ B).length)) from q_drop, lf_p_e, lf_p_e, hx]
      exact ⟨cd2, e3, e4⟩
theorem qc_eop {w : Nat → Int} {B : List Int} : ∀ (T : List Int) (f : Nat) (K : List Int) (o : Int) (cd : Nat → Int), pwl w (T ++ B) → T.length < f → -2000 ≤ o - (T.length : Int) → o ≤ 2000 → pcl cd K → ∃ cd2, F_X10_qEndsPart_0 (0 : Int) (B.length : Int) w f (K.length : Int) ((T ++ B).length : Int) o cd = (((dE T K o).2.1.length : Int), (((dE T K o).1 ++ B).length : Int), (dE T K o).2.2, cd2) ∧ pcl cd2 (dE T K o).2.1 := by
  intro T
  induction T with
  | nil =>
    intro f K o cd h hf h1 h2 hK
    obtain ⟨k, rfl⟩ : ∃ k, f = k + 1 := ⟨f - 1, by have : 0 < f := hf; omega⟩
    refine ⟨cd, ?_, hK⟩
    show F_X10_qEndsPart_0b (0 : Int) (B.length : Int) w _ (K.length : Int) (B.length : Int) o cd = _
    unfold F_X10_qEndsPart_0b
    rw [if_pos rfl, if_pos (Int.le_refl _)]
    rfl
  | cons x T ih =>
    intro f K o cd h hf h1 h2 hK
    obtain ⟨k, rfl⟩ : ∃ k, f = k + 1 := ⟨f - 1, by have : 0 < f := Nat.lt_of_le_of_lt (Nat.zero_le _) hf; omega⟩
    have h1' : -2000 ≤ o - ((T.length + 1 : Nat) : Int) := h1
    have hl : (T ++ B).length = T.length + B.length := List.length_append
    have hx : w (T ++ B).length = x := h.1
    have e1 : (((x :: T) ++ B).length : Int) = ((T ++ B).length : Int) + 1 := rfl
    have e2 : (((x :: T) ++ B).length : Int) - 1 = ((T ++ B).length : Int) := by omega
    show ∃ cd2, F_X10_qEndsPart_0b (0 : Int) (B.length : Int) w (F_X10_qEndsPart_0 (0 : Int) (B.length : Int) w k) (K.length : Int) (((x :: T) ++ B).length : Int) o cd = (((if x < 60 then (x :: T, K, o) else dE T (K ++ [x]) (o - 1)).2.1.length : Int), (((if x < 60 then (x :: T, K, o) else dE T (K ++ [x]) (o - 1)).1 ++ B).length : Int), (if x < 60 then (x :: T, K, o) else dE T (K ++ [x]) (o - 1)).2.2, cd2) ∧ pcl cd2 (if x < 60 then (x :: T, K, o) else dE T (K ++ [x]) (o - 1)).2.1
    unfold F_X10_qEndsPart_0b
    rw [if_pos rfl, if_neg (by omega), e2, Int.toNat_natCast, hx]
    by_cases q : x < 60
    · rw [if_pos q, if_pos q]
      exact ⟨cd, rfl, hK⟩
    · obtain ⟨cd2, e3, e4⟩ := ih k (K ++ [x]) (o - 1) (lf_up cd (K.length : Int) x) h.2 (by have : T.length + 1 < k + 1 := hf; omega) (by omega) (by omega) (pcl_app hK x)
      rw [len_1] at e3
      rw [if_neg q, if_neg q, show F_X10_qDrops (K.length : Int) (((x :: T) ++ B).length : Int) cd w = (((K.length : Int) + 1), ((T ++ B).length : Int), lf_up cd (K.length : Int) (w (T ++ B).length)) from q_drop, lf_p_e, lf_p_e, lo_sub (by omega) (by omega) (by omega) (by omega) (by omega) (by omega), hx]
      exact ⟨cd2, e3, e4⟩
end
section
/-! 6b -/
/-! with the codes that are written: operators -/
theorem dO_len {lo : Int} : ∀ (P K : List Int), (dO lo P K).2.length + (dO lo P K).1.length = K.length + P.length
  | [], _ => rfl
  | x :: P, K => by
    show (if lo ≤ x ∧ x ≤ 4 then dO lo P (K ++ [x]) else (x :: P, K)).2.length + (if lo ≤ x ∧ x ≤ 4 then dO lo P (K ++ [x]) else (x :: P, K)).1.length = K.length + (P.length + 1)
    by_cases q : lo ≤ x ∧ x ≤ 4
    · rw [if_pos q, dO_len P (K ++ [x]), List.length_append]
      show K.length + 1 + P.length = _
      omega
    · rw [if_neg q]
      rfl
theorem dB_len : ∀ (P K : List Int), (dB P K).2.length + (dB P K).1.length = K.length + P.length
  | [], _ => rfl
  | x :: P, K => by
    show (if isBr x = true then (x :: P, K) else dB P (K ++ [x])).2.length + (if isBr x = true then (x :: P, K) else dB P (K ++ [x])).1.length = K.length + (P.length + 1)
    by_cases q : isBr x = true
    · rw [if_pos q]
      rfl
    · rw [if_neg q, dB_len P (K ++ [x]), List.length_append]
      show K.length + 1 + P.length = _
      omega
theorem dE_len : ∀ (P K : List Int) (o : Int), (dE P K o).2.1.length + (dE P K o).1.length = K.length + P.length
  | [], _, _ => rfl
  | x :: P, K, o => by
    show (if x < 60 then (x :: P, K, o) else dE P (K ++ [x]) (o - 1)).2.1.length + (if x < 60 then (x :: P, K, o) else dE P (K ++ [x]) (o - 1)).1.length = K.length + (P.length + 1)
    by_cases q : x < 60
    · rw [if_pos q]
      rfl
    · rw [if_neg q, dE_len P (K ++ [x]) (o - 1), List.length_append]
      show K.length + 1 + P.length = _
      omega
theorem qc_drop {w cd : Nat → Int} {x : Int} {K Q : List Int} (h : pwl w (x :: Q)) : F_X10_qDrops (K.length : Int) ((x :: Q).length : Int) cd w = (((K.length : Int) + 1), (Q.length : Int), lf_up cd (K.length : Int) x) := by
  have e : F_X10_qDrops (K.length : Int) ((x :: Q).length : Int) cd w = (((K.length : Int) + 1), (Q.length : Int), lf_up cd (K.length : Int) (w Q.length)) := q_drop
  rw [e, h.1]
theorem qc_drops {w cd : Nat → Int} {T B K : List Int} (h : pwl w (T ++ B)) (hl : T.length ≤ 1700) (hK : pcl cd K) : ∃ cd2, F_X10_qDropsToBracket (K.length : Int) ((T ++ B).length : Int) (B.length : Int) cd w = (((dB T K).2.length : Int), ((drT T ++ B).length : Int), cd2) ∧ pcl cd2 (dB T K).2 := by
  have := qc_dtb T 1702 K cd h (by omega) hK
  rw [dB_1] at this
  exact this
theorem qc_ends {w cd : Nat → Int} {T B K : List Int} {o : Int} (h : pwl w (T ++ B)) (hl : T.length ≤ 1700) (h1 : -2000 ≤ o - (T.length : Int)) (h2 : o ≤ 2000) (hK : pcl cd K) : ∃ cd2, F_X10_qEndsPart (0 : Int) (K.length : Int) ((T ++ B).length : Int) o (B.length : Int) cd w = (((dE T K o).2.1.length : Int), (((eoD T o).1 ++ B).length : Int), (eoD T o).2, cd2) ∧ pcl cd2 (dE T K o).2.1 := by
  have := qc_eop T 1702 K o cd h (by omega) h1 h2 hK
  rw [(dE_1 T K o).1, (dE_1 T K o).2] at this
  exact this
theorem qc_247 {w : Nat → Int} {B : List Int} {xb xp v l o : Int} (hB : ¬ (1 ≤ B.headD 0 ∧ B.headD 0 ≤ 4)) : ∀ (P : List Int) (f : Nat) (K : List Int) (cd : Nat → Int), pwl w (P ++ B) → P.length < f → pcl cd K → ∃ cd2, F_X10_qGoesOn_247 xb xp w f v l (K.length : Int) ((P ++ B).length : Int) o cd = ((1 : Int), v, xb, xp, ((dO 1 P K).2.length : Int), ((opD 1 P ++ B).length : Int) + 1, o, lf_up w ((opD 1 P ++ B).length : Int) l, cd2) ∧ pcl cd2 (dO 1 P K).2 := by
  intro P
  induction P with
  | nil =>
    intro f K cd h hf hK
    obtain ⟨k, rfl⟩ : ∃ k, f = k + 1 := ⟨f - 1, by have : 0 < f := hf; omega⟩
    have e3 : F_X10_qIsOn_a0_3 (B.length : Int) w = if B.headD 0 = 3 then 1 else 0 := g_on h 3 (by decide)
    have e4 : F_X10_qIsOn_a0_4 (B.length : Int) w = if B.headD 0 = 4 then 1 else 0 := g_on h 4 (by decide)
    have e1 : F_X10_qIsOn_a0_1 (B.length : Int) w = if B.headD 0 = 1 then 1 else 0 := g_on h 1 (by decide)
    have e2 : F_X10_qIsOn_a0_2 (B.length : Int) w = if B.headD 0 = 2 then 1 else 0 := g_on h 2 (by decide)
    rw [if_neg (by omega)] at e3 e4 e1 e2
    refine ⟨cd, ?_, hK⟩
    show F_X10_qGoesOn_247b xb xp w _ v l (K.length : Int) (B.length : Int) o cd = _
    unfold F_X10_qGoesOn_247b
    rw [lf_b_e, e3, if_pos rfl, lf_b_e, e4, if_pos rfl, lf_b_e, e1, if_pos rfl, lf_b_e, e2, if_pos rfl]
    rfl
  | cons x P ih =>
    intro f K cd h hf hK
    obtain ⟨k, rfl⟩ : ∃ k, f = k + 1 := ⟨f - 1, by have : 0 < f := Nat.lt_of_le_of_lt (Nat.zero_le _) hf; omega⟩
    have e3 : F_X10_qIsOn_a0_3 (((x :: P) ++ B).length : Int) w = if x = 3 then 1 else 0 := g_on h 3 (by decide)
    have e4 : F_X10_qIsOn_a0_4 (((x :: P) ++ B).length : Int) w = if x = 4 then 1 else 0 := g_on h 4 (by decide)
    have e1 : F_X10_qIsOn_a0_1 (((x :: P) ++ B).length : Int) w = if x = 1 then 1 else 0 := g_on h 1 (by decide)
    have e2 : F_X10_qIsOn_a0_2 (((x :: P) ++ B).length : Int) w = if x = 2 then 1 else 0 := g_on h 2 (by decide)
    have ed : F_X10_qDrops (K.length : Int) (((x :: P) ++ B).length : Int) cd w = (((K.length : Int) + 1), ((P ++ B).length : Int), lf_up cd (K.length : Int) x) := qc_drop h
    obtain ⟨cd2, i1, i2⟩ := ih k (K ++ [x]) (lf_up cd (K.length : Int) x) h.2 (by have : P.length + 1 < k + 1 := hf; omega) (pcl_app hK x)
    rw [len_1] at i1
    have fin : 1 ≤ x ∧ x ≤ 4 → ∃ cd2, F_X10_qGoesOn_247 xb xp w k v l ((K.length : Int) + 1) ((P ++ B).length : Int) o (lf_up cd (K.length : Int) x) = ((1 : Int), v, xb, xp, ((dO 1 (x :: P) K).2.length : Int), ((opD 1 (x :: P) ++ B).length : Int) + 1, o, lf_up w ((opD 1 (x :: P) ++ B).length : Int) l, cd2) ∧ pcl cd2 (dO 1 (x :: P) K).2 := by
      intro q
      rw [show opD 1 (x :: P) = opD 1 P from if_pos q, show dO 1 (x :: P) K = dO 1 P (K ++ [x]) from if_pos q]
      exact ⟨cd2, i1, i2⟩
    show ∃ cd2, F_X10_qGoesOn_247b xb xp w (F_X10_qGoesOn_247 xb xp w k) v l (K.length : Int) (((x :: P) ++ B).length : Int) o cd = _ ∧ _
    unfold F_X10_qGoesOn_247b
    rw [lf_b_e, e3]
    by_cases c3 : x = 3
    · rw [if_pos c3, if_neg (show ¬ (1 : Int) = 0 from by decide), ed, lf_p_e, lf_p_e]
      exact fin (by omega)
    · rw [if_neg c3, if_pos rfl, lf_b_e, e4]
      by_cases c4 : x = 4
      · rw [if_pos c4, if_neg (show ¬ (1 : Int) = 0 from by decide), ed, lf_p_e, lf_p_e]
        exact fin (by omega)
      · rw [if_neg c4, if_pos rfl, lf_b_e, e1]
        by_cases c1 : x = 1
        · rw [if_pos c1, if_neg (show ¬ (1 : Int) = 0 from by decide), ed, lf_p_e, lf_p_e]
          exact fin (by omega)
        · rw [if_neg c1, if_pos rfl, lf_b_e, e2]
          by_cases c2' : x = 2
          · rw [if_pos c2', if_neg (show ¬ (1 : Int) = 0 from by decide), ed, lf_p_e, lf_p_e]
            exact fin (by omega)
          · rw [if_neg c2', if_pos rfl, show opD 1 (x :: P) = x :: P from if_neg (by omega), show dO 1 (x :: P) K = (x :: P, K) from if_neg (by omega)]
            exact ⟨cd, rfl, hK⟩
theorem qc_162 {w : Nat → Int} {B : List Int} {xb xp v l o : Int} (hB : ¬ (1 ≤ B.headD 0 ∧ B.headD 0 ≤ 4)) : ∀ (P : List Int) (f : Nat) (K : List Int) (cd : Nat → Int), pwl w (P ++ B) → P.length < f → pcl cd K → ∃ cd2, F_X10_qGoesOn_162 xb xp w f v l (K.length : Int) ((P ++ B).length : Int) o cd = ((1 : Int), v, xb, xp, ((dO 3 P K).2.length : Int), ((opD 3 P ++ B).length : Int) + 1, o, lf_up w ((opD 3 P ++ B).length : Int) l, cd2) ∧ pcl cd2 (dO 3 P K).2 := by
  intro P
  induction P with
  | nil =>
    intro f K cd h hf hK
    obtain ⟨k, rfl⟩ : ∃ k, f = k + 1 := ⟨f - 1, by have : 0 < f := hf; omega⟩
    have e3 : F_X10_qIsOn_a0_3 (B.length : Int) w = if B.headD 0 = 3 then 1 else 0 := g_on h 3 (by decide)
    have e4 : F_X10_qIsOn_a0_4 (B.length : Int) w = if B.headD 0 = 4 then 1 else 0 := g_on h 4 (by decide)
    rw [if_neg (by omega)] at e3 e4
    refine ⟨cd, ?_, hK⟩
    show F_X10_qGoesOn_162b xb xp w _ v l (K.length : Int) (B.length : Int) o cd = _
    unfold F_X10_qGoesOn_162b
    rw [lf_b_e, e3, if_pos rfl, lf_b_e, e4, if_pos rfl]
    rfl
  | cons x P ih =>
    intro f K cd h hf hK
    obtain ⟨k, rfl⟩ : ∃ k, f = k + 1 := ⟨f - 1, by have : 0 < f := Nat.lt_of_le_of_lt (Nat.zero_le _) hf; omega⟩
    have e3 : F_X10_qIsOn_a0_3 (((x :: P) ++ B).length : Int) w = if x = 3 then 1 else 0 := g_on h 3 (by decide)
    have e4 : F_X10_qIsOn_a0_4 (((x :: P) ++ B).length : Int) w = if x = 4 then 1 else 0 := g_on h 4 (by decide)
    have ed : F_X10_qDrops (K.length : Int) (((x :: P) ++ B).length : Int) cd w = (((K.length : Int) + 1), ((P ++ B).length : Int), lf_up cd (K.length : Int) x) := qc_drop h
    obtain ⟨cd2, i1, i2⟩ := ih k (K ++ [x]) (lf_up cd (K.length : Int) x) h.2 (by have : P.length + 1 < k + 1 := hf; omega) (pcl_app hK x)
    rw [len_1] at i1
    have fin : 3 ≤ x ∧ x ≤ 4 → ∃ cd2, F_X10_qGoesOn_162 xb xp w k v l ((K.length : Int) + 1) ((P ++ B).length : Int) o (lf_up cd (K.length : Int) x) = ((1 : Int), v, xb, xp, ((dO 3 (x :: P) K).2.length : Int), ((opD 3 (x :: P) ++ B).length : Int) + 1, o, lf_up w ((opD 3 (x :: P) ++ B).length : Int) l, cd2) ∧ pcl cd2 (dO 3 (x :: P) K).2 := by
      intro q
      rw [show opD 3 (x :: P) = opD 3 P from if_pos q, show dO 3 (x :: P) K = dO 3 P (K ++ [x]) from if_pos q]
      exact ⟨cd2, i1, i2⟩
    show ∃ cd2, F_X10_qGoesOn_162b xb xp w (F_X10_qGoesOn_162 xb xp w k) v l (K.length : Int) (((x :: P) ++ B).length : Int) o cd = _ ∧ _
    unfold F_X10_qGoesOn_162b
    rw [lf_b_e, e3]
    by_cases c3 : x = 3
    · rw [if_pos c3, if_neg (show ¬ (1 : Int) = 0 from by decide), ed, lf_p_e, lf_p_e]
      exact fin (by omega)
    · rw [if_neg c3, if_pos rfl, lf_b_e, e4]
      by_cases c4 : x = 4
      · rw [if_pos c4, if_neg (show ¬ (1 : Int) = 0 from by decide), ed, lf_p_e, lf_p_e]
        exact fin (by omega)
      · rw [if_neg c4, if_pos rfl, show opD 3 (x :: P) = x :: P from if_neg (by omega), show dO 3 (x :: P) K = (x :: P, K) from if_neg (by omega)]
        exact ⟨cd, rfl, hK⟩
/-- amid a sum, with what is coded -/
def qSC (g : Nat → Int) (n : Nat) (B : List Int) (o0 : Int) (d : Nat) (P K : List Int) (o : Int) (p : Nat) (xa xe xb xp c m oo : Int) (w cd : Nat → Int) : Prop := qS g n B o0 d P o p xa xe xb xp c m oo w ∧ c = (K.length : Int) ∧ pcl cd K
def qGC (g : Nat → Int) (n : Nat) (al : Int) (B : List Int) (o0 : Int) (d : Nat) (xe : Int) (S : SL) (p : Nat) (R : Int × Int × Int × Int × Int × Int × Int × (Nat → Int) × (Nat → Int)) : Prop := (R.1 = 1 ∧ ∃ P2 K2 o2 p2, S = RC g n al true P2 K2 o2 p2 ∧ p < p2 ∧ qSC g n B o0 d P2 K2 o2 p2 R.2.1 xe R.2.2.1 R.2.2.2.1 R.2.2.2.2.1 R.2.2.2.2.2.1 R.2.2.2.2.2.2.1 R.2.2.2.2.2.2.2.1 R.2.2.2.2.2.2.2.2) ∨ (R.1 = 0 ∧ ∃ q : Int × Int, S = .inl q ∧ ¬ q.1 = 0 ∧ R.2.2.1 = q.1 ∧ R.2.2.2.1 = q.2) ∨ (R.1 = 0 ∧ ∃ P2 K2 o2 p2, S = .inr (p2, K2 ++ P2) ∧ p ≤ p2 ∧ stT P2 = [] ∧ qSC g n B o0 d P2 K2 o2 p2 R.2.1 xe R.2.2.1 R.2.2.2.1 R.2.2.2.2.1 R.2.2.2.2.2.1 R.2.2.2.2.2.2.1 R.2.2.2.2.2.2.2.1 R.2.2.2.2.2.2.2.2)
theorem opC_b {g : Nat → Int} {n p : Nat} : 1 ≤ opC g n p ∧ opC g n p ≤ 4 := by
  unfold opC
  split
  · decide
  · split
    · decide
    · split <;> decide
section QGC
variable {g : Nat → Int} {n : Nat} {al : Int} {B : List Int} {o0 : Int} {d : Nat} {P K : List Int} {o : Int} {p : Nat} {xa xe : Int} {w cd : Nat → Int}
theorem qc_opr (hn : n ≤ 1600) (h : qS g n B o0 d P o p xa xe (0 : Int) (-1 : Int) (K.length : Int) ((P ++ B).length : Int) o w) (h6P : h6 P) (hop : opS g n p) {lo l : Int} (hlo : 1 ≤ lo) (hlo2 : opL g n p = lo) (hl2 : opC g n p = l) {R : Int × Int × Int × Int × Int × Int × Int × (Nat → Int) × (Nat → Int)} (hR : ∃ cd2, R = ((1 : Int), (tx_a g n p : Int) + 1, (0 : Int), (-1 : Int), ((dO lo P K).2.length : Int), ((opD lo P ++ B).length : Int) + 1, o, lf_up w ((opD lo P ++ B).length : Int) l, cd2) ∧ pcl cd2 (dO lo P K).2) : qGC g n al B o0 d xe (RC g n al false P K o p) p R := by
  obtain ⟨cd2, e, ep⟩ := hR
  have hl : 1 ≤ l ∧ l ≤ 4 := by
    rw [← hl2]
    exact opC_b
  have e2 := dO_len (lo := lo) P K
  rw [dO_1] at e2
  obtain ⟨h1, h2, h3, h4, h5, h6', h7, h8, h9, h10, h11, h12⟩ := h
  have hlt : p < tx_e g n p := tx_e_gt' (by have := hop.1; omega)
  obtain ⟨a1, a2, a3, a4⟩ := opD_ok hlo h1 h6P
  have hl1 : (P ++ B).length = P.length + B.length := List.length_append
  have hl2' : (opD lo P ++ B).length = (opD lo P).length + B.length := List.length_append
  have hs : stT (l :: opD lo P) = stT P := (stT_o (isOp_i.mpr hl)).trans a3
  refine Or.inl ?_
  rw [e]
  refine ⟨rfl, l :: opD lo P, (dO lo P K).2, o, tx_e g n p, ?_, hlt, ⟨⟨a1, Or.inl ⟨isOp_i.mpr hl, a2⟩⟩, ?_, h3, h4, ?_, ?_, mp_sgn h7 hop.1, rfl, rfl, rfl, rfl, pwl_push (opD_p P h12) l⟩, rfl, ep⟩
  · rw [RC_op h7.1 hop, hlo2, hl2, dO_1]
  · rw [hs]
    exact h2
  · show ((dO lo P K).2.length : Int) + (d : Int) + (((opD lo P ++ B).length + 1 : Nat) : Int) ≤ _
    omega
  · show 0 ≤ ((dO lo P K).2.length : Int)
    omega
theorem qc_cm (hn : n ≤ 1600) (h : qS g n B o0 d P o p xa xe (0 : Int) (-1 : Int) (K.length : Int) ((P ++ B).length : Int) o w) (h6P : h6 P) (hop : ¬ opS g n p) (hb2 : brT P = 21 ∨ brT P = 22) (hK : pcl cd K) : qGC g n al B o0 d xe (RC g n al false P K o p) p (lf_p (F_X10_asksSign_a0_44 (tx_a g n p : Int) (n : Int) (0 : Int) (-1 : Int) g) (fun v326 t_v327 => (lf_p t_v327 (fun v327 v328 => (if v327 = (0 : Int) then (lf_p (F_X10_qDropsToBracket (K.length : Int) ((P ++ B).length : Int) (B.length : Int) cd w) (fun v343 t_v344 => (lf_p t_v344 (fun v344 f345 => ((1 : Int), v326, v327, v328, v343, v344, o, (lf_up w (v344 - (1 : Int)) ((w (Int.toNat (v344 - (1 : Int)))) + (2 : Int))), f345))))) else ((0 : Int), v326, v327, v328, (K.length : Int), ((P ++ B).length : Int), o, w, cd)))))) := by
  have hlen := q_len hn h
  obtain ⟨h1, h2, h3, h4, h5, h6', h7, h8, h9, h10, h11, h12⟩ := h
  have hl1 : (P ++ B).length = P.length + B.length := List.length_append
  rw [RC_cm h7.1 hop hb2]
  rw [F_X10_asksSign_a0_44_1 hn (mp_a h7)]
  by_cases q : tx_k g n p = 3 ∧ g (tx_a g n p) = 44
  · have hlt : p < tx_e g n p := tx_e_gt' (by have := q.1; omega)
    obtain ⟨cd2, e1, ep⟩ := qc_drops (cd := cd) (K := K) h12 (by omega) hK
    have e2 := dB_len P K
    have eb := dB_1 P K
    rw [eb] at e2
    rcases ok_dr h1 h6P with r | ⟨x, Q, a1, a2, a3, a4, a5, a6⟩
    · omega
    rw [if_pos q, if_pos q, lf_p_e, lf_p_e, if_pos rfl, e1, lf_p_e, lf_p_e, a1]
    rw [a1] at e2 eb
    have e2' : (dB P K).2.length + (Q.length + 1) = K.length + P.length := e2
    have hx : x = 21 ∨ x = 22 := by omega
    have hp2 : pwl w (x :: (Q ++ B)) := by
      have := drT_p P h12
      rw [a1] at this
      exact this
    have hm : ((((x :: Q) ++ B).length : Nat) : Int) - 1 = ((Q ++ B).length : Int) := by
      show (((Q ++ B).length + 1 : Nat) : Int) - 1 = _
      omega
    have hl2 : (Q ++ B).length = Q.length + B.length := List.length_append
    rw [hm, Int.toNat_natCast, hp2.1]
    have hbr : isBr (x + 2) = true := isBr_i.mpr (by omega)
    have hs : stT ((x + 2) :: Q) = (x + 2) :: stT Q := stT_n (br_op hbr)
    refine Or.inl ⟨rfl, (x + 2) :: Q, (dB P K).2, o, tx_e g n p, ?_, hlt, ⟨⟨a5, Or.inr (Or.inl hbr)⟩, ?_, h3, h4, ?_, ?_, mp_sgn h7 q.1, rfl, rfl, rfl, rfl, pwl_push hp2.2 (x + 2)⟩, rfl, ep⟩
    · rw [eb]
      rfl
    · rw [hs, h2, a4]
      rfl
    · show ((dB P K).2.length : Int) + (d : Int) + (((Q ++ B).length + 1 : Nat) : Int) ≤ _
      omega
    · show 0 ≤ ((dB P K).2.length : Int)
      omega
  · rw [if_neg q, if_neg q, lf_p_e, lf_p_e, if_neg (show ¬ (1 : Int) = 0 from by decide)]
    exact Or.inr (Or.inl ⟨rfl, (1, (tx_a g n p : Int)), rfl, (show ¬ (1 : Int) = 0 from by decide), rfl, rfl⟩)
theorem qc_go (hn : n ≤ 1600) (hB : ¬ (1 ≤ B.headD 0 ∧ B.headD 0 ≤ 4)) (h : qS g n B o0 d P o p xa xe (0 : Int) (-1 : Int) (K.length : Int) ((P ++ B).length : Int) o w) (h6P : h6 P) (hc : ¬ ((tx_k g n p = 3 ∧ g (tx_a g n p) = 41) ∧ (brT P = 20 ∨ brT P = 23 ∨ brT P = 24))) (hK : pcl cd K) : qGC g n al B o0 d xe (RC g n al false P K o p) p (gGo (n : Int) (0 : Int) (-1 : Int) (B.length : Int) g w (K.length : Int) ((P ++ B).length : Int) o cd (tx_a g n p : Int)) := by
  have hlen := q_len hn h
  have h0 := h
  obtain ⟨h1, h2, h3, h4, h5, h6', h7, h8, h9, h10, h11, h12⟩ := h
  have ht : ((tx_a g n p : Int) + 1 - 1).toNat = tx_a g n p := by omega
  have sw : ∀ v : Int, F_X10_qBracket ((P ++ B).length : Int) (B.length : Int) w = brT P := fun _ => q_bracket h12 (by omega)
  unfold gGo
  rw [F_X10_takesSign_a0_42_1 hn (mp_a h7)]
  by_cases c1 : tx_k g n p = 3 ∧ g (tx_a g n p) = 42
  · have v1 := c1.2
    rw [if_pos c1, lf_p_e, if_neg (show ¬ (1 : Int) = 0 from by decide), ht, if_pos c1.2]
    exact qc_opr hn h0 h6P ⟨c1.1, Or.inl c1.2⟩ (lo := 3) (l := 3) (by decide) (if_pos (Or.inl c1.2)) (if_pos c1.2) (qc_162 hB P 1623 K cd h12 (by omega) hK)
  · rw [if_neg c1, lf_p_e, if_pos rfl, F_X10_takesSign_a0_47_1 hn (mp_a h7)]
    by_cases c2 : tx_k g n p = 3 ∧ g (tx_a g n p) = 47
    · have v1 := c2.2
      rw [if_pos c2, lf_p_e, if_neg (show ¬ (1 : Int) = 0 from by decide), ht, if_neg (show ¬ g (tx_a g n p) = 42 from by omega)]
      exact qc_opr hn h0 h6P ⟨c2.1, Or.inr (Or.inl c2.2)⟩ (lo := 3) (l := 4) (by decide) (if_pos (Or.inr c2.2)) ((if_neg (by omega)).trans (if_pos c2.2)) (qc_162 hB P 1623 K cd h12 (by omega) hK)
    · rw [if_neg c2, lf_p_e, if_pos rfl, F_X10_takesSign_a0_43_1 hn (mp_a h7)]
      by_cases c3 : tx_k g n p = 3 ∧ g (tx_a g n p) = 43
      · have v1 := c3.2
        rw [if_pos c3, lf_p_e, if_neg (show ¬ (1 : Int) = 0 from by decide), ht, if_pos c3.2]
        exact qc_opr hn h0 h6P ⟨c3.1, Or.inr (Or.inr (Or.inl c3.2))⟩ (lo := 1) (l := 1) (by decide) (if_neg (by omega)) ((if_neg (by omega)).trans ((if_neg (by omega)).trans (if_pos c3.2))) (qc_247 hB P 1623 K cd h12 (by omega) hK)
      · rw [if_neg c3, lf_p_e, if_pos rfl, F_X10_takesSign_a0_45_1 hn (mp_a h7)]
        by_cases c4 : tx_k g n p = 3 ∧ g (tx_a g n p) = 45
        · have v1 := c4.2
          rw [if_pos c4, lf_p_e, if_neg (show ¬ (1 : Int) = 0 from by decide), ht, if_neg (show ¬ g (tx_a g n p) = 43 from by omega)]
          exact qc_opr hn h0 h6P ⟨c4.1, Or.inr (Or.inr (Or.inr c4.2))⟩ (lo := 1) (l := 2) (by decide) (if_neg (by omega)) ((if_neg (by omega)).trans ((if_neg (by omega)).trans (if_neg (by omega)))) (qc_247 hB P 1623 K cd h12 (by omega) hK)
        · have hop : ¬ opS g n p := fun r => by
            rcases r.2 with s | s | s | s
            · exact c1 ⟨r.1, s⟩
            · exact c2 ⟨r.1, s⟩
            · exact c3 ⟨r.1, s⟩
            · exact c4 ⟨r.1, s⟩
          rw [if_neg c4, lf_p_e, if_pos rfl, lf_b_e, sw 0]
          by_cases b1 : brT P = 21
          · rw [if_pos b1]
            exact qc_cm hn h0 h6P hop (Or.inl b1) hK
          · rw [if_neg b1, lf_b_e]
            by_cases b2 : brT P = 22
            · rw [if_pos b2]
              exact qc_cm hn h0 h6P hop (Or.inr b2) hK
            · rw [if_neg b2, lf_b_e]
              rcases ok_dr h1 h6P with r | ⟨x, Q, a1, a2, a3, a4, a5, a6⟩
              · rw [if_pos r.1, RC_nd hop r.1]
                exact Or.inr (Or.inr ⟨rfl, P, K, o, p, rfl, Nat.le_refl _, r.2, ⟨h1, h2, h3, h4, h5, h6', mp_a h7, rfl, rfl, rfl, rfl, h12⟩, rfl, hK⟩)
              · have hx := isBr_i.mp a2
                have hcl : ¬ (tx_k g n p = 3 ∧ g (tx_a g n p) = 41) := fun s => hc ⟨s, by omega⟩
                rw [if_neg (by omega), RC_bd hcl hop (by omega) (by omega)]
                exact Or.inr (Or.inl ⟨rfl, (1, (tx_a g n p : Int)), rfl, (show ¬ (1 : Int) = 0 from by decide), rfl, rfl⟩)
end QGC
theorem qGC_m {g : Nat → Int} {n : Nat} {al : Int} {B : List Int} {o0 : Int} {d : Nat} {xe : Int} {S : SL} {p p1 : Nat} {R : Int × Int × Int × Int × Int × Int × Int × (Nat → Int) × (Nat → Int)} (h : p ≤ p1) (hq : qGC g n al B o0 d xe S p1 R) : qGC g n al B o0 d xe S p R := by
  rcases hq with ⟨a, P2, K2, o2, p2, b, c, d⟩ | r | ⟨a, P2, K2, o2, p2, b, c, d⟩
  · exact Or.inl ⟨a, P2, K2, o2, p2, b, by omega, d⟩
  · exact Or.inr (Or.inl r)
  · exact Or.inr (Or.inr ⟨a, P2, K2, o2, p2, b, by omega, d⟩)
section QCC
variable {g : Nat → Int} {n : Nat} {al : Int} {B : List Int} {o0 : Int} {d : Nat}
theorem qc_goes (hn : n ≤ 1600) (hB : ¬ (1 ≤ B.headD 0 ∧ B.headD 0 ≤ 4)) {w : Nat → Int} {xe : Int} : ∀ (f : Nat) (P K : List Int) (o : Int) (p : Nat) (xa : Int) (cd : Nat → Int), qS g n B o0 d P o p xa xe (0 : Int) (-1 : Int) (K.length : Int) ((P ++ B).length : Int) o w → h6 P → n - p < f → pcl cd K → qGC g n al B o0 d xe (RC g n al false P K o p) p (F_X10_qGoesOn_0 (n : Int) (0 : Int) (-1 : Int) (B.length : Int) g w f xa (K.length : Int) ((P ++ B).length : Int) o cd) := by
  intro f
  induction f with
  | zero => intro P K o p xa cd h hP hf; omega
  | succ f ih =>
    intro P K o p xa cd h hP hf hK
    have hlen := q_len hn h
    have h0 := h
    obtain ⟨h1, h2, h3, h4, h5, h6', h7, h8, h9, h10, h11, h12⟩ := h
    have hl1 : (P ++ B).length = P.length + B.length := List.length_append
    have sw : F_X10_qBracket ((P ++ B).length : Int) (B.length : Int) w = brT P := q_bracket h12 (by omega)
    show qGC g n al B o0 d xe (RC g n al false P K o p) p (F_X10_qGoesOn_0b (n : Int) (0 : Int) (-1 : Int) (B.length : Int) g w (F_X10_qGoesOn_0 (n : Int) (0 : Int) (-1 : Int) (B.length : Int) g w f) xa (K.length : Int) ((P ++ B).length : Int) o cd)
    rw [gGo_b, ml_look hn h7, lf_p_e]
    by_cases q : lk g n p = 41
    · have q' : tx_k g n p = 3 ∧ g (tx_a g n p) = 41 := (lk_sgn (by omega)).mp q
      have hlt : p < tx_e g n p := tx_e_gt' (by have := q'.1; omega)
      have hle := tx_e_le (f := g) h7.1
      rw [if_pos q, lf_b_e, sw]
      have main : (brT P = 20 ∨ brT P = 23 ∨ brT P = 24) → ∃ (x : Int) (Q : List Int) (cd2 : Nat → Int), F_X10_qDropsToBracket (K.length : Int) ((P ++ B).length : Int) (B.length : Int) cd w = (((dB P K).2.length : Int), (((x :: Q) ++ B).length : Int), cd2) ∧ pcl cd2 (dB P K).2 ∧ (((x :: Q) ++ B).length : Int) - 1 = ((Q ++ B).length : Int) ∧ ∀ (cd' : Nat → Int), pcl cd' (clK (brT P) (dB P K).2) → qGC g n al B o0 d xe (RC g n al false P K o p) p (lf_p (F_X10_qEndsPart (0 : Int) ((clK (brT P) (dB P K).2).length : Int) ((Q ++ B).length : Int) (o - 1) (B.length : Int) cd' w) (fun v527 t_v528 => (lf_p t_v528 (fun v528 t_v529 => (lf_p t_v529 (fun v529 f530 => (F_X10_qGoesOn_0 (n : Int) (0 : Int) (-1 : Int) (B.length : Int) g w f ((tx_a g n p : Int) + (1 : Int)) v527 v528 v529 f530))))))) := by
        intro hb3
        obtain ⟨cd2, e1, ep⟩ := qc_drops (cd := cd) (K := K) h12 (by omega) hK
        have e2 := dB_len P K
        have eb := dB_1 P K
        rw [eb] at e2
        rcases ok_dr h1 hP with r | ⟨x, Q, a1, a2, a3, a4, a5, a6⟩
        · omega
        rw [a1] at e1 e2 eb
        have e2' : (dB P K).2.length + (Q.length + 1) = K.length + P.length := e2
        have hl2 : (Q ++ B).length = Q.length + B.length := List.length_append
        have hpQ : pwl w (Q ++ B) := by
          have := drT_p P h12
          rw [a1] at this
          exact this.2
        refine ⟨x, Q, cd2, e1, ep, ?_, ?_⟩
        · show (((Q ++ B).length + 1 : Nat) : Int) - 1 = _
          omega
        · intro cd' hcd
          have hcl : (clK (brT P) (dB P K).2).length ≤ (dB P K).2.length + 1 := by
            unfold clK
            split
            · rw [List.length_append]
              exact Nat.le_refl _
            · split
              · rw [List.length_append]
                exact Nat.le_refl _
              · omega
          have hlq : o = o0 + (((stT Q).length + 1 : Nat) : Int) := by
            rw [h2, a4]
            rfl
          obtain ⟨cd3, e3, e4⟩ := qc_ends (K := clK (brT P) (dB P K).2) (cd := cd') (o := o - 1) (T := Q) hpQ (by omega) (by omega) (by omega) hcd
          obtain ⟨u1, u2, u3, u4, u5, u6⟩ := ok_eo (o - 1) a5
          have u7 := eoD_le Q (o - 1)
          have u8 := dE_len Q (clK (brT P) (dB P K).2) (o - 1)
          have u9 := dE_1 Q (clK (brT P) (dB P K).2) (o - 1)
          rw [u9.1] at u8
          have hl3 : ((eoD Q (o - 1)).1 ++ B).length = (eoD Q (o - 1)).1.length + B.length := List.length_append
          have eS : RC g n al false P K o p = RC g n al false (eoD Q (o - 1)).1 (dE Q (clK (brT P) (dB P K).2) (o - 1)).2.1 (eoD Q (o - 1)).2 (tx_e g n p) := by
            rw [RC_cl h7.1 q' hb3, eb, show (x :: Q).tail = Q from rfl, u9.1, u9.2]
          rw [e3, lf_p_e, lf_p_e, lf_p_e, eS]
          exact qGC_m (Nat.le_of_lt hlt) (ih (eoD Q (o - 1)).1 (dE Q (clK (brT P) (dB P K).2) (o - 1)).2.1 (eoD Q (o - 1)).2 (tx_e g n p) _ cd3 ⟨u3, by omega, h3, by omega, by omega, by omega, mp_sgn h7 q'.1, rfl, rfl, rfl, rfl, eoD_p Q (o - 1) hpQ⟩ u4 (by omega) e4)
      by_cases b1 : brT P = 20
      · obtain ⟨x, Q, cd2, e1, ep, e4, e5⟩ := main (Or.inl b1)
        have ec : clK (brT P) (dB P K).2 = (dB P K).2 := (if_neg (by omega)).trans (if_neg (by omega))
        rw [ec] at e5
        rw [if_pos b1, e1, lf_p_e, lf_p_e, e4, lo_sub (by omega) (by omega) (by omega) (by omega) (by omega) (by omega)]
        exact e5 cd2 ep
      · rw [if_neg b1, lf_b_e]
        by_cases b2 : brT P = 23
        · obtain ⟨x, Q, cd2, e1, ep, e4, e5⟩ := main (Or.inr (Or.inl b2))
          have ec : clK (brT P) (dB P K).2 = (dB P K).2 ++ [5] := if_pos b2
          rw [ec, len_1] at e5
          rw [if_pos b2, e1, lf_p_e, lf_p_e, e4, lo_sub (by omega) (by omega) (by omega) (by omega) (by omega) (by omega)]
          unfold F_X10_qCode
          rw [lf_p_e]
          exact e5 _ (pcl_app ep 5)
        · rw [if_neg b2, lf_b_e]
          by_cases b3 : brT P = 24
          · obtain ⟨x, Q, cd2, e1, ep, e4, e5⟩ := main (Or.inr (Or.inr b3))
            have ec : clK (brT P) (dB P K).2 = (dB P K).2 ++ [6] := (if_neg b2).trans (if_pos b3)
            rw [ec, len_1] at e5
            rw [if_pos b3, e1, lf_p_e, lf_p_e, e4, lo_sub (by omega) (by omega) (by omega) (by omega) (by omega) (by omega)]
            unfold F_X10_qCode
            rw [lf_p_e]
            exact e5 _ (pcl_app ep 6)
          · rw [if_neg b3]
            exact qc_go hn hB h0 hP (fun r => by have := r.2; omega) hK
    · rw [if_neg q]
      exact qc_go hn hB h0 hP (fun r => q ((lk_sgn (by omega)).mpr r.1)) hK
end QCC
end
section
/-! 6c -/
/-- what qPartTold leaves, with what is coded -/
def qTC (g : Nat → Int) (n : Nat) (al : Int) (B : List Int) (o0 : Int) (d : Nat) (S : SL) (p : Nat) (R : Int × Int × Int × Int × Int × Int × Int × (Nat → Int) × (Nat → Int)) : Prop := (∃ q : Int × Int, S = .inl q ∧ ¬ q.1 = 0 ∧ R.2.2.1 = q.1 ∧ R.2.2.2.1 = q.2) ∨ (∃ P2 K2 o2 p2, S = RC g n al false P2 K2 o2 p2 ∧ p < p2 ∧ h6 P2 ∧ qSC g n B o0 d P2 K2 o2 p2 R.1 R.2.1 R.2.2.1 R.2.2.2.1 R.2.2.2.2.1 R.2.2.2.2.2.1 R.2.2.2.2.2.2.1 R.2.2.2.2.2.2.2.1 R.2.2.2.2.2.2.2.2)
theorem qTC_m {g : Nat → Int} {n : Nat} {al : Int} {B : List Int} {o0 : Int} {d : Nat} {S : SL} {p p1 : Nat} {R : Int × Int × Int × Int × Int × Int × Int × (Nat → Int) × (Nat → Int)} (h : p ≤ p1) (hq : qTC g n al B o0 d S p1 R) : qTC g n al B o0 d S p R := by
  rcases hq with r | ⟨P2, K2, o2, p2, b, c, d⟩
  · exact Or.inl r
  · exact Or.inr ⟨P2, K2, o2, p2, b, by omega, d⟩
theorem sp_num_hi {g : Nat → Int} {n p q : Nat} {lo hi : Int} (h : (sp_num g n lo hi p).2 = .inr q) : (sp_num g n lo hi p).1 ≤ hi := by
  unfold sp_num at h ⊢
  by_cases k : tx_k g n p = 2
  · rw [if_pos k] at h ⊢
    by_cases k2 : tx_e g n p - tx_a g n p ≤ 4
    · rw [if_pos k2] at h ⊢
      by_cases k3 : dval g (tx_e g n p - tx_a g n p) (tx_a g n p) 0 < lo ∨ hi < dval g (tx_e g n p - tx_a g n p) (tx_a g n p) 0
      · rw [if_pos k3] at h
        cases h
      · rw [if_neg k3]
        show dval g (tx_e g n p - tx_a g n p) (tx_a g n p) 0 ≤ hi
        omega
    · rw [if_neg k2] at h
      cases h
  · rw [if_neg k] at h
    cases h
theorem bL_num {g : Nat → Int} {n p : Nat} (k : Nat → List Int → SL) : bL (numM g n p) k = ndL (sp_num g n 0 9999 p).2 (fun q => k q [1000 + (sp_num g n 0 9999 p).1]) := by
  unfold numM
  cases (sp_num g n 0 9999 p).2 with
  | inl z => rfl
  | inr z => rfl
section QPC
variable {g : Nat → Int} {n : Nat} {al tk : Int} {B : List Int} {o0 : Int} {d : Nat} {vmin vmax v1 v2 v3 v4 v5 v6 v7 v8 v9 v10 v11 v12 v13 : Nat → Int}
theorem qc_ep {P K : List Int} {o v : Int} {p : Nat} {xa xe : Int} {w cd : Nat → Int} (hn : n ≤ 1600) (h : qS g n B o0 d P o p xa xe (0 : Int) (-1 : Int) (K.length : Int) ((P ++ B).length : Int) o w) {s : ST} (hs : sv n s) (hs2 : ∀ q, s = .inr q → p < q) {ya ye yb yp : Int} (hr : rm g n s ya ye yb yp) (hK : ∀ q, s = .inr q → pcl cd (K ++ [v])) : qTC g n al B o0 d (ndL s (fun p2 => RC g n al false (dE P (K ++ [v]) o).1 (dE P (K ++ [v]) o).2.1 (dE P (K ++ [v]) o).2.2 p2)) p (lf_p (F_X10_qEndsPart yb ((K.length : Int) + 1) ((P ++ B).length : Int) o (B.length : Int) cd w) (fun v52 t_v53 => (lf_p t_v53 (fun v53 t_v54 => (lf_p t_v54 (fun v54 f55 => (ya, ye, yb, yp, v52, v53, v54, w, f55))))))) := by
  have hlen := q_len hn h
  obtain ⟨h1, h2, h3, h4, h5, h6', h7, h8, h9, h10, h11, h12⟩ := h
  have hl1 : (P ++ B).length = P.length + B.length := List.length_append
  cases s with
  | inl q =>
    obtain ⟨r1, r2⟩ := hr
    rw [q_ends0 (show ¬ yb = 0 from fun e => hs (r1.symm.trans e)), lf_p_e, lf_p_e, lf_p_e]
    exact Or.inl ⟨q, rfl, hs, r1, r2⟩
  | inr p2 =>
    obtain ⟨r1, r2, r3⟩ := hr
    subst r1
    subst r2
    have hlt := hs2 p2 rfl
    obtain ⟨cd3, e3, e4⟩ := qc_ends (K := K ++ [v]) (cd := cd) (o := o) (T := P) h12 (by omega) (by omega) (by omega) (hK p2 rfl)
    rw [len_1] at e3
    obtain ⟨u1, u2, u3, u4, u5, u6⟩ := ok_eo o h1
    have u7 := eoD_le P o
    have u8 := dE_len P (K ++ [v]) o
    have u9 := dE_1 P (K ++ [v]) o
    rw [u9.1, List.length_append] at u8
    have u8' : (dE P (K ++ [v]) o).2.1.length + (eoD P o).1.length = K.length + 1 + P.length := u8
    have hl3 : ((eoD P o).1 ++ B).length = (eoD P o).1.length + B.length := List.length_append
    rw [e3, lf_p_e, lf_p_e, lf_p_e]
    refine Or.inr ⟨(eoD P o).1, (dE P (K ++ [v]) o).2.1, (eoD P o).2, p2, ?_, hlt, u4, ⟨u3, by omega, h3, by omega, ?_, ?_, r3, rfl, rfl, rfl, rfl, eoD_p P o h12⟩, rfl, e4⟩
    · show RC g n al false (dE P (K ++ [v]) o).1 (dE P (K ++ [v]) o).2.1 (dE P (K ++ [v]) o).2.2 p2 = _
      rw [u9.1, u9.2]
    · show ((dE P (K ++ [v]) o).2.1.length : Int) + (d : Int) + (((eoD P o).1 ++ B).length : Int) ≤ _
      omega
    · show 0 ≤ ((dE P (K ++ [v]) o).2.1.length : Int)
      omega
theorem qc_at {P K : List Int} {o : Int} {p : Nat} {xa xe : Int} {w cd : Nat → Int} (hn : n ≤ 1600) (hq : qw v1 v2 v3 v4 v5 v6 v7 v8 v9 v10 v11 v12 v13) (ht : tkA tk al) (h : qS g n B o0 d P o p xa xe (0 : Int) (-1 : Int) (K.length : Int) ((P ++ B).length : Int) o w) (hK : pcl cd K) (f : Nat) : qTC g n al B o0 d (bL (atM g n al p) (fun q L => RC g n al false (dE P (K ++ L) o).1 (dE P (K ++ L) o).2.1 (dE P (K ++ L) o).2.2 q)) p (F_X10_qPartTold_2 (n : Int) tk (K.length : Int) (B.length : Int) g vmin vmax v1 v2 v3 v4 v5 v6 v7 v8 v9 v10 v11 v12 v13 cd (f + 1) xa xe (0 : Int) (-1 : Int) ((P ++ B).length : Int) o w (0 : Int)) := by
  have h7 := h.2.2.2.2.2.2.1
  show qTC g n al B o0 d _ p (F_X10_qPartTold_2b (n : Int) tk (K.length : Int) (B.length : Int) g vmin vmax v1 v2 v3 v4 v5 v6 v7 v8 v9 v10 v11 v12 v13 cd (F_X10_qPartTold_2 (n : Int) tk (K.length : Int) (B.length : Int) g vmin vmax v1 v2 v3 v4 v5 v6 v7 v8 v9 v10 v11 v12 v13 cd f) xa xe (0 : Int) (-1 : Int) ((P ++ B).length : Int) o w (0 : Int))
  unfold F_X10_qPartTold_2b
  rw [if_pos rfl, if_pos rfl, q_wo1 hn hq ht h7, lf_p_e]
  by_cases q : wl g n ws_20 p = -1 ∨ alB al (wl g n ws_20 p) = false
  · have er : (if wl g n ws_20 p = -1 then (-1 : Int) else if alB al (wl g n ws_20 p) = true then wl g n ws_20 p else -1) = -1 := by
      by_cases q1 : wl g n ws_20 p = -1
      · rw [if_pos q1]
      · rcases q with q | q
        · exact absurd q q1
        · rw [if_neg q1, q, if_neg (fun r => Bool.noConfusion r)]
    rw [er, if_pos rfl, F_X10_number_a0_0_a1_9999_g]
    have e1 : atM g n al p = numM g n p := by
      unfold atM
      by_cases k : tx_k g n p = 2
      · rw [if_pos k]
      · rw [if_neg k]
        have e2 : (sp_num g n 0 9999 p).2 = .inl (1, (tx_a g n p : Int)) := by
          unfold sp_num
          rw [if_neg k]
        unfold numM
        rw [e2]
        unfold pwM
        rw [if_pos]
        · rfl
        · rcases q with q | q
          · exact Or.inl q
          · refine Or.inr ?_
            unfold alB at q
            have := of_decide_eq_false q
            exact Decidable.not_not.mp this
    have hm := gM_1 hn (mp_a h7) 0 9999
    have hv := sp_num_v (g := g) 0 9999 h7.1
    have hg : ∀ q, (sp_num g n 0 9999 p).2 = .inr q → p < q := fun q e => sp_num_gt e
    have hlo : 0 ≤ (sp_num g n 0 9999 p).1 := sp_num_lo
    have hhi : ∀ q, (sp_num g n 0 9999 p).2 = .inr q → (sp_num g n 0 9999 p).1 ≤ 9999 := fun q e => sp_num_hi e
    rw [e1, bL_num]
    generalize gM (tx_a g n p : Int) (n : Int) xe (0 : Int) (-1 : Int) g (0 : Int) (9999 : Int) = R at hm ⊢
    obtain ⟨r1, r2, r3, r4, r5⟩ := R
    rw [lf_p_e, lf_p_e, lf_p_e, lf_p_e]
    unfold F_X10_qCode
    rw [lf_p_e]
    refine qc_ep hn h hv hg hm.1 (fun q e => ?_)
    have e3 : r1 = (sp_num g n 0 9999 p).1 := hm.2 q e
    have e4 := hhi q e
    rw [lo_add (by omega) (by omega) (by omega) (by omega) (by omega) (by omega), e3]
    exact pcl_app hK _
  · have q1 : ¬ wl g n ws_20 p = -1 := fun r => q (Or.inl r)
    have q2 : alB al (wl g n ws_20 p) = true := by
      cases c : alB al (wl g n ws_20 p) with
      | true => rfl
      | false => exact absurd (Or.inr c) q
    have hb := wl_20 q1
    have hk := wl_k q1
    have e1 : atM g n al p = .inr (tx_e g n p, [40 + wl g n ws_20 p]) := by
      unfold atM
      rw [if_neg (by omega)]
      unfold pwM
      rw [if_neg]
      intro r
      rcases r with r | r
      · exact q1 r
      · unfold alB at q2
        exact of_decide_eq_true q2 r
    have hm := q_aw hn hq (mp_a h7) (r := wl g n ws_20 p) (by rw [wl_q, if_neg q1]) q1
    have hg : ∀ q, (.inr (tx_e g n p) : ST) = .inr q → p < q := fun q e => by
      cases e
      exact tx_e_gt' (by omega)
    have hv : sv n (.inr (tx_e g n p) : ST) := tx_e_le h7.1
    rw [e1, if_neg q1, if_pos q2, if_neg (show ¬ wl g n ws_20 p = -1 from q1)]
    generalize F_X10_qAsksWord (tx_a g n p : Int) (n : Int) xe (0 : Int) (-1 : Int) g v1 v2 v3 v4 v5 v6 v7 v8 v9 v10 v11 v12 v13 (wl g n ws_20 p) = R at hm ⊢
    obtain ⟨r1, r2, r3, r4⟩ := R
    rw [lf_p_e, lf_p_e, lf_p_e]
    unfold F_X10_qCode
    rw [lf_p_e]
    exact qc_ep (s := .inr (tx_e g n p)) hn h hv hg hm (fun q e => pcl_app hK _)
theorem qc_mm {P : List Int} {o : Int} {p : Nat} {K : List Int} {xa xe : Int} {w : Nat → Int} (x : Int) (hx : x = 21 ∨ x = 22) (hn : n ≤ 1600) (h : qS g n B o0 d P o p xa xe (0 : Int) (-1 : Int) (K.length : Int) ((P ++ B).length : Int) o w) {cd : Nat → Int} (f : Nat) (ih : ∀ (P : List Int) (o : Int) (p : Nat) (xa xe : Int) (w : Nat → Int), qS g n B o0 d P o p xa xe (0 : Int) (-1 : Int) (K.length : Int) ((P ++ B).length : Int) o w → n - p + 1 < f + 1 → qTC g n al B o0 d (RC g n al true P K o p) p (F_X10_qPartTold_2 (n : Int) tk (K.length : Int) (B.length : Int) g vmin vmax v1 v2 v3 v4 v5 v6 v7 v8 v9 v10 v11 v12 v13 cd (f + 1) xa xe (0 : Int) (-1 : Int) ((P ++ B).length : Int) o w (1 : Int))) (hf : n - p < f + 1) : qTC g n al B o0 d (mmC g n al x P K o p) p (lf_p (F_X10_look xa (n : Int) g) (fun r418 v420 => (if r418 = (40 : Int) then (lf_p (F_X10_qOpens (0 : Int) (-1 : Int) ((P ++ B).length : Int) o w x v420) (fun v467 t_v468 => (lf_p t_v468 (fun v468 t_v469 => (lf_p t_v469 (fun v469 t_v470 => (lf_p t_v470 (fun v470 f471 => (lf_p (F_X10_asksSign_a0_40 v420 (n : Int) v467 v468 g) (fun v481 t_v482 => (lf_p t_v482 (fun v482 v483 => (F_X10_qPartTold_2 (n : Int) tk (K.length : Int) (B.length : Int) g vmin vmax v1 v2 v3 v4 v5 v6 v7 v8 v9 v10 v11 v12 v13 cd (f + 1) v481 xe v482 v483 v469 v470 f471 (1 : Int)))))))))))))) else (lf_p (F_X10_asksSign_a0_40 v420 (n : Int) (0 : Int) (-1 : Int) g) (fun v438 t_v439 => (lf_p t_v439 (fun v439 v440 => (F_X10_qPartTold_2 (n : Int) tk (K.length : Int) (B.length : Int) g vmin vmax v1 v2 v3 v4 v5 v6 v7 v8 v9 v10 v11 v12 v13 cd (f + 1) v438 xe v439 v440 ((P ++ B).length : Int) o w (1 : Int))))))))) := by
  have hlen := q_len hn h
  obtain ⟨h1, h2, h3, h4, h5, h6', h7, h8, h9, h10, h11, h12⟩ := h
  have hle := tx_e_le (f := g) h7.1
  rw [ml_look hn h7, lf_p_e]
  unfold mmC
  by_cases q : lk g n p = 40
  · have q' : tx_k g n p = 3 ∧ g (tx_a g n p) = 40 := (lk_sgn (by omega)).mp q
    have hlt : p < tx_e g n p := tx_e_gt' (by have := q'.1; omega)
    unfold F_X10_qOpens
    rw [if_pos q, if_pos q', if_pos rfl]
    by_cases h6o : o = 6
    · rw [if_pos h6o, if_pos h6o, lf_p_e, lf_p_e, lf_p_e, lf_p_e]
      unfold F_X10_asksSign_a0_40
      rw [if_neg (show ¬ (4 : Int) = 0 from by decide), lf_p_e, lf_p_e, q_pt0 (show ¬ (4 : Int) = 0 from by decide)]
      exact Or.inl ⟨(4, (tx_a g n p : Int)), rfl, (show ¬ (4 : Int) = 0 from by decide), rfl, rfl⟩
    · rw [if_neg h6o, if_neg h6o, lf_p_e, lf_p_e, lf_p_e, lf_p_e, F_X10_asksSign_a0_40_1 hn (mp_a h7), if_pos q', lf_p_e, lf_p_e, lo_add (by omega) (by omega) (by omega) (by omega) (by omega) (by omega)]
      have hbr : isBr x = true := isBr_i.mpr (by omega)
      have hs : stT (x :: P) = x :: stT P := stT_n (br_op hbr)
      refine qTC_m (Nat.le_of_lt hlt) (ih (x :: P) (o + 1) (tx_e g n p) _ xe _ ⟨⟨h1, Or.inr (Or.inl hbr)⟩, ?_, h3, by omega, ?_, h6', mp_sgn h7 q'.1, rfl, rfl, rfl, rfl, pwl_push h12 x⟩ (by omega))
      · rw [hs, h2]
        show _ = o0 + (((stT P).length + 1 : Nat) : Int)
        omega
      · show (K.length : Int) + (d : Int) + (((P ++ B).length + 1 : Nat) : Int) ≤ _
        omega
  · have q' : ¬ (tx_k g n p = 3 ∧ g (tx_a g n p) = 40) := fun r => q ((lk_sgn (by omega)).mpr r)
    rw [if_neg q, if_neg q', F_X10_asksSign_a0_40_1 hn (mp_a h7), if_neg q', lf_p_e, lf_p_e, q_pt0 (show ¬ (1 : Int) = 0 from by decide)]
    exact Or.inl ⟨(1, (tx_a g n p : Int)), rfl, (show ¬ (1 : Int) = 0 from by decide), rfl, rfl⟩
theorem qc_pt (hn : n ≤ 1600) (hq : qw v1 v2 v3 v4 v5 v6 v7 v8 v9 v10 v11 v12 v13) (hmin : wa vmin W_min) (hmax : wa vmax W_max) (ht : tkA tk al) {K : List Int} {cd : Nat → Int} (hK : pcl cd K) : ∀ (f : Nat) (P : List Int) (o : Int) (p : Nat) (xa xe : Int) (w : Nat → Int), qS g n B o0 d P o p xa xe (0 : Int) (-1 : Int) (K.length : Int) ((P ++ B).length : Int) o w → n - p + 1 < f → qTC g n al B o0 d (RC g n al true P K o p) p (F_X10_qPartTold_2 (n : Int) tk (K.length : Int) (B.length : Int) g vmin vmax v1 v2 v3 v4 v5 v6 v7 v8 v9 v10 v11 v12 v13 cd f xa xe (0 : Int) (-1 : Int) ((P ++ B).length : Int) o w (1 : Int)) := by
  intro f
  induction f with
  | zero => intro P o p xa xe w h hf; omega
  | succ f ih =>
    intro P o p xa xe w h hf
    obtain ⟨f, rfl⟩ : ∃ k, f = k + 1 := ⟨f - 1, by omega⟩
    have h0 := h
    have hlen := q_len hn h
    obtain ⟨h1, h2, h3, h4, h5, h6', h7, h8, h9, h10, h11, h12⟩ := h
    have hle := tx_e_le (f := g) h7.1
    have hat : qS g n B o0 d P o p (tx_a g n p : Int) xe (0 : Int) (-1 : Int) (K.length : Int) ((P ++ B).length : Int) o w := ⟨h1, h2, h3, h4, h5, h6', mp_a h7, h8, h9, h10, h11, h12⟩
    show qTC g n al B o0 d _ p (F_X10_qPartTold_2b (n : Int) tk (K.length : Int) (B.length : Int) g vmin vmax v1 v2 v3 v4 v5 v6 v7 v8 v9 v10 v11 v12 v13 cd (F_X10_qPartTold_2 (n : Int) tk (K.length : Int) (B.length : Int) g vmin vmax v1 v2 v3 v4 v5 v6 v7 v8 v9 v10 v11 v12 v13 cd (f + 1)) xa xe (0 : Int) (-1 : Int) ((P ++ B).length : Int) o w (1 : Int))
    unfold F_X10_qPartTold_2b
    rw [if_neg (show ¬ (1 : Int) = 0 from by decide), if_pos rfl, ml_look hn h7, lf_p_e, q_wo2 hn hq ht (mp_a h7), lf_p_e]
    by_cases c1 : lk g n p = 40
    · have q' : tx_k g n p = 3 ∧ g (tx_a g n p) = 40 := (lk_sgn (by omega)).mp c1
      have hlt : p < tx_e g n p := tx_e_gt' (by have := q'.1; omega)
      unfold F_X10_qOpens_a0_20
      rw [if_pos c1, if_pos rfl]
      by_cases h6o : o = 6
      · rw [if_pos h6o, lf_p_e, lf_p_e, lf_p_e, lf_p_e, q_pt0 (show ¬ (4 : Int) = 0 from by decide), h6o, RC_o6 q']
        exact Or.inl ⟨(4, (tx_a g n p : Int)), rfl, (show ¬ (4 : Int) = 0 from by decide), rfl, rfl⟩
      · rw [if_neg h6o, lf_p_e, lf_p_e, lf_p_e, lf_p_e, lo_add (by omega) (by omega) (by omega) (by omega) (by omega) (by omega), RC_o1 h7.1 q' h6o]
        have hs : stT (20 :: P) = 20 :: stT P := rfl
        refine qTC_m (Nat.le_of_lt hlt) (ih (20 :: P) (o + 1) (tx_e g n p) _ xe _ ⟨⟨h1, Or.inr (Or.inl rfl)⟩, ?_, h3, by omega, ?_, h6', mp_sgn h7 q'.1, rfl, rfl, rfl, rfl, pwl_push h12 20⟩ (by omega))
        · rw [hs, h2]
          show _ = o0 + (((stT P).length + 1 : Nat) : Int)
          omega
        · show (K.length : Int) + (d : Int) + (((P ++ B).length + 1 : Nat) : Int) ≤ _
          omega
    · have q' : ¬ (tx_k g n p = 3 ∧ g (tx_a g n p) = 40) := fun r => c1 ((lk_sgn (by omega)).mpr r)
      rw [if_neg c1, F_X10_isHere_1 hn (W := W_min) rfl hmin (mp_a h7), lf_p_e]
      cases cm : wh g n W_min p with
      | true =>
        have k17 : ¬ wl g n ws_17 p = -1 := by
          rw [show wl g n ws_17 p = 0 from (wl_1 W_min).trans (if_pos cm)]
          decide
        have hk := (wh_k cm).1
        have hlt : p < tx_e g n p := tx_e_gt' (by omega)
        rw [if_neg (show ¬ b2 true = 0 from by decide), F_X10_takes_1 hn (W := W_min) rfl hmin (mp_a h7), if_pos cm, lf_p_e, lf_p_e, if_neg (show ¬ (1 : Int) = 0 from by decide), RC_mm h7.1 k17]
        exact qTC_m (Nat.le_of_lt hlt) (qc_mm 21 (Or.inl rfl) hn ⟨h1, h2, h3, h4, by omega, h6', mp_tok h7.1 hk (Or.inl rfl), rfl, rfl, rfl, rfl, h12⟩ f ih (by omega))
      | false =>
        have k17 : wl g n ws_17 p = -1 := (wl_1 W_min).trans (if_neg (fun r => Bool.noConfusion (cm.symm.trans r)))
        rw [if_pos (show b2 false = 0 from rfl), F_X10_isHere_1 hn (W := W_max) rfl hmax (mp_a h7), lf_p_e]
        cases cx : wh g n W_max p with
        | true =>
          have k18 : ¬ wl g n ws_18 p = -1 := by
            rw [show wl g n ws_18 p = 0 from (wl_1 W_max).trans (if_pos cx)]
            decide
          have hk := (wh_k cx).1
          have hlt : p < tx_e g n p := tx_e_gt' (by omega)
          rw [if_neg (show ¬ b2 true = 0 from by decide), F_X10_takes_1 hn (W := W_min) rfl hmin (mp_a h7), if_neg (show ¬ wh g n W_min p = true from fun r => Bool.noConfusion (cm.symm.trans r)), lf_p_e, lf_p_e, if_pos rfl, F_X10_asks_t hn (W := W_max) rfl hmax (mp_a h7) cx, lf_p_e, lf_p_e, lf_p_e, RC_mx h7.1 k17 k18]
          exact qTC_m (Nat.le_of_lt hlt) (qc_mm 22 (Or.inr rfl) hn ⟨h1, h2, h3, h4, by omega, h6', mp_tok h7.1 hk (Or.inl rfl), rfl, rfl, rfl, rfl, h12⟩ f ih (by omega))
        | false =>
          have k18 : wl g n ws_18 p = -1 := (wl_1 W_max).trans (if_neg (fun r => Bool.noConfusion (cx.symm.trans r)))
          rw [if_pos (show b2 false = 0 from rfl)]
          by_cases hk : al = 3707 ∧ ¬ wl g n ws_19 p = -1
          · have k20 := wl_19 hk.2
            have hk1 := wl_k hk.2
            have hlt : p < tx_e g n p := tx_e_gt' (by omega)
            rw [if_pos (show wl g n ws_20 p = -1 ∧ ¬ wl g n ws_19 p = -1 ∧ al = 3707 from ⟨k20, hk.2, hk.1⟩), if_neg (show ¬ (12 : Int) = -1 from by decide), show (60 : Int) + 12 - 12 = 60 from rfl]
            unfold F_X10_qOpens
            rw [if_pos rfl]
            by_cases h6o : o = 6
            · rw [if_pos h6o, lf_p_e, lf_p_e, lf_p_e, lf_p_e, q_aw0 (show ¬ (4 : Int) = 0 from by decide), lf_p_e, lf_p_e, lf_p_e, q_pt0 (show ¬ (4 : Int) = 0 from by decide), h6o, RC_k6 k17 k18 hk]
              exact Or.inl ⟨(4, (tx_a g n p : Int)), rfl, (show ¬ (4 : Int) = 0 from by decide), rfl, rfl⟩
            · have hm := q_aw hn hq (mp_a h7) (r := 12) (by rw [wl_q, if_pos k20, if_neg hk.2]) (by decide)
              rw [if_neg h6o, lf_p_e, lf_p_e, lf_p_e, lf_p_e, lo_add (by omega) (by omega) (by omega) (by omega) (by omega) (by omega), RC_k1 h7.1 k17 k18 hk h6o]
              generalize F_X10_qAsksWord (tx_a g n p : Int) (n : Int) xe (0 : Int) (-1 : Int) g v1 v2 v3 v4 v5 v6 v7 v8 v9 v10 v11 v12 v13 (12 : Int) = R at hm ⊢
              obtain ⟨r1, r2, r3, r4⟩ := R
              obtain ⟨m1, m2, m3⟩ := hm
              have m1' : r3 = 0 := m1
              have m2' : r4 = -1 := m2
              subst m1'
              subst m2'
              rw [lf_p_e, lf_p_e, lf_p_e]
              have hs : stT (60 :: P) = 60 :: stT P := rfl
              refine qTC_m (Nat.le_of_lt hlt) (ih (60 :: P) (o + 1) (tx_e g n p) _ _ _ ⟨⟨h1, Or.inr (Or.inr rfl)⟩, ?_, h3, by omega, ?_, h6', m3, rfl, rfl, rfl, rfl, pwl_push h12 60⟩ (by omega))
              · rw [hs, h2]
                show _ = o0 + (((stT P).length + 1 : Nat) : Int)
                omega
              · show (K.length : Int) + (d : Int) + (((P ++ B).length + 1 : Nat) : Int) ≤ _
                omega
          · rw [if_neg (show ¬ (wl g n ws_20 p = -1 ∧ ¬ wl g n ws_19 p = -1 ∧ al = 3707) from fun r => hk ⟨r.2.2, r.2.1⟩), if_pos rfl, RC_at h7.1 q' k17 k18 hk]
            exact qc_at hn hq ht hat hK f
end QPC
end
section
/-! 6d -/
/-- what qSums leaves, with what is coded -/
def qUC (g : Nat → Int) (n : Nat) (B : List Int) (o0 : Int) (d : Nat) (S : SL) (p : Nat) (R : Int × Int × Int × Int × Int × Int × Int × (Nat → Int) × (Nat → Int)) : Prop := (∃ q : Int × Int, S = .inl q ∧ ¬ q.1 = 0 ∧ R.2.2.1 = q.1 ∧ R.2.2.2.1 = q.2) ∨ (∃ p2 K2, S = .inr (p2, K2) ∧ p < p2 ∧ qSC g n B o0 d [] K2 o0 p2 R.1 R.2.1 R.2.2.1 R.2.2.2.1 R.2.2.2.2.1 R.2.2.2.2.2.1 R.2.2.2.2.2.2.1 R.2.2.2.2.2.2.2.1 R.2.2.2.2.2.2.2.2)
theorem qc_53 {w : Nat → Int} {B : List Int} {l xa xe xp o : Int} : ∀ (P : List Int) (f : Nat) (K : List Int) (cd : Nat → Int), pwl w (P ++ B) → P.length < f → pcl cd K → ∃ cd2, F_X10_qSums_53 (B.length : Int) f l xa xe (0 : Int) xp (K.length : Int) ((P ++ B).length : Int) o w cd = (xa, xe, (0 : Int), xp, ((K ++ P).length : Int), (B.length : Int), o, w, cd2) ∧ pcl cd2 (K ++ P) := by
  intro P
  induction P with
  | nil =>
    intro f K cd h hf hK
    obtain ⟨k, rfl⟩ : ∃ k, f = k + 1 := ⟨f - 1, by have : 0 < f := hf; omega⟩
    rw [List.append_nil]
    refine ⟨cd, ?_, hK⟩
    show F_X10_qSums_53b (B.length : Int) _ l xa xe (0 : Int) xp (K.length : Int) (B.length : Int) o w cd = _
    unfold F_X10_qSums_53b
    rw [if_pos rfl, if_pos (Int.le_refl _)]
  | cons x P ih =>
    intro f K cd h hf hK
    obtain ⟨k, rfl⟩ : ∃ k, f = k + 1 := ⟨f - 1, by have : 0 < f := Nat.lt_of_le_of_lt (Nat.zero_le _) hf; omega⟩
    obtain ⟨cd2, e, ek⟩ := ih k (K ++ [x]) (lf_up cd (K.length : Int) x) h.2 (by have : P.length + 1 < k + 1 := hf; omega) (pcl_app hK x)
    rw [len_1, List.append_assoc] at e
    rw [List.append_assoc] at ek
    have hl : (P ++ B).length = P.length + B.length := List.length_append
    have e1 : (((x :: P) ++ B).length : Int) = ((P ++ B).length : Int) + 1 := rfl
    refine ⟨cd2, ?_, ek⟩
    show F_X10_qSums_53b (B.length : Int) (F_X10_qSums_53 (B.length : Int) k) l xa xe (0 : Int) xp (K.length : Int) (((x :: P) ++ B).length : Int) o w cd = _
    unfold F_X10_qSums_53b
    rw [if_pos rfl, if_neg (by omega), show F_X10_qDrops (K.length : Int) (((x :: P) ++ B).length : Int) cd w = (((K.length : Int) + 1), ((P ++ B).length : Int), lf_up cd (K.length : Int) x) from qc_drop h, lf_p_e, lf_p_e]
    exact e
section QUC
variable {g : Nat → Int} {n : Nat} {al tk : Int} {B : List Int} {o0 : Int} {d : Nat} {vmin vmax v1 v2 v3 v4 v5 v6 v7 v8 v9 v10 v11 v12 v13 : Nat → Int}
theorem qc_sum (hn : n ≤ 1600) (hB : ¬ (1 ≤ B.headD 0 ∧ B.headD 0 ≤ 4)) (hq : qw v1 v2 v3 v4 v5 v6 v7 v8 v9 v10 v11 v12 v13) (hmin : wa vmin W_min) (hmax : wa vmax W_max) (ht : tkA tk al) : ∀ (f : Nat) (P K : List Int) (o : Int) (p : Nat) (xa xe : Int) (w cd : Nat → Int), qS g n B o0 d P o p xa xe (0 : Int) (-1 : Int) (K.length : Int) ((P ++ B).length : Int) o w → n - p + 1 < f → pcl cd K → qUC g n B o0 d (RC g n al true P K o p) p (F_X10_qSums_15 (n : Int) tk (B.length : Int) g vmin vmax v1 v2 v3 v4 v5 v6 v7 v8 v9 v10 v11 v12 v13 f (1 : Int) xa xe (0 : Int) (-1 : Int) (K.length : Int) ((P ++ B).length : Int) o w cd) := by
  intro f
  induction f with
  | zero => intro P K o p xa xe w cd h hf; omega
  | succ f ih =>
    intro P K o p xa xe w cd h hf hK
    obtain ⟨f, rfl⟩ : ∃ k, f = k + 1 := ⟨f - 1, by omega⟩
    show qUC g n B o0 d (RC g n al true P K o p) p (F_X10_qSums_15b (n : Int) tk (B.length : Int) g vmin vmax v1 v2 v3 v4 v5 v6 v7 v8 v9 v10 v11 v12 v13 (F_X10_qSums_15 (n : Int) tk (B.length : Int) g vmin vmax v1 v2 v3 v4 v5 v6 v7 v8 v9 v10 v11 v12 v13 (f + 1)) (1 : Int) xa xe (0 : Int) (-1 : Int) (K.length : Int) ((P ++ B).length : Int) o w cd)
    unfold F_X10_qSums_15b
    rw [if_neg (show ¬ (1 : Int) = 0 from by decide), if_pos rfl]
    have hpn := h.2.2.2.2.2.2.1.1
    have hpt : qTC g n al B o0 d (RC g n al true P K o p) p (F_X10_qPartTold xa (n : Int) xe (0 : Int) (-1 : Int) tk (K.length : Int) ((P ++ B).length : Int) o (B.length : Int) g vmin vmax v1 v2 v3 v4 v5 v6 v7 v8 v9 v10 v11 v12 v13 cd w) := qc_pt hn hq hmin hmax ht hK 3203 P o p xa xe w h (by omega)
    generalize F_X10_qPartTold xa (n : Int) xe (0 : Int) (-1 : Int) tk (K.length : Int) ((P ++ B).length : Int) o (B.length : Int) g vmin vmax v1 v2 v3 v4 v5 v6 v7 v8 v9 v10 v11 v12 v13 cd w = R at hpt ⊢
    obtain ⟨y1, y2, y3, y4, y5, y6, y7, y8, y9⟩ := R
    rw [lf_p_e, lf_p_e, lf_p_e, lf_p_e, lf_p_e, lf_p_e, lf_p_e, lf_p_e]
    rcases hpt with ⟨q, e, q1, q2, q3⟩ | ⟨P2, K2, o2, p2, e, hlt, h62, hs, hc2, hk2⟩
    · have q2' : y3 = q.1 := q2
      rw [if_neg (show ¬ y3 = 0 from fun r => q1 (q2'.symm.trans r)), q_s0 (show ¬ y3 = 0 from fun r => q1 (q2'.symm.trans r))]
      exact Or.inl ⟨q, e, q1, q2, q3⟩
    · have hs' : qS g n B o0 d P2 o2 p2 y1 y2 y3 y4 y5 y6 y7 y8 := hs
      obtain ⟨s1, s2, s3, s4, s5, s6, s7, s8, s9, s10, s11, s12⟩ := hs'
      subst s8
      subst s9
      subst s10
      subst s11
      have hc2' : y5 = (K2.length : Int) := hc2
      subst hc2'
      have hk2' : pcl y9 K2 := hk2
      have hp2 := s7.1
      rw [if_pos rfl, e]
      have hgo : qGC g n al B o0 d y2 (RC g n al false P2 K2 y7 p2) p2 (F_X10_qGoesOn y1 (n : Int) (0 : Int) (-1 : Int) (K2.length : Int) ((P2 ++ B).length : Int) y7 (B.length : Int) g y9 y8) := qc_goes hn hB 1602 P2 K2 y7 p2 y1 y9 ⟨s1, s2, s3, s4, s5, s6, s7, rfl, rfl, rfl, rfl, s12⟩ h62 (by omega) hk2'
      generalize F_X10_qGoesOn y1 (n : Int) (0 : Int) (-1 : Int) (K2.length : Int) ((P2 ++ B).length : Int) y7 (B.length : Int) g y9 y8 = R at hgo ⊢
      obtain ⟨z1, z2, z3, z4, z5, z6, z7, z8, z9⟩ := R
      rw [lf_p_e, lf_p_e, lf_p_e, lf_p_e, lf_p_e, lf_p_e, lf_p_e, lf_p_e]
      rcases hgo with ⟨r1, P3, K3, o3, p3, e3, hlt3, hs3, hc3, hk3⟩ | ⟨r1, q, e3, q1, q2, q3⟩ | ⟨r1, P3, K3, o3, p3, e3, hle3, hnil, hs3, hc3, hk3⟩
      · have r1' : z1 = 1 := r1
        have hs' : qS g n B o0 d P3 o3 p3 z2 y2 z3 z4 z5 z6 z7 z8 := hs3
        obtain ⟨t1, t2, t3, t4, t5, t6, t7, t8, t9, t10, t11, t12⟩ := hs'
        subst t8
        subst t9
        subst t10
        subst t11
        have hc3' : z5 = (K3.length : Int) := hc3
        subst hc3'
        rw [if_neg (show ¬ z1 = 0 from by omega), e3]
        rcases ih P3 K3 z7 p3 z2 y2 z8 z9 ⟨t1, t2, t3, t4, t5, t6, t7, rfl, rfl, rfl, rfl, t12⟩ (by omega) hk3 with r | ⟨p4, K4, a1, a2, a3⟩
        · exact Or.inl r
        · exact Or.inr ⟨p4, K4, a1, by omega, a3⟩
      · have r1' : z1 = 0 := r1
        have q2' : z3 = q.1 := q2
        rw [if_pos r1', q_s0 (show ¬ z3 = 0 from fun r => q1 (q2'.symm.trans r))]
        exact Or.inl ⟨q, e3, q1, q2, q3⟩
      · have r1' : z1 = 0 := r1
        have hs' : qS g n B o0 d P3 o3 p3 z2 y2 z3 z4 z5 z6 z7 z8 := hs3
        have hlen := q_len hn hs'
        obtain ⟨t1, t2, t3, t4, t5, t6, t7, t8, t9, t10, t11, t12⟩ := hs'
        subst t8
        subst t9
        subst t10
        subst t11
        have hl1 : (P3 ++ B).length = P3.length + B.length := List.length_append
        have ho : z7 = o0 := by
          rw [t2, hnil]
          show o0 + ((0 : Nat) : Int) = o0
          omega
        have hc3' : z5 = (K3.length : Int) := hc3
        subst hc3'
        obtain ⟨cd2, e5, e5k⟩ := qc_53 (B := B) (w := z8) (l := (0 : Int)) (xa := z2) (xe := y2) (xp := (-1 : Int)) (o := z7) P3 1625 K3 z9 t12 (by omega) hk3
        have hlk : (K3 ++ P3).length = K3.length + P3.length := List.length_append
        rw [if_pos r1']
        show qUC g n B o0 d _ p (F_X10_qSums_15b (n : Int) tk (B.length : Int) g vmin vmax v1 v2 v3 v4 v5 v6 v7 v8 v9 v10 v11 v12 v13 (F_X10_qSums_15 (n : Int) tk (B.length : Int) g vmin vmax v1 v2 v3 v4 v5 v6 v7 v8 v9 v10 v11 v12 v13 f) (0 : Int) z2 y2 (0 : Int) (-1 : Int) (K3.length : Int) ((P3 ++ B).length : Int) z7 z8 z9)
        unfold F_X10_qSums_15b
        rw [if_pos rfl, e5, e3]
        refine Or.inr ⟨p3, K3 ++ P3, rfl, by omega, ⟨True.intro, ?_, t3, ?_, ?_, ?_, t7, rfl, rfl, rfl, ho, pwl_tl t12⟩, rfl, e5k⟩
        · show o0 = o0 + ((0 : Nat) : Int)
          omega
        · omega
        · show ((K3 ++ P3).length : Int) + (d : Int) + (B.length : Int) ≤ (p3 : Int)
          omega
        · show 0 ≤ ((K3 ++ P3).length : Int)
          omega
/-- qSums codes as the machine does -/
theorem qc_sums (hn : n ≤ 1600) (hB : ¬ (1 ≤ B.headD 0 ∧ B.headD 0 ≤ 4)) (hq : qw v1 v2 v3 v4 v5 v6 v7 v8 v9 v10 v11 v12 v13) (hmin : wa vmin W_min) (hmax : wa vmax W_max) (ht : tkA tk al) {p : Nat} {xa xe : Int} {K : List Int} {w cd : Nat → Int} (h : qS g n B o0 d [] o0 p xa xe (0 : Int) (-1 : Int) (K.length : Int) (B.length : Int) o0 w) (hK : pcl cd K) : qUC g n B o0 d (RC g n al true [] K o0 p) p (F_X10_qSums xa (n : Int) xe (0 : Int) (-1 : Int) tk (K.length : Int) (B.length : Int) o0 g vmin vmax v1 v2 v3 v4 v5 v6 v7 v8 v9 v10 v11 v12 v13 cd w) := by
  have hpn := h.2.2.2.2.2.2.1.1
  exact qc_sum hn hB hq hmin hmax ht 3203 [] K o0 p xa xe w cd h (by omega) hK
end QUC
end
section
/-! 6e -/
section QFC
variable {g : Nat → Int} {n : Nat} {al tk : Int} {B : List Int} {o0 : Int} {d : Nat} {vall vmin vmax v1 v2 v3 v4 v5 v6 v7 v8 v9 v10 v11 v12 v13 : Nat → Int}
/-- a fact without square or not, with what is coded -/
theorem qc_fact (hn : n ≤ 1600) (hB : ¬ (1 ≤ B.headD 0 ∧ B.headD 0 ≤ 4)) (hq : qw v1 v2 v3 v4 v5 v6 v7 v8 v9 v10 v11 v12 v13) (hall : wa vall W_all) (hmin : wa vmin W_min) (hmax : wa vmax W_max) (ht : tkA tk al) {p : Nat} {xa xe : Int} {K : List Int} {w cd : Nat → Int} (h : qS g n B o0 d [] o0 p xa xe (0 : Int) (-1 : Int) (K.length : Int) (B.length : Int) o0 w) (hK : pcl cd K) : qUC g n B o0 d (fcC g n al K o0 p) p (F_X10_qFact xa (n : Int) xe (0 : Int) (-1 : Int) tk (K.length : Int) (B.length : Int) o0 g vall vmin vmax v1 v2 v3 v4 v5 v6 v7 v8 v9 v10 v11 v12 v13 cd w) := by
  obtain ⟨h1, h2, h3, h4, h5, h6', h7, h8, h9, h10, h11, h12⟩ := h
  have h5' : (K.length : Int) + (d : Int) + (B.length : Int) ≤ (p : Int) := h5
  unfold F_X10_qFact fcC
  rw [F_X10_takes_1 hn (W := W_all) rfl hall h7]
  cases ca : wh g n W_all p with
  | true =>
    have k16 : ¬ wl g n ws_16 p = -1 := by
      rw [show wl g n ws_16 p = 0 from (wl_1 W_all).trans (if_pos ca)]
      decide
    have hk := (wh_k ca).1
    have hlt : p < tx_e g n p := tx_e_gt' (by omega)
    rw [if_pos rfl, lf_p_e, lf_p_e, if_neg (show ¬ (1 : Int) = 0 from by decide), if_pos k16]
    unfold F_X10_qCode
    rw [lf_p_e]
    refine Or.inr ⟨tx_e g n p, K ++ [13], rfl, hlt, ⟨h1, h2, h3, h4, ?_, ?_, mp_tok h7.1 hk (Or.inl rfl), rfl, rfl, rfl, rfl, h12⟩, (len_1 K 13).symm, pcl_app hK 13⟩
    · show (K.length : Int) + 1 + (d : Int) + (B.length : Int) ≤ _
      omega
    · show 0 ≤ (K.length : Int) + 1
      omega
  | false =>
    have k16 : wl g n ws_16 p = -1 := (wl_1 W_all).trans (if_neg (fun r => Bool.noConfusion (ca.symm.trans r)))
    rw [if_neg (show ¬ false = true from fun r => Bool.noConfusion r), lf_p_e, lf_p_e, if_pos rfl, if_neg (show ¬ ¬ wl g n ws_16 p = -1 from fun r => r k16)]
    have hs1 := qc_sums hn hB hq hmin hmax ht (cd := cd) (show qS g n B o0 d [] o0 p (tx_a g n p : Int) xe (0 : Int) (-1 : Int) (K.length : Int) (B.length : Int) o0 w from ⟨h1, h2, h3, h4, h5, h6', mp_a h7, rfl, rfl, rfl, rfl, h12⟩) hK
    generalize F_X10_qSums (tx_a g n p : Int) (n : Int) xe (0 : Int) (-1 : Int) tk (K.length : Int) (B.length : Int) o0 g vmin vmax v1 v2 v3 v4 v5 v6 v7 v8 v9 v10 v11 v12 v13 cd w = R at hs1 ⊢
    obtain ⟨y1, y2, y3, y4, y5, y6, y7, y8, y9⟩ := R
    rw [lf_p_e, lf_p_e, lf_p_e, lf_p_e, lf_p_e, lf_p_e, lf_p_e, lf_p_e]
    rcases hs1 with ⟨q, e, q1, q2, q3⟩ | ⟨p1, K1, e, hlt, hs, hc1, hk1⟩
    · have q2' : y3 = q.1 := q2
      rw [if_neg (show ¬ y3 = 0 from fun r => q1 (q2'.symm.trans r)), e]
      exact Or.inl ⟨q, rfl, q1, q2, q3⟩
    · have hs' : qS g n B o0 d [] o0 p1 y1 y2 y3 y4 y5 y6 y7 y8 := hs
      obtain ⟨s1, s2, s3, s4, s5, s6, s7, s8, s9, s10, s11, s12⟩ := hs'
      subst s8
      subst s9
      subst s10
      subst s11
      have hc1' : y5 = (K1.length : Int) := hc1
      subst hc1'
      have hk1' : pcl y9 K1 := hk1
      have s5' : (K1.length : Int) + (d : Int) + (B.length : Int) ≤ (p1 : Int) := s5
      rw [if_pos rfl, ml_look hn s7, lf_p_e, e]
      have two : ∀ k : Int, tx_k g n p1 = 3 → qUC g n B y7 d (bL (RC g n al true [] K1 y7 (tx_e g n p1)) (fun q K2 => .inr (q, K2 ++ [k]))) p (lf_p (F_X10_qSums ((tx_a g n p1 : Int) + (1 : Int)) (n : Int) y2 (0 : Int) (-1 : Int) tk (K1.length : Int) (B.length : Int) y7 g vmin vmax v1 v2 v3 v4 v5 v6 v7 v8 v9 v10 v11 v12 v13 y9 y8) (fun v83 t_v84 => (lf_p t_v84 (fun v84 t_v85 => (lf_p t_v85 (fun v85 t_v86 => (lf_p t_v86 (fun v86 t_v87 => (lf_p t_v87 (fun v87 t_v88 => (lf_p t_v88 (fun v88 t_v89 => (lf_p t_v89 (fun v89 t_f90 => (lf_p t_f90 (fun f90 f91 => (lf_p (F_X10_qCode v87 f91 k) (fun v113 f114 => (v83, v84, v85, v86, v113, v88, v89, f90, f114))))))))))))))))))) := by
        intro k hk
        have hlt2 : p1 < tx_e g n p1 := tx_e_gt' (by omega)
        have hs2 := qc_sums (d := d + 1) hn hB hq hmin hmax ht (cd := y9) (show qS g n B y7 (d + 1) [] y7 (tx_e g n p1) ((tx_a g n p1 : Int) + 1) y2 (0 : Int) (-1 : Int) (K1.length : Int) (B.length : Int) y7 y8 from ⟨h1, s2, s3, s4, (by show (K1.length : Int) + ((d + 1 : Nat) : Int) + (B.length : Int) ≤ _; omega), s6, mp_sgn s7 hk, rfl, rfl, rfl, rfl, s12⟩) hk1'
        generalize F_X10_qSums ((tx_a g n p1 : Int) + (1 : Int)) (n : Int) y2 (0 : Int) (-1 : Int) tk (K1.length : Int) (B.length : Int) y7 g vmin vmax v1 v2 v3 v4 v5 v6 v7 v8 v9 v10 v11 v12 v13 y9 y8 = R at hs2 ⊢
        obtain ⟨z1, z2, z3, z4, z5, z6, z7, z8, z9⟩ := R
        rw [lf_p_e, lf_p_e, lf_p_e, lf_p_e, lf_p_e, lf_p_e, lf_p_e, lf_p_e]
        unfold F_X10_qCode
        rw [lf_p_e]
        rcases hs2 with ⟨q, e2, r⟩ | ⟨p2, K2, e2, hlt3, hs3, hc2, hk2⟩
        · rw [e2]
          exact Or.inl ⟨q, rfl, r⟩
        · have hs' : qS g n B y7 (d + 1) [] y7 p2 z1 z2 z3 z4 z5 z6 z7 z8 := hs3
          obtain ⟨t1, t2, t3, t4, t5, t6, t7, t8, t9, t10, t11, t12⟩ := hs'
          have hc2' : z5 = (K2.length : Int) := hc2
          subst hc2'
          have hk2' : pcl z9 K2 := hk2
          have t5' : (K2.length : Int) + ((d + 1 : Nat) : Int) + (B.length : Int) ≤ (p2 : Int) := t5
          rw [e2]
          refine Or.inr ⟨p2, K2 ++ [k], rfl, by omega, ⟨t1, t2, t3, t4, ?_, ?_, t7, t8, t9, t10, t11, t12⟩, (len_1 K2 k).symm, pcl_app hk2' k⟩
          · show (K2.length : Int) + 1 + (d : Int) + (B.length : Int) ≤ _
            omega
          · show 0 ≤ (K2.length : Int) + 1
            omega
      have go : ∀ (v k : Int) (s : ST), sp_sg g n p1 = (v, s) → -19 - v = k → bL (.inr (p1, K1) : SL) (fun p1 K1 => ndL (sp_sg g n p1).2 (fun p2 => bL (RC g n al true [] K1 y7 p2) (fun q K2 => .inr (q, K2 ++ [-19 - (sp_sg g n p1).1])))) = ndL s (fun p2 => bL (RC g n al true [] K1 y7 p2) (fun q K2 => .inr (q, K2 ++ [k]))) := by
        intro v k s e1 e2
        have h9 : ∀ z : Int × ST, z = (v, s) → ndL z.2 (fun p2 => bL (RC g n al true [] K1 y7 p2) (fun q K2 => .inr (q, K2 ++ [-19 - z.1]))) = ndL s (fun p2 => bL (RC g n al true [] K1 y7 p2) (fun q K2 => .inr (q, K2 ++ [k]))) := by
          intro z hz
          subst hz
          subst e2
          rfl
        exact h9 _ e1
      by_cases c1 : lk g n p1 = 60
      · have c1' := (lk_sgn (by omega)).mp c1
        rw [if_pos c1, go (-26) 7 (.inr (tx_e g n p1)) (if_pos c1') (by decide)]
        exact two 7 c1'.1
      · have c1' : ¬ (tx_k g n p1 = 3 ∧ g (tx_a g n p1) = 60) := fun r => c1 ((lk_sgn (by omega)).mpr r)
        rw [if_neg c1]
        by_cases c2 : lk g n p1 = 62
        · have c2' := (lk_sgn (by omega)).mp c2
          rw [if_pos c2, go (-27) 8 (.inr (tx_e g n p1)) ((if_neg c1').trans (if_pos c2')) (by decide)]
          exact two 8 c2'.1
        · have c2' : ¬ (tx_k g n p1 = 3 ∧ g (tx_a g n p1) = 62) := fun r => c2 ((lk_sgn (by omega)).mpr r)
          rw [if_neg c2]
          by_cases c3 : lk g n p1 = 61
          · have c3' := (lk_sgn (by omega)).mp c3
            rw [if_pos c3, go (-28) 9 (.inr (tx_e g n p1)) ((if_neg c1').trans ((if_neg c2').trans (if_pos c3'))) (by decide)]
            exact two 9 c3'.1
          · have c3' : ¬ (tx_k g n p1 = 3 ∧ g (tx_a g n p1) = 61) := fun r => c3 ((lk_sgn (by omega)).mpr r)
            rw [if_neg c3, go (-28) 9 (.inl (1, (tx_a g n p1 : Int))) ((if_neg c1').trans ((if_neg c2').trans (if_neg c3'))) (by decide)]
            exact Or.inl ⟨(1, (tx_a g n p1 : Int)), rfl, (show ¬ (1 : Int) = 0 from by decide), rfl, rfl⟩
end QFC
theorem dN_len : ∀ (P K : List Int) (o : Int), (dN P K o).2.1.length + (dN P K o).1.length = K.length + P.length
  | [], _, _ => rfl
  | x :: P, K, o => by
    show (if x = 12 then dN P (K ++ [x]) (o - 1) else (x :: P, K, o)).2.1.length + (if x = 12 then dN P (K ++ [x]) (o - 1) else (x :: P, K, o)).1.length = K.length + (P.length + 1)
    by_cases q : x = 12
    · rw [if_pos q, dN_len P (K ++ [x]) (o - 1), List.length_append]
      show K.length + 1 + P.length = _
      omega
    · rw [if_neg q]
      rfl
theorem dA_len {hi : Int} : ∀ (P K : List Int), (dA hi P K).2.length + (dA hi P K).1.length = K.length + P.length
  | [], _ => rfl
  | x :: P, K => by
    show (if 10 ≤ x ∧ x ≤ hi then dA hi P (K ++ [x]) else (x :: P, K)).2.length + (if 10 ≤ x ∧ x ≤ hi then dA hi P (K ++ [x]) else (x :: P, K)).1.length = K.length + (P.length + 1)
    by_cases q : 10 ≤ x ∧ x ≤ hi
    · rw [if_pos q, dA_len P (K ++ [x]), List.length_append]
      show K.length + 1 + P.length = _
      omega
    · rw [if_neg q]
      rfl
theorem qc_nt {w : Nat → Int} : ∀ (P : List Int) (f : Nat) (K : List Int) (o : Int) (cd : Nat → Int), pwl w P → P.length < f → -2000 ≤ o - (P.length : Int) → o ≤ 2000 → pcl cd K → ∃ cd2, F_X10_qDropsNots_0 (0 : Int) w f (K.length : Int) (P.length : Int) o cd = (((dN P K o).2.1.length : Int), ((ntD P o).1.length : Int), (ntD P o).2, cd2) ∧ pcl cd2 (dN P K o).2.1 := by
  intro P
  induction P with
  | nil =>
    intro f K o cd h hf h1 h2 hK
    obtain ⟨k, rfl⟩ : ∃ k, f = k + 1 := ⟨f - 1, by have : 0 < f := hf; omega⟩
    refine ⟨cd, ?_, hK⟩
    have e : F_X10_qIsOn_a0_12 (([] : List Int).length : Int) w = if ([] : List Int).headD 0 = 12 then 1 else 0 := g_on h 12 (by decide)
    rw [if_neg (show ¬ (([] : List Int).headD 0 : Int) = 12 from by decide)] at e
    show F_X10_qDropsNots_0b (0 : Int) w _ (K.length : Int) (([] : List Int).length : Int) o cd = _
    unfold F_X10_qDropsNots_0b
    rw [if_pos rfl, lf_b_e, e, if_pos rfl]
    rfl
  | cons x P ih =>
    intro f K o cd h hf h1 h2 hK
    obtain ⟨k, rfl⟩ : ∃ k, f = k + 1 := ⟨f - 1, by have : 0 < f := Nat.lt_of_le_of_lt (Nat.zero_le _) hf; omega⟩
    have h1' : -2000 ≤ o - ((P.length + 1 : Nat) : Int) := h1
    have e : F_X10_qIsOn_a0_12 ((x :: P).length : Int) w = if x = 12 then 1 else 0 := g_on h 12 (by decide)
    obtain ⟨cd2, e3, e4⟩ := ih k (K ++ [x]) (o - 1) (lf_up cd (K.length : Int) x) h.2 (by have : P.length + 1 < k + 1 := hf; omega) (by omega) (by omega) (pcl_app hK x)
    rw [len_1] at e3
    have ex : dN (x :: P) K o = if x = 12 then dN P (K ++ [x]) (o - 1) else (x :: P, K, o) := rfl
    have en : ntD (x :: P) o = if x = 12 then ntD P (o - 1) else (x :: P, o) := rfl
    rw [ex, en]
    show ∃ cd2, F_X10_qDropsNots_0b (0 : Int) w (F_X10_qDropsNots_0 (0 : Int) w k) (K.length : Int) ((x :: P).length : Int) o cd = _ ∧ _
    unfold F_X10_qDropsNots_0b
    rw [if_pos rfl, lf_b_e, e]
    by_cases q : x = 12
    · rw [if_pos q, if_pos q, if_pos q, if_neg (show ¬ (1 : Int) = 0 from by decide), qc_drop h, lf_p_e, lf_p_e, lo_sub (by omega) (by omega) (by omega) (by omega) (by omega) (by omega)]
      exact ⟨cd2, e3, e4⟩
    · rw [if_neg q, if_neg q, if_neg q, if_pos rfl]
      exact ⟨cd, rfl, hK⟩
theorem qc_nots {w cd : Nat → Int} {P K : List Int} {o : Int} (h : pwl w P) (hl : P.length ≤ 1700) (h1 : 0 ≤ o) (h2 : o ≤ 6) (hK : pcl cd K) : ∃ cd2, F_X10_qDropsNots (0 : Int) (K.length : Int) (P.length : Int) o cd w = (((dN P K o).2.1.length : Int), ((ntD P o).1.length : Int), (ntD P o).2, cd2) ∧ pcl cd2 (dN P K o).2.1 := qc_nt P 1702 K o cd h (by omega) (by omega) (by omega) hK
end
section
/-! 6f -/
/-! tests, with what is coded -/
theorem qc_87 {w : Nat → Int} {xb xp v e o : Int} : ∀ (P : List Int) (f : Nat) (K : List Int) (cd : Nat → Int), pwl w P → P.length < f → pcl cd K → ∃ cd2, F_X10_qGoesOnTest_87 xb xp w f v e (K.length : Int) (P.length : Int) o cd = ((1 : Int), v, e, xb, xp, ((dA 10 P K).2.length : Int), ((opQ 10 P).length : Int) + 1, o, lf_up w ((opQ 10 P).length : Int) (10 : Int), cd2) ∧ pcl cd2 (dA 10 P K).2 := by
  intro P
  induction P with
  | nil =>
    intro f K cd h hf hK
    obtain ⟨k, rfl⟩ : ∃ k, f = k + 1 := ⟨f - 1, by have : 0 < f := hf; omega⟩
    have e1 : F_X10_qIsOn_a0_10 (([] : List Int).length : Int) w = if ([] : List Int).headD 0 = 10 then 1 else 0 := g_on h 10 (by decide)
    rw [if_neg (show ¬ (([] : List Int).headD 0 : Int) = 10 from by decide)] at e1
    refine ⟨cd, ?_, hK⟩
    show F_X10_qGoesOnTest_87b xb xp w _ v e (K.length : Int) (([] : List Int).length : Int) o cd = _
    unfold F_X10_qGoesOnTest_87b
    rw [lf_b_e, e1, if_pos rfl]
    rfl
  | cons x P ih =>
    intro f K cd h hf hK
    obtain ⟨k, rfl⟩ : ∃ k, f = k + 1 := ⟨f - 1, by have : 0 < f := Nat.lt_of_le_of_lt (Nat.zero_le _) hf; omega⟩
    have e1 : F_X10_qIsOn_a0_10 ((x :: P).length : Int) w = if x = 10 then 1 else 0 := g_on h 10 (by decide)
    have ed : F_X10_qDrops (K.length : Int) ((x :: P).length : Int) cd w = (((K.length : Int) + 1), (P.length : Int), lf_up cd (K.length : Int) x) := qc_drop h
    obtain ⟨cd2, i1, i2⟩ := ih k (K ++ [x]) (lf_up cd (K.length : Int) x) h.2 (by have : P.length + 1 < k + 1 := hf; omega) (pcl_app hK x)
    rw [len_1] at i1
    show ∃ cd2, F_X10_qGoesOnTest_87b xb xp w (F_X10_qGoesOnTest_87 xb xp w k) v e (K.length : Int) ((x :: P).length : Int) o cd = _ ∧ _
    unfold F_X10_qGoesOnTest_87b
    rw [lf_b_e, e1]
    by_cases c3 : x = 10
    · rw [if_pos c3, if_neg (show ¬ (1 : Int) = 0 from by decide), ed, lf_p_e, lf_p_e, show opQ 10 (x :: P) = opQ 10 P from if_pos (by omega), show dA 10 (x :: P) K = dA 10 P (K ++ [x]) from if_pos (by omega)]
      exact ⟨cd2, i1, i2⟩
    · rw [if_neg c3, if_pos rfl, show opQ 10 (x :: P) = x :: P from if_neg (by omega), show dA 10 (x :: P) K = (x :: P, K) from if_neg (by omega)]
      exact ⟨cd, rfl, hK⟩
theorem qc_137 {w : Nat → Int} {xb xp v e o : Int} : ∀ (P : List Int) (f : Nat) (K : List Int) (cd : Nat → Int), pwl w P → P.length < f → pcl cd K → ∃ cd2, F_X10_qGoesOnTest_137 xb xp w f v e (K.length : Int) (P.length : Int) o cd = ((1 : Int), v, e, xb, xp, ((dA 11 P K).2.length : Int), ((opQ 11 P).length : Int) + 1, o, lf_up w ((opQ 11 P).length : Int) (11 : Int), cd2) ∧ pcl cd2 (dA 11 P K).2 := by
  intro P
  induction P with
  | nil =>
    intro f K cd h hf hK
    obtain ⟨k, rfl⟩ : ∃ k, f = k + 1 := ⟨f - 1, by have : 0 < f := hf; omega⟩
    have e1 : F_X10_qIsOn_a0_10 (([] : List Int).length : Int) w = if ([] : List Int).headD 0 = 10 then 1 else 0 := g_on h 10 (by decide)
    rw [if_neg (show ¬ (([] : List Int).headD 0 : Int) = 10 from by decide)] at e1
    have e2 : F_X10_qIsOn_a0_11 (([] : List Int).length : Int) w = if ([] : List Int).headD 0 = 11 then 1 else 0 := g_on h 11 (by decide)
    rw [if_neg (show ¬ (([] : List Int).headD 0 : Int) = 11 from by decide)] at e2
    refine ⟨cd, ?_, hK⟩
    show F_X10_qGoesOnTest_137b xb xp w _ v e (K.length : Int) (([] : List Int).length : Int) o cd = _
    unfold F_X10_qGoesOnTest_137b
    rw [lf_b_e, e1, if_pos rfl, lf_b_e, e2, if_pos rfl]
    rfl
  | cons x P ih =>
    intro f K cd h hf hK
    obtain ⟨k, rfl⟩ : ∃ k, f = k + 1 := ⟨f - 1, by have : 0 < f := Nat.lt_of_le_of_lt (Nat.zero_le _) hf; omega⟩
    have e1 : F_X10_qIsOn_a0_10 ((x :: P).length : Int) w = if x = 10 then 1 else 0 := g_on h 10 (by decide)
    have e2 : F_X10_qIsOn_a0_11 ((x :: P).length : Int) w = if x = 11 then 1 else 0 := g_on h 11 (by decide)
    have ed : F_X10_qDrops (K.length : Int) ((x :: P).length : Int) cd w = (((K.length : Int) + 1), (P.length : Int), lf_up cd (K.length : Int) x) := qc_drop h
    obtain ⟨cd2, i1, i2⟩ := ih k (K ++ [x]) (lf_up cd (K.length : Int) x) h.2 (by have : P.length + 1 < k + 1 := hf; omega) (pcl_app hK x)
    rw [len_1] at i1
    show ∃ cd2, F_X10_qGoesOnTest_137b xb xp w (F_X10_qGoesOnTest_137 xb xp w k) v e (K.length : Int) ((x :: P).length : Int) o cd = _ ∧ _
    unfold F_X10_qGoesOnTest_137b
    rw [lf_b_e, e1]
    by_cases c3 : x = 10
    · rw [if_pos c3, if_neg (show ¬ (1 : Int) = 0 from by decide), ed, lf_p_e, lf_p_e, show opQ 11 (x :: P) = opQ 11 P from if_pos (by omega), show dA 11 (x :: P) K = dA 11 P (K ++ [x]) from if_pos (by omega)]
      exact ⟨cd2, i1, i2⟩
    · rw [if_neg c3, if_pos rfl, lf_b_e, e2]
      by_cases c4 : x = 11
      · rw [if_pos c4, if_neg (show ¬ (1 : Int) = 0 from by decide), ed, lf_p_e, lf_p_e, show opQ 11 (x :: P) = opQ 11 P from if_pos (by omega), show dA 11 (x :: P) K = dA 11 P (K ++ [x]) from if_pos (by omega)]
        exact ⟨cd2, i1, i2⟩
      · rw [if_neg c4, if_pos rfl, show opQ 11 (x :: P) = x :: P from if_neg (by omega), show dA 11 (x :: P) K = (x :: P, K) from if_neg (by omega)]
        exact ⟨cd, rfl, hK⟩
theorem qc_33 {w : Nat → Int} {v o : Int} {K0 : Int → Int → Int → Int → (Nat → Int) → Int × Int × Int × Int × Int × Int × Int × Int × (Nat → Int) × (Nat → Int)} : ∀ (P : List Int) (f : Nat) (K : List Int) (cd : Nat → Int), pwl w P → tMem P = true → P.length < f → pcl cd K → ∃ cd2, F_X10_qGoesOnTest_33 (0 : Int) w o K0 f v (K.length : Int) (P.length : Int) cd = (lf_p (F_X10_qDropsNots (0 : Int) ((dS P K).2.length : Int) ((tPop P).length : Int) (lf_o lf_isub o (1 : Int)) cd2 w) (fun v131 t_v132 => (lf_p t_v132 (fun v132 t_v133 => (lf_p t_v133 (fun v133 f134 => (K0 v v131 v132 v133 f134))))))) ∧ pcl cd2 (dS P K).2 ∧ (dS P K).2.length + (tPop P).length + 1 = K.length + P.length := by
  intro P
  induction P with
  | nil => intro f K cd h ht; exact absurd ht (fun r => Bool.noConfusion r)
  | cons x P ih =>
    intro f K cd h ht hf hK
    obtain ⟨k, rfl⟩ : ∃ k, f = k + 1 := ⟨f - 1, by have : 0 < f := Nat.lt_of_le_of_lt (Nat.zero_le _) hf; omega⟩
    have e1 : F_X10_qIsOn_a0_25 ((x :: P).length : Int) w = if x = 25 then 1 else 0 := g_on h 25 (by decide)
    have ed : F_X10_qDrops (K.length : Int) ((x :: P).length : Int) cd w = (((K.length : Int) + 1), (P.length : Int), lf_up cd (K.length : Int) x) := qc_drop h
    have em : (((x :: P).length : Nat) : Int) - 1 = (P.length : Int) := by
      show ((P.length + 1 : Nat) : Int) - 1 = _
      omega
    have ep : tPop (x :: P) = if x = 25 then P else tPop P := rfl
    have es : dS (x :: P) K = if x = 25 then (P, K) else dS P (K ++ [x]) := rfl
    show ∃ cd2, F_X10_qGoesOnTest_33b (0 : Int) w o K0 (F_X10_qGoesOnTest_33 (0 : Int) w o K0 k) v (K.length : Int) ((x :: P).length : Int) cd = _ ∧ _
    unfold F_X10_qGoesOnTest_33b
    rw [lf_b_e, e1, ep, es]
    by_cases q : x = 25
    · rw [if_pos q, if_pos q, if_pos q, if_neg (show ¬ (1 : Int) = 0 from by decide), em]
      exact ⟨cd, rfl, hK, rfl⟩
    · have ht' : tMem P = true := by
        rw [tMem_c, decide_eq_false q, Bool.false_or] at ht
        exact ht
      obtain ⟨cd2, i1, i2, i3⟩ := ih k (K ++ [x]) (lf_up cd (K.length : Int) x) h.2 ht' (by have : P.length + 1 < k + 1 := hf; omega) (pcl_app hK x)
      rw [len_1] at i1
      rw [List.length_append] at i3
      have i3' : (dS P (K ++ [x])).2.length + (tPop P).length + 1 = K.length + 1 + P.length := i3
      rw [if_neg q, if_neg q, if_neg q, if_pos rfl, ed, lf_p_e, lf_p_e]
      refine ⟨cd2, i1, i2, ?_⟩
      show _ = K.length + (P.length + 1)
      omega
def qVC (g : Nat → Int) (n : Nat) (d : Nat) (P K : List Int) (o : Int) (p : Nat) (xa xe xb xp c m oo : Int) (w cd : Nat → Int) : Prop := qV g n d P o p xa xe xb xp c m oo w ∧ c = (K.length : Int) ∧ pcl cd K
def qHC (g : Nat → Int) (n : Nat) (al : Int) (d : Nat) (S : SL) (p : Nat) (R : Int × Int × Int × Int × Int × Int × Int × Int × (Nat → Int) × (Nat → Int)) : Prop := (R.1 = 1 ∧ ∃ P2 K2 o2 p2, S = TC g n al true P2 K2 o2 p2 ∧ p < p2 ∧ qVC g n d P2 K2 o2 p2 R.2.1 R.2.2.1 R.2.2.2.1 R.2.2.2.2.1 R.2.2.2.2.2.1 R.2.2.2.2.2.2.1 R.2.2.2.2.2.2.2.1 R.2.2.2.2.2.2.2.2.1 R.2.2.2.2.2.2.2.2.2) ∨ (R.1 = 0 ∧ ∃ q : Int × Int, S = .inl q ∧ ¬ q.1 = 0 ∧ R.2.2.2.1 = q.1 ∧ R.2.2.2.2.1 = q.2) ∨ (R.1 = 0 ∧ ∃ P2 K2 o2 p2, S = .inr (p2, K2 ++ P2) ∧ p ≤ p2 ∧ stQ P2 = [] ∧ qVC g n d P2 K2 o2 p2 R.2.1 R.2.2.1 R.2.2.2.1 R.2.2.2.2.1 R.2.2.2.2.2.1 R.2.2.2.2.2.2.1 R.2.2.2.2.2.2.2.1 R.2.2.2.2.2.2.2.2.1 R.2.2.2.2.2.2.2.2.2)
theorem qHC_m {g : Nat → Int} {n : Nat} {al : Int} {d : Nat} {S : SL} {p p1 : Nat} {R : Int × Int × Int × Int × Int × Int × Int × Int × (Nat → Int) × (Nat → Int)} (h : p ≤ p1) (hq : qHC g n al d S p1 R) : qHC g n al d S p R := by
  rcases hq with ⟨a, P2, K2, o2, p2, b, c, z⟩ | r | ⟨a, P2, K2, o2, p2, b, c, z⟩
  · exact Or.inl ⟨a, P2, K2, o2, p2, b, by omega, z⟩
  · exact Or.inr (Or.inl r)
  · exact Or.inr (Or.inr ⟨a, P2, K2, o2, p2, b, by omega, z⟩)
section QHC
variable {g : Nat → Int} {n : Nat} {al : Int} {d : Nat} {P K : List Int} {o : Int} {p : Nat} {xa xe : Int} {w : Nat → Int} {vand vor : Nat → Int}
theorem qc_jn {hi l : Int} (hlo : hi ≤ 11) (hl : l = 10 ∨ l = 11) (h : qV g n d P o p xa xe (0 : Int) (-1 : Int) (K.length : Int) (P.length : Int) o w) (h2P : n2 P) (hj : jnW g n p) (hS : TC g n al false P K o p = TC g n al true (l :: (dA hi P K).1) (dA hi P K).2 o (tx_e g n p)) {R : Int × Int × Int × Int × Int × Int × Int × Int × (Nat → Int) × (Nat → Int)} (hR : ∃ cd2, R = ((1 : Int), (tx_e g n p : Int), (tx_e g n p : Int), (0 : Int), (-1 : Int), ((dA hi P K).2.length : Int), ((opQ hi P).length : Int) + 1, o, lf_up w ((opQ hi P).length : Int) l, cd2) ∧ pcl cd2 (dA hi P K).2) (hle : (opQ hi P).length ≤ P.length) : qHC g n al d (TC g n al false P K o p) p R := by
  obtain ⟨cd2, e, ek⟩ := hR
  have e2 := dA_len (hi := hi) P K
  rw [dA_1] at e2
  obtain ⟨h1, h2, h4, h5, h6', h7, h8, h9, h10, h11, h12⟩ := h
  have hk := jn_k hj
  have hlt : p < tx_e g n p := tx_e_gt' (by omega)
  obtain ⟨a1, a2, a3⟩ := opQ_ok hlo h1 h2P
  have hlO : isO l = true := isO_i.mpr (by omega)
  have hs : stQ (l :: opQ hi P) = stQ P := (stQ_o hlO).trans a3
  refine Or.inl ?_
  rw [e]
  refine ⟨rfl, l :: opQ hi P, (dA hi P K).2, o, tx_e g n p, ?_, hlt, ⟨⟨a1, Or.inl ⟨hlO, a2⟩⟩, ?_, h4, ?_, ?_, mp_tok h7.1 hk (Or.inl rfl), rfl, rfl, rfl, rfl, pwl_push (opQ_p P h12) l⟩, rfl, ek⟩
  · rw [hS, dA_1]
  · rw [hs]
    exact h2
  · show ((dA hi P K).2.length : Int) + (d : Int) + (((opQ hi P).length + 1 : Nat) : Int) ≤ _
    omega
  · show 0 ≤ ((dA hi P K).2.length : Int)
    omega
theorem qc_gt (hn : n ≤ 1600) (hand : wa vand W_and) (hor : wa vor W_or) (h : qV g n d P o p xa xe (0 : Int) (-1 : Int) (K.length : Int) (P.length : Int) o w) (h2P : n2 P) (hc : ¬ ((tx_k g n p = 3 ∧ g (tx_a g n p) = 93) ∧ tMem P = true)) {cd : Nat → Int} (hK : pcl cd K) : qHC g n al d (TC g n al false P K o p) p (gGt (n : Int) xe (0 : Int) (-1 : Int) g vand vor w (K.length : Int) (P.length : Int) o cd (tx_a g n p : Int)) := by
  have h0 := h
  obtain ⟨h1, h2, h4, h5, h6', h7, h8, h9, h10, h11, h12⟩ := h
  have hpn := h7.1
  have hlen : P.length ≤ 1600 := by omega
  have hhs : F_X10_qHasSquare (P.length : Int) w = b2 (tMem P) := q_has h12 (by omega)
  unfold gGt
  rw [F_X10_takes_1 hn (W := W_and) rfl hand (mp_a h7)]
  cases ca : wh g n W_and p with
  | true =>
    have k14 : ¬ wl g n ws_14 p = -1 := by
      rw [show wl g n ws_14 p = 0 from (wl_1 W_and).trans (if_pos ca)]
      decide
    rw [if_pos rfl, lf_p_e, lf_p_e, if_neg (show ¬ (1 : Int) = 0 from by decide)]
    exact qc_jn (hi := 10) (l := 10) (by decide) (Or.inl rfl) h0 h2P (Or.inl k14) (TC_an hpn k14) (qc_87 P 1623 K cd h12 (by omega) hK) (opQ_len P)
  | false =>
    have k14 : wl g n ws_14 p = -1 := (wl_1 W_and).trans (if_neg (fun r => Bool.noConfusion (ca.symm.trans r)))
    rw [if_neg (show ¬ false = true from fun r => Bool.noConfusion r), lf_p_e, lf_p_e, if_pos rfl, F_X10_takes_r2_1 hn (W := W_or) rfl hor (mp_a h7)]
    cases co : wh g n W_or p with
    | true =>
      have k13 : ¬ wl g n ws_13 p = -1 := by
        rw [show wl g n ws_13 p = 0 from (wl_1 W_or).trans (if_pos co)]
        decide
      rw [if_pos rfl, lf_p_e, lf_p_e, if_neg (show ¬ (1 : Int) = 0 from by decide)]
      exact qc_jn (hi := 11) (l := 11) (by decide) (Or.inr rfl) h0 h2P (Or.inr k13) (TC_or hpn k14 k13) (qc_137 P 1623 K cd h12 (by omega) hK) (opQ_len P)
    | false =>
      have k13 : wl g n ws_13 p = -1 := (wl_1 W_or).trans (if_neg (fun r => Bool.noConfusion (co.symm.trans r)))
      have hj : ¬ jnW g n p := fun r => r.elim (fun r => r k14) (fun r => r k13)
      rw [if_neg (show ¬ false = true from fun r => Bool.noConfusion r), lf_p_e, lf_p_e, if_pos rfl, lf_b_e, hhs]
      rcases ok_sq h1 h2P with r | ⟨r1, r2, r3⟩
      · rw [r.1, if_pos (show b2 false = 0 from rfl), TC_nd hj r.1]
        exact Or.inr (Or.inr ⟨rfl, P, K, o, p, rfl, Nat.le_refl _, r.2, ⟨h1, h2, h4, h5, h6', mp_a h7, rfl, rfl, rfl, rfl, h12⟩, rfl, hK⟩)
      · have hcl : ¬ (tx_k g n p = 3 ∧ g (tx_a g n p) = 93) := fun s => hc ⟨s, r1⟩
        rw [r1, if_neg (show ¬ b2 true = 0 from by decide), TC_bd hcl hj r1]
        exact Or.inr (Or.inl ⟨rfl, (1, (tx_a g n p : Int)), rfl, (show ¬ (1 : Int) = 0 from by decide), rfl, rfl⟩)
end QHC
theorem qc_goest {g : Nat → Int} {n : Nat} {al : Int} {d : Nat} {xe : Int} {w vand vor : Nat → Int} (hn : n ≤ 1600) (hand : wa vand W_and) (hor : wa vor W_or) : ∀ (f : Nat) (P K : List Int) (o : Int) (p : Nat) (xa : Int) (cd : Nat → Int), qV g n d P o p xa xe (0 : Int) (-1 : Int) (K.length : Int) (P.length : Int) o w → n2 P → n - p < f → pcl cd K → qHC g n al d (TC g n al false P K o p) p (F_X10_qGoesOnTest_0 (n : Int) xe (0 : Int) (-1 : Int) g vand vor w f xa (K.length : Int) (P.length : Int) o cd) := by
  intro f
  induction f with
  | zero => intro P K o p xa cd h h2P hf; omega
  | succ f ih =>
    intro P K o p xa cd h h2P hf hK
    have h0 := h
    obtain ⟨h1, h2, h4, h5, h6', h7, h8, h9, h10, h11, h12⟩ := h
    have hpn := h7.1
    have hlen : P.length ≤ 1600 := by omega
    have hle := tx_e_le (f := g) h7.1
    have hhs : F_X10_qHasSquare (P.length : Int) w = b2 (tMem P) := q_has h12 (by omega)
    show qHC g n al d (TC g n al false P K o p) p (F_X10_qGoesOnTest_0b (n : Int) xe (0 : Int) (-1 : Int) g vand vor w (F_X10_qGoesOnTest_0 (n : Int) xe (0 : Int) (-1 : Int) g vand vor w f) xa (K.length : Int) (P.length : Int) o cd)
    rw [gGt_b, ml_look hn h7, lf_p_e]
    by_cases q : lk g n p = 93
    · have q' : tx_k g n p = 3 ∧ g (tx_a g n p) = 93 := (lk_sgn (by omega)).mp q
      have hlt : p < tx_e g n p := tx_e_gt' (by have := q'.1; omega)
      rw [if_pos q, lf_b_e, hhs]
      rcases ok_sq h1 h2P with r | ⟨r1, r2, r3⟩
      · rw [r.1, if_pos (show b2 false = 0 from rfl)]
        exact qc_gt hn hand hor h0 h2P (fun s => Bool.noConfusion (r.1.symm.trans s.2)) hK
      · have hls : o = (((stQ (tPop P)).length + 1 : Nat) : Int) := by
          rw [h2, r2]
          rfl
        have hpl := tPop_len P
        obtain ⟨cd2, e1, e2, e3⟩ := qc_33 (v := (tx_a g n p : Int) + 1) (o := o) (K0 := F_X10_qGoesOnTest_0 (n : Int) xe (0 : Int) (-1 : Int) g vand vor w f) P 1623 K cd h12 r1 (by omega) hK
        obtain ⟨cd3, e4, e5⟩ := qc_nots (K := (dS P K).2) (cd := cd2) (o := o - 1) (tPop_p P h12) (by omega) (by omega) (by omega) e2
        obtain ⟨u1, u2, u3, u4, u5, u6⟩ := ok_nt (o - 1) r3
        have u7 := dN_1 (tPop P) (dS P K).2 (o - 1)
        have u8 := dN_len (tPop P) (dS P K).2 (o - 1)
        rw [u7.1] at u8
        rw [r1, if_neg (show ¬ b2 true = 0 from by decide), e1, lo_sub (by omega) (by omega) (by omega) (by omega) (by omega) (by omega), e4, lf_p_e, lf_p_e, lf_p_e]
        have eS : TC g n al false P K o p = TC g n al false (ntD (tPop P) (o - 1)).1 (dN (tPop P) (dS P K).2 (o - 1)).2.1 (ntD (tPop P) (o - 1)).2 (tx_e g n p) := by
          rw [TC_cl hpn q' r1, dS_1, u7.1, u7.2]
        have hln := (show (ntD (tPop P) (o - 1)).1.length ≤ (tPop P).length from ntD_len (tPop P) (o - 1))
        rw [eS]
        exact qHC_m (Nat.le_of_lt hlt) (ih (ntD (tPop P) (o - 1)).1 (dN (tPop P) (dS P K).2 (o - 1)).2.1 (ntD (tPop P) (o - 1)).2 (tx_e g n p) _ cd3 ⟨u3, by omega, by omega, by omega, by omega, mp_sgn h7 q'.1, rfl, rfl, rfl, rfl, ntD_p (tPop P) (o - 1) (tPop_p P h12)⟩ u4 (by omega) e5)
    · rw [if_neg q]
      exact qc_gt hn hand hor h0 h2P (fun r => q ((lk_sgn (by omega)).mpr r.1)) hK
end
section
/-! 6g -/
theorem qc_110 {w : Nat → Int} {l xa xe xp o : Int} : ∀ (P : List Int) (f : Nat) (K : List Int) (cd : Nat → Int), pwl w P → P.length < f → pcl cd K → ∃ cd2, F_X10_qTest_110 f l xa xe (0 : Int) xp (K.length : Int) (P.length : Int) o w cd = (xa, xe, (0 : Int), xp, ((K ++ P).length : Int), (0 : Int), o, w, cd2) ∧ pcl cd2 (K ++ P) := by
  intro P
  induction P with
  | nil =>
    intro f K cd h hf hK
    obtain ⟨k, rfl⟩ : ∃ k, f = k + 1 := ⟨f - 1, by have : 0 < f := hf; omega⟩
    rw [List.append_nil]
    refine ⟨cd, ?_, hK⟩
    show F_X10_qTest_110b _ l xa xe (0 : Int) xp (K.length : Int) (0 : Int) o w cd = _
    unfold F_X10_qTest_110b
    rw [if_pos rfl, if_pos (Int.le_refl _)]
  | cons x P ih =>
    intro f K cd h hf hK
    obtain ⟨k, rfl⟩ : ∃ k, f = k + 1 := ⟨f - 1, by have : 0 < f := Nat.lt_of_le_of_lt (Nat.zero_le _) hf; omega⟩
    obtain ⟨cd2, e, ek⟩ := ih k (K ++ [x]) (lf_up cd (K.length : Int) x) h.2 (by have : P.length + 1 < k + 1 := hf; omega) (pcl_app hK x)
    rw [len_1, List.append_assoc] at e
    rw [List.append_assoc] at ek
    have e2 : ((x :: P).length : Int) = (P.length : Int) + 1 := rfl
    refine ⟨cd2, ?_, ek⟩
    show F_X10_qTest_110b (F_X10_qTest_110 k) l xa xe (0 : Int) xp (K.length : Int) ((x :: P).length : Int) o w cd = _
    unfold F_X10_qTest_110b
    rw [if_pos rfl, if_neg (by omega), qc_drop h, lf_p_e, lf_p_e]
    exact e
section QWC
variable {g : Nat → Int} {n : Nat} {al tk : Int} {d : Nat} {vnot vand vor vall vmin vmax v1 v2 v3 v4 v5 v6 v7 v8 v9 v10 v11 v12 v13 : Nat → Int}
theorem qc_te (hn : n ≤ 1600) (hq : qw v1 v2 v3 v4 v5 v6 v7 v8 v9 v10 v11 v12 v13) (hnot : wa vnot W_not) (hand : wa vand W_and) (hor : wa vor W_or) (hall : wa vall W_all) (hmin : wa vmin W_min) (hmax : wa vmax W_max) (ht : tkA tk al) : ∀ (f : Nat) (P K : List Int) (o : Int) (p : Nat) (xa xe : Int) (w cd : Nat → Int), qV g n d P o p xa xe (0 : Int) (-1 : Int) (K.length : Int) (P.length : Int) o w → n - p + 1 < f → pcl cd K → qUC g n [] 0 d (TC g n al true P K o p) p (F_X10_qTest_2 (n : Int) tk g vnot vand vor vall vmin vmax v1 v2 v3 v4 v5 v6 v7 v8 v9 v10 v11 v12 v13 f (1 : Int) xa xe (0 : Int) (-1 : Int) (K.length : Int) (P.length : Int) o w cd) := by
  intro f
  induction f with
  | zero => intro P K o p xa xe w cd h hf; omega
  | succ f ih =>
    intro P K o p xa xe w cd h hf hK
    obtain ⟨f, rfl⟩ : ∃ k, f = k + 1 := ⟨f - 1, by omega⟩
    obtain ⟨h1, h2, h4, h5, h6', h7, h8, h9, h10, h11, h12⟩ := h
    have hpn := h7.1
    have hle := tx_e_le (f := g) h7.1
    have qUm : ∀ {S : SL} {p1 : Nat} {R : Int × Int × Int × Int × Int × Int × Int × (Nat → Int) × (Nat → Int)}, p ≤ p1 → qUC g n [] 0 d S p1 R → qUC g n [] 0 d S p R := by
      intro S p1 R hh hr
      rcases hr with r | ⟨p4, K4, a1, a2, a3⟩
      · exact Or.inl r
      · exact Or.inr ⟨p4, K4, a1, by omega, a3⟩
    show qUC g n [] 0 d (TC g n al true P K o p) p (F_X10_qTest_2b (n : Int) tk g vnot vand vor vall vmin vmax v1 v2 v3 v4 v5 v6 v7 v8 v9 v10 v11 v12 v13 (F_X10_qTest_2 (n : Int) tk g vnot vand vor vall vmin vmax v1 v2 v3 v4 v5 v6 v7 v8 v9 v10 v11 v12 v13 (f + 1)) (1 : Int) xa xe (0 : Int) (-1 : Int) (K.length : Int) (P.length : Int) o w cd)
    unfold F_X10_qTest_2b
    rw [if_neg (show ¬ (1 : Int) = 0 from by decide), if_pos rfl, ml_look hn h7, lf_p_e]
    by_cases c1 : lk g n p = 91
    · have q' : tx_k g n p = 3 ∧ g (tx_a g n p) = 91 := (lk_sgn (by omega)).mp c1
      have hlt : p < tx_e g n p := tx_e_gt' (by have := q'.1; omega)
      unfold F_X10_qOpens_a0_25
      rw [if_pos c1, if_pos rfl]
      by_cases h6o : o = 6
      · rw [if_pos h6o, lf_p_e, lf_p_e, lf_p_e, lf_p_e, q_t0 (show ¬ (4 : Int) = 0 from by decide), h6o, TC_s6 q']
        exact Or.inl ⟨(4, (tx_a g n p : Int)), rfl, (show ¬ (4 : Int) = 0 from by decide), rfl, rfl⟩
      · rw [if_neg h6o, lf_p_e, lf_p_e, lf_p_e, lf_p_e, lo_add (by omega) (by omega) (by omega) (by omega) (by omega) (by omega), TC_s1 h7.1 q' h6o]
        have hs : stQ (25 :: P) = 25 :: stQ P := rfl
        refine qUm (Nat.le_of_lt hlt) (ih (25 :: P) K (o + 1) (tx_e g n p) _ xe _ _ ⟨⟨h1, Or.inr (Or.inl rfl)⟩, ?_, by omega, ?_, h6', mp_sgn h7 q'.1, rfl, rfl, rfl, rfl, pwl_push h12 25⟩ (by omega) hK)
        · rw [hs, h2]
          rfl
        · show (K.length : Int) + (d : Int) + ((P.length + 1 : Nat) : Int) ≤ _
          omega
    · have q' : ¬ (tx_k g n p = 3 ∧ g (tx_a g n p) = 91) := fun r => c1 ((lk_sgn (by omega)).mpr r)
      rw [if_neg c1, F_X10_isHere_1 hn (W := W_not) rfl hnot (mp_a h7), lf_p_e]
      cases cn : wh g n W_not p with
      | true =>
        have k15 : ¬ wl g n ws_15 p = -1 := by
          rw [show wl g n ws_15 p = 0 from (wl_1 W_not).trans (if_pos cn)]
          decide
        have hk := (wh_k cn).1
        have hlt : p < tx_e g n p := tx_e_gt' (by omega)
        unfold F_X10_qOpens_a0_12
        rw [if_neg (show ¬ b2 true = 0 from by decide), if_pos rfl]
        by_cases h6o : o = 6
        · rw [if_pos h6o, lf_p_e, lf_p_e, lf_p_e, lf_p_e]
          unfold F_X10_asks
          rw [if_neg (show ¬ (4 : Int) = 0 from by decide), lf_p_e, lf_p_e, lf_p_e, q_t0 (show ¬ (4 : Int) = 0 from by decide), h6o, TC_n6 k15]
          exact Or.inl ⟨(4, (tx_a g n p : Int)), rfl, (show ¬ (4 : Int) = 0 from by decide), rfl, rfl⟩
        · rw [if_neg h6o, lf_p_e, lf_p_e, lf_p_e, lf_p_e, F_X10_asks_t hn (W := W_not) rfl hnot (mp_a h7) cn, lf_p_e, lf_p_e, lf_p_e, lo_add (by omega) (by omega) (by omega) (by omega) (by omega) (by omega), TC_n1 h7.1 k15 h6o]
          have hs : stQ (12 :: P) = 12 :: stQ P := rfl
          refine qUm (Nat.le_of_lt hlt) (ih (12 :: P) K (o + 1) (tx_e g n p) _ _ _ _ ⟨⟨h1, Or.inr (Or.inr rfl)⟩, ?_, by omega, ?_, h6', mp_tok h7.1 hk (Or.inl rfl), rfl, rfl, rfl, rfl, pwl_push h12 12⟩ (by omega) hK)
          · rw [hs, h2]
            rfl
          · show (K.length : Int) + (d : Int) + ((P.length + 1 : Nat) : Int) ≤ _
            omega
      | false =>
        have k15 : wl g n ws_15 p = -1 := (wl_1 W_not).trans (if_neg (fun r => Bool.noConfusion (cn.symm.trans r)))
        rw [if_pos (show b2 false = 0 from rfl), TC_at h7.1 q' k15]
        have hfa := qc_fact hn (okQ_h h1) hq hall hmin hmax ht (o0 := o) (d := d) (cd := cd) (show qS g n P o d [] o p (tx_a g n p : Int) xe (0 : Int) (-1 : Int) (K.length : Int) (P.length : Int) o w from ⟨True.intro, (by show o = o + ((0 : Nat) : Int); omega), by omega, h4, (by show (K.length : Int) + (d : Int) + (P.length : Int) ≤ _; omega), h6', mp_a h7, rfl, rfl, rfl, rfl, h12⟩) hK
        generalize F_X10_qFact (tx_a g n p : Int) (n : Int) xe (0 : Int) (-1 : Int) tk (K.length : Int) (P.length : Int) o g vall vmin vmax v1 v2 v3 v4 v5 v6 v7 v8 v9 v10 v11 v12 v13 cd w = R at hfa ⊢
        obtain ⟨y1, y2, y3, y4, y5, y6, y7, y8, y9⟩ := R
        rw [lf_p_e, lf_p_e, lf_p_e, lf_p_e, lf_p_e, lf_p_e, lf_p_e, lf_p_e]
        rcases hfa with ⟨q, e, q1, q2, q3⟩ | ⟨p2, K2, e, hlt, hs, hc2, hk2⟩
        · have q2' : y3 = q.1 := q2
          have y3n : ¬ y3 = 0 := fun r => q1 (q2'.symm.trans r)
          rw [q_nots0 y3n, lf_p_e, lf_p_e, lf_p_e, if_neg y3n, q_t0 y3n, e]
          exact Or.inl ⟨q, rfl, q1, q2, q3⟩
        · have hs' : qS g n P o d [] o p2 y1 y2 y3 y4 y5 y6 y7 y8 := hs
          obtain ⟨s1, s2, s3, s4, s5, s6, s7, s8, s9, s10, s11, s12⟩ := hs'
          subst s8
          subst s9
          have s10' : y6 = (P.length : Int) := s10
          subst s10'
          subst s11
          have hc2' : y5 = (K2.length : Int) := hc2
          subst hc2'
          have hk2' : pcl y9 K2 := hk2
          have s5' : (K2.length : Int) + (d : Int) + (P.length : Int) ≤ (p2 : Int) := s5
          have hp2 := s7.1
          have s12' : pwl y8 P := s12
          obtain ⟨cd3, e4, e5⟩ := qc_nots (K := K2) (cd := y9) (o := y7) s12' (by omega) s3 s4 hk2'
          have u8 := dN_len P K2 y7
          have dn7 := dN_1 P K2 y7
          rw [dn7.1] at u8
          obtain ⟨u1, u2, u3, u4, u5, u6⟩ := ok_nt y7 h1
          have hln := ntD_len P y7
          have hv : qV g n d (ntD P y7).1 (ntD P y7).2 p2 y1 y2 (0 : Int) (-1 : Int) ((dN P K2 y7).2.1.length : Int) ((ntD P y7).1.length : Int) (ntD P y7).2 y8 := ⟨u3, by omega, by omega, by omega, by omega, s7, rfl, rfl, rfl, rfl, ntD_p P y7 s12'⟩
          have hgo : qHC g n al d (TC g n al false (ntD P y7).1 (dN P K2 y7).2.1 (ntD P y7).2 p2) p2 (F_X10_qGoesOnTest y1 (n : Int) y2 (0 : Int) (-1 : Int) ((dN P K2 y7).2.1.length : Int) ((ntD P y7).1.length : Int) (ntD P y7).2 g vand vor cd3 y8) := qc_goest hn hand hor 1602 (ntD P y7).1 (dN P K2 y7).2.1 (ntD P y7).2 p2 y1 cd3 hv u4 (by omega) e5
          rw [e4, lf_p_e, lf_p_e, lf_p_e, if_pos rfl, e, show bL (.inr (p2, K2) : SL) (fun q K2 => TC g n al false (dN P K2 y7).1 (dN P K2 y7).2.1 (dN P K2 y7).2.2 q) = TC g n al false (ntD P y7).1 (dN P K2 y7).2.1 (ntD P y7).2 p2 from by rw [← dn7.1, ← dn7.2]; rfl]
          generalize F_X10_qGoesOnTest y1 (n : Int) y2 (0 : Int) (-1 : Int) ((dN P K2 y7).2.1.length : Int) ((ntD P y7).1.length : Int) (ntD P y7).2 g vand vor cd3 y8 = R at hgo ⊢
          obtain ⟨z0, z1, z2, z3, z4, z5, z6, z7, z8, z9⟩ := R
          rw [lf_p_e, lf_p_e, lf_p_e, lf_p_e, lf_p_e, lf_p_e, lf_p_e, lf_p_e, lf_p_e]
          rcases hgo with ⟨r1, P3, K3, o3, p3, e3, hlt3, hs3, hc3, hk3⟩ | ⟨r1, q, e3, q1, q2, q3⟩ | ⟨r1, P3, K3, o3, p3, e3, hle3, hnil, hs3, hc3, hk3⟩
          · have r1' : z0 = 1 := r1
            have hs' : qV g n d P3 o3 p3 z1 z2 z3 z4 z5 z6 z7 z8 := hs3
            obtain ⟨t1, t2, t4, t5, t6, t7, t8, t9, t10, t11, t12⟩ := hs'
            subst t8
            subst t9
            subst t10
            subst t11
            have hc3' : z5 = (K3.length : Int) := hc3
            subst hc3'
            rw [if_neg (show ¬ z0 = 0 from by omega), e3]
            exact qUm (by omega) (ih P3 K3 z7 p3 z1 z2 z8 z9 ⟨t1, t2, t4, t5, t6, t7, rfl, rfl, rfl, rfl, t12⟩ (by omega) hk3)
          · have r1' : z0 = 0 := r1
            have q2' : z3 = q.1 := q2
            rw [if_pos r1', q_t0 (show ¬ z3 = 0 from fun r => q1 (q2'.symm.trans r))]
            exact Or.inl ⟨q, e3, q1, q2, q3⟩
          · have r1' : z0 = 0 := r1
            have hs' : qV g n d P3 o3 p3 z1 z2 z3 z4 z5 z6 z7 z8 := hs3
            obtain ⟨t1, t2, t4, t5, t6, t7, t8, t9, t10, t11, t12⟩ := hs'
            subst t8
            subst t9
            subst t10
            subst t11
            have hp3 := t7.1
            have ho : z7 = 0 := by
              rw [t2, hnil]
              rfl
            have hc3' : z5 = (K3.length : Int) := hc3
            subst hc3'
            obtain ⟨cd2, e6, e6k⟩ := qc_110 (w := z8) (l := (0 : Int)) (xa := z1) (xe := z2) (xp := (-1 : Int)) (o := z7) P3 1627 K3 z9 t12 (by omega) hk3
            have hlk : (K3 ++ P3).length = K3.length + P3.length := List.length_append
            rw [if_pos r1']
            show qUC g n [] 0 d _ p (F_X10_qTest_2b (n : Int) tk g vnot vand vor vall vmin vmax v1 v2 v3 v4 v5 v6 v7 v8 v9 v10 v11 v12 v13 (F_X10_qTest_2 (n : Int) tk g vnot vand vor vall vmin vmax v1 v2 v3 v4 v5 v6 v7 v8 v9 v10 v11 v12 v13 f) (0 : Int) z1 z2 (0 : Int) (-1 : Int) (K3.length : Int) (P3.length : Int) z7 z8 z9)
            unfold F_X10_qTest_2b
            rw [if_pos rfl, e6, e3]
            refine Or.inr ⟨p3, K3 ++ P3, rfl, by omega, ⟨True.intro, rfl, Int.le_refl _, (by decide), ?_, ?_, t7, rfl, rfl, rfl, ho, True.intro⟩, rfl, e6k⟩
            · show ((K3 ++ P3).length : Int) + (d : Int) + ((0 : Nat) : Int) ≤ (p3 : Int)
              omega
            · show 0 ≤ ((K3 ++ P3).length : Int)
              omega
theorem qc_test (hn : n ≤ 1600) (hq : qw v1 v2 v3 v4 v5 v6 v7 v8 v9 v10 v11 v12 v13) (hnot : wa vnot W_not) (hand : wa vand W_and) (hor : wa vor W_or) (hall : wa vall W_all) (hmin : wa vmin W_min) (hmax : wa vmax W_max) (ht : tkA tk al) {p : Nat} {xa xe : Int} {w cd : Nat → Int} (h : mp g n p xa xe) (hd : d ≤ p) : qUC g n [] 0 d (TC g n al true [] [] 0 p) p (F_X10_qTest xa (n : Int) xe (0 : Int) (-1 : Int) tk (0 : Int) (0 : Int) (0 : Int) g vnot vand vor vall vmin vmax v1 v2 v3 v4 v5 v6 v7 v8 v9 v10 v11 v12 v13 cd w) := by
  have hpn := h.1
  exact qc_te hn hq hnot hand hor hall hmin hmax ht 3203 [] [] 0 p xa xe w cd ⟨True.intro, rfl, (by decide), (by show (0 : Int) + (d : Int) + ((0 : Nat) : Int) ≤ _; omega), Int.le_refl _, h, rfl, rfl, rfl, rfl, True.intro⟩ (by omega) (pcl_0 cd)
end QWC
end
section
/-! 7a -/
/-! what codes come to: one description of operators, and both sides' operators -/
def clp (v : Int) : Int := if 1000000 < v then 1000000 else if v < -1000000 then -1000000 else v
def fdv (a b : Int) : Int := if b = 0 then 0 else if decide (a < 0) = decide (b < 0) then a.tdiv b else if a.tdiv b * b = a then a.tdiv b else a.tdiv b - 1
def opV (c a b : Int) : Int := if c = 1 then clp (a + b) else if c = 2 then clp (a - b) else if c = 3 then clp (a * b) else if c = 4 then fdv a b else if c = 5 then (if a < b then a else b) else if c = 6 then (if b < a then a else b) else if c = 7 then (if a < b then 1 else 0) else if c = 8 then (if b < a then 1 else 0) else if c = 9 then (if a = b then 1 else 0) else if c = 10 then a * b else (if 0 < a + b then 1 else 0)
theorem clp_b (v : Int) : -1000000 ≤ clp v ∧ clp v ≤ 1000000 := by
  unfold clp
  by_cases c1 : 1000000 < v
  · rw [if_pos c1]
    decide
  · rw [if_neg c1]
    by_cases c2 : v < -1000000
    · rw [if_pos c2]
      decide
    · rw [if_neg c2]
      omega
theorem abs_tdiv {a b M : Int} (h1 : -M ≤ a) (h2 : a ≤ M) : -M ≤ a.tdiv b ∧ a.tdiv b ≤ M := by
  have h := Int.natAbs_tdiv_le_natAbs a b
  generalize a.tdiv b = q at h ⊢
  omega
theorem abs_tmul {a b M : Int} (h1 : -M ≤ a) (h2 : a ≤ M) : -M ≤ a.tdiv b * b ∧ a.tdiv b * b ≤ M := by
  have h : (a.tdiv b * b).natAbs ≤ a.natAbs := by
    rw [Int.natAbs_mul, Int.natAbs_tdiv]
    exact Nat.div_mul_le_self a.natAbs b.natAbs
  generalize a.tdiv b * b = q at h ⊢
  omega
theorem fdv_b {a b : Int} (h1 : -1000000 ≤ a) (h2 : a ≤ 1000000) : -1000000 ≤ fdv a b ∧ fdv a b ≤ 1000000 := by
  unfold fdv
  have h := abs_tdiv (b := b) h1 h2
  by_cases c0 : b = 0
  · rw [if_pos c0]
    decide
  · rw [if_neg c0]
    by_cases c1 : decide (a < 0) = decide (b < 0)
    · rw [if_pos c1]
      exact h
    · rw [if_neg c1]
      by_cases c2 : a.tdiv b * b = a
      · rw [if_pos c2]
        exact h
      · rw [if_neg c2]
        have hb : 2 ≤ b.natAbs := by
          rcases Nat.lt_or_ge b.natAbs 2 with q | q
          · exfalso
            apply c2
            have hb1 : b = 1 ∨ b = -1 := by omega
            rcases hb1 with r | r
            · rw [r, Int.tdiv_one, Int.mul_one]
            · rw [r, Int.tdiv_neg, Int.tdiv_one]
              omega
          · exact q
        have h4 : (a.tdiv b).natAbs ≤ a.natAbs / 2 := by
          rw [Int.natAbs_tdiv]
          exact Nat.div_le_div_left hb (by decide)
        generalize a.tdiv b = q at h h4 ⊢
        omega
/-- truths -/
def bo (b : Bool) (v : Int) : Prop := b = true → v = 0 ∨ v = 1
def in6 (v : Int) : Prop := -1000000 ≤ v ∧ v ≤ 1000000
theorem opV_b {c a b : Int} (ha : in6 a) (hb : in6 b) (h10 : c = 10 ∨ c = 11 → (a = 0 ∨ a = 1) ∧ (b = 0 ∨ b = 1)) (h1 : 1 ≤ c) (h11 : c ≤ 11) : in6 (opV c a b) ∧ (7 ≤ c → opV c a b = 0 ∨ opV c a b = 1) := by
  have two : ∀ (p : Prop) [Decidable p] , (if p then (1 : Int) else 0) = 0 ∨ (if p then (1 : Int) else 0) = 1 := by
    intro p inst
    by_cases q : p
    · rw [if_pos q]
      exact Or.inr rfl
    · rw [if_neg q]
      exact Or.inl rfl
  have tw : ∀ v : Int, v = 0 ∨ v = 1 → in6 v := by
    intro v h
    unfold in6
    omega
  unfold opV
  by_cases c1 : c = 1
  · rw [if_pos c1]
    exact ⟨clp_b _, fun r => by omega⟩
  rw [if_neg c1]
  by_cases c2 : c = 2
  · rw [if_pos c2]
    exact ⟨clp_b _, fun r => by omega⟩
  rw [if_neg c2]
  by_cases c3 : c = 3
  · rw [if_pos c3]
    exact ⟨clp_b _, fun r => by omega⟩
  rw [if_neg c3]
  by_cases c4 : c = 4
  · rw [if_pos c4]
    exact ⟨fdv_b ha.1 ha.2, fun r => by omega⟩
  rw [if_neg c4]
  by_cases c5 : c = 5
  · rw [if_pos c5]
    refine ⟨?_, fun r => by omega⟩
    by_cases q : a < b
    · rw [if_pos q]
      exact ha
    · rw [if_neg q]
      exact hb
  rw [if_neg c5]
  by_cases c6 : c = 6
  · rw [if_pos c6]
    refine ⟨?_, fun r => by omega⟩
    by_cases q : b < a
    · rw [if_pos q]
      exact ha
    · rw [if_neg q]
      exact hb
  rw [if_neg c6]
  by_cases c7 : c = 7
  · rw [if_pos c7]
    exact ⟨tw _ (two _), fun _ => two _⟩
  rw [if_neg c7]
  by_cases c8 : c = 8
  · rw [if_pos c8]
    exact ⟨tw _ (two _), fun _ => two _⟩
  rw [if_neg c8]
  by_cases c9 : c = 9
  · rw [if_pos c9]
    exact ⟨tw _ (two _), fun _ => two _⟩
  rw [if_neg c9]
  by_cases c10 : c = 10
  · rw [if_pos c10]
    have e : a * b = 0 ∨ a * b = 1 := by
      obtain ⟨x, y⟩ := h10 (Or.inl c10)
      rcases x with rfl | rfl
      · exact Or.inl (Int.zero_mul b)
      · rw [Int.one_mul]
        exact y
    exact ⟨tw _ e, fun _ => e⟩
  rw [if_neg c10]
  exact ⟨tw _ (two _), fun _ => two _⟩
theorem cmp_le {X Y : Int} : lf_cmp X Y ≤ 0 ↔ X ≤ Y := by
  unfold lf_cmp
  by_cases c1 : Y < X
  · rw [if_pos c1]
    omega
  · rw [if_neg c1]
    by_cases c2 : X = Y
    · rw [if_pos c2]
      omega
    · rw [if_neg c2]
      omega
theorem cmp_ge {X Y : Int} : 0 ≤ lf_cmp X Y ↔ Y ≤ X := by
  unfold lf_cmp
  by_cases c1 : Y < X
  · rw [if_pos c1]
    omega
  · rw [if_neg c1]
    by_cases c2 : X = Y
    · rw [if_pos c2]
      omega
    · rw [if_neg c2]
      omega
theorem cmp_eq {X Y : Int} : lf_cmp X Y = 0 ↔ X = Y := by
  unfold lf_cmp
  by_cases c1 : Y < X
  · rw [if_pos c1]
    omega
  · rw [if_neg c1]
    by_cases c2 : X = Y
    · rw [if_pos c2]
      omega
    · rw [if_neg c2]
      omega
theorem l2i_6 {v : Int} (h : -2000000000 ≤ v) (h2 : v ≤ 2000000000) : lf_l2i v = v := by
  have e : (2 : Int) ^ 63 = 9223372036854775808 := by decide
  show (Int64.toInt32 (Int64.ofInt v)).toInt = v
  rw [Int64.toInt_toInt32, Int64.toInt_ofInt_of_le (by omega) (by omega)]
  exact Int.bmod_eq_of_le (by omega) (by omega)
theorem within_x {v : Int} : F_X3_within v = clp v := by
  unfold F_X3_within clp
  by_cases c1 : 1000000 < v
  · rw [if_neg (fun r => by have := cmp_le.mp r; omega), if_pos c1]
  · rw [if_pos (cmp_le.mpr (by omega)), if_neg c1]
    by_cases c2 : v < -1000000
    · rw [if_neg (fun r => by have := cmp_ge.mp r; omega), if_pos c2]
    · rw [if_pos (cmp_ge.mpr (by omega)), if_neg c2, l2i_6 (by omega) (by omega)]
theorem clip_m {v : Int} : F_X10_qClip v = clp v := by
  unfold F_X10_qClip clp
  by_cases c1 : 1000000 < v
  · rw [if_neg (fun r => by have := cmp_le.mp r; omega), if_pos c1]
  · rw [if_pos (cmp_le.mpr (by omega)), if_neg c1]
    by_cases c2 : v < -1000000
    · rw [if_neg (fun r => by have := cmp_ge.mp r; omega), if_pos c2]
    · rw [if_pos (cmp_ge.mpr (by omega)), if_neg c2]
theorem ol_add {X Y : Int} (hx : in6 X) (hy : in6 Y) : lf_ol lf_ladd X Y = X + Y := by
  have h1 := hx.1
  have h2 := hx.2
  have h3 := hy.1
  have h4 := hy.2
  exact lol_add (by omega) (by omega) (by omega) (by omega)
theorem ol_sub {X Y : Int} (hx : in6 X) (hy : in6 Y) : lf_ol lf_lsub X Y = X - Y := by
  have h1 := hx.1
  have h2 := hx.2
  have h3 := hy.1
  have h4 := hy.2
  exact lol_sub (by omega) (by omega) (by omega) (by omega)
theorem mul_6 {X Y : Int} (hx : in6 X) (hy : in6 Y) : -1000000000000 ≤ X * Y ∧ X * Y ≤ 1000000000000 := by
  have h1 : X.natAbs ≤ 1000000 := by have := hx.1; have := hx.2; omega
  have h2 : Y.natAbs ≤ 1000000 := by have := hy.1; have := hy.2; omega
  have h : (X * Y).natAbs ≤ 1000000 * 1000000 := by
    rw [Int.natAbs_mul]
    exact Nat.mul_le_mul h1 h2
  generalize X * Y = q at h ⊢
  omega
theorem ol_mul {X Y : Int} (hx : in6 X) (hy : in6 Y) : lf_ol lf_lmul X Y = X * Y := by
  have e : (2 : Int) ^ 63 = 9223372036854775808 := by decide
  have h1 := hx.1
  have h2 := hx.2
  have h3 := hy.1
  have h4 := hy.2
  have h5 := mul_6 hx hy
  show (Int64.ofInt X * Int64.ofInt Y).toInt = X * Y
  rw [Int64.toInt_mul, Int64.toInt_ofInt_of_le (by omega) (by omega), Int64.toInt_ofInt_of_le (by omega) (by omega)]
  generalize X * Y = q at h5 ⊢
  exact Int.bmod_eq_of_le (by omega) (by omega)
theorem xor_sg (x y : Int32) : 0 ≤ x ^^^ y ↔ decide (x.toInt < 0) = decide (y.toInt < 0) := by
  rw [Int32.le_iff_toInt_le]
  have h1 : (x ^^^ y).toBitVec = x.toBitVec ^^^ y.toBitVec := rfl
  have h2 : (x ^^^ y).toBitVec.msb = (x.toBitVec.msb ^^ y.toBitVec.msb) := by rw [h1, BitVec.msb_xor]
  rw [BitVec.msb_eq_toInt, BitVec.msb_eq_toInt, BitVec.msb_eq_toInt] at h2
  have h3 : decide ((x ^^^ y).toInt < 0) = (decide (x.toInt < 0) ^^ decide (y.toInt < 0)) := h2
  have h0 : (0 : Int32).toInt = 0 := by decide
  rw [h0]
  constructor
  · intro h
    rw [decide_eq_false (by omega)] at h3
    cases e1 : decide (x.toInt < 0) <;> cases e2 : decide (y.toInt < 0)
    · rfl
    · rw [e1, e2] at h3
      exact Bool.noConfusion h3
    · rw [e1, e2] at h3
      exact Bool.noConfusion h3
    · rfl
  · intro h
    rw [h] at h3
    have h4 : decide ((x ^^^ y).toInt < 0) = false := by
      rw [h3]
      cases decide (y.toInt < 0) <;> rfl
    have := of_decide_eq_false h4
    omega
theorem fdv_x {a b : Int} (ha : in6 a) (hb : in6 b) (h0 : ¬ b = 0) : lf_o lf_fdv a b = fdv a b := by
  have e : (2 : Int) ^ 31 = 2147483648 := by decide
  have h1 := ha.1
  have h2 := ha.2
  have h3 := hb.1
  have h4 := hb.2
  show (lf_fdv (Int32.ofInt a) (Int32.ofInt b)).toInt = fdv a b
  have ex : (Int32.ofInt a).toInt = a := Int32.toInt_ofInt_of_le (by omega) (by omega)
  have ey : (Int32.ofInt b).toInt = b := Int32.toInt_ofInt_of_le (by omega) (by omega)
  generalize Int32.ofInt a = x at ex ⊢
  generalize Int32.ofInt b = y at ey ⊢
  have q1 := abs_tdiv (b := b) h1 h2
  have q2 := abs_tmul (b := b) h1 h2
  have e1 : (x / y).toInt = a.tdiv b := by
    rw [Int32.toInt_div, ex, ey]
    generalize a.tdiv b = q at q1 ⊢
    exact Int.bmod_eq_of_le (by omega) (by omega)
  have e2 : (x / y * y).toInt = a.tdiv b * b := by
    rw [Int32.toInt_mul, e1, ey]
    generalize a.tdiv b * b = q at q2 ⊢
    exact Int.bmod_eq_of_le (by omega) (by omega)
  have e3 : (x / y - 1).toInt = a.tdiv b - 1 := by
    rw [Int32.toInt_sub, e1, show (1 : Int32).toInt = 1 from by decide]
    generalize a.tdiv b = q at q1 ⊢
    exact Int.bmod_eq_of_le (by omega) (by omega)
  unfold lf_fdv fdv
  rw [if_neg h0]
  by_cases c1 : 0 ≤ x ^^^ y
  · have c1' := (xor_sg x y).mp c1
    rw [ex, ey] at c1'
    rw [if_pos c1, if_pos c1', e1]
  · have c1' : ¬ decide (a < 0) = decide (b < 0) := fun r => c1 ((xor_sg x y).mpr (by rw [ex, ey]; exact r))
    rw [if_neg c1, if_neg c1']
    by_cases c2 : x / y * y = x
    · have c2' : a.tdiv b * b = a := by rw [← e2, c2, ex]
      rw [if_pos c2, if_pos c2', e1]
    · have c2' : ¬ a.tdiv b * b = a := fun r => c2 (Int32.toInt_inj.mp (by rw [e2, ex]; exact r))
      rw [if_neg c2, if_neg c2', e3]
theorem op_x {c a b : Int} (ha : in6 a) (hb : in6 b) (h10 : c = 10 ∨ c = 11 → (a = 0 ∨ a = 1) ∧ (b = 0 ∨ b = 1)) (h1 : 1 ≤ c) (h11 : c ≤ 11) : F_X3_operate (-19 - c) a b = opV c a b := by
  have hor : c = 11 → lf_o lf_ior a b = if 0 < a + b then 1 else 0 := by
    intro hc
    obtain ⟨x, y⟩ := h10 (Or.inr hc)
    rcases x with rfl | rfl <;> rcases y with rfl | rfl <;> decide
  have hand : c = 10 → lf_o lf_iand a b = a * b := by
    intro hc
    obtain ⟨x, y⟩ := h10 (Or.inl hc)
    rcases x with rfl | rfl <;> rcases y with rfl | rfl <;> decide
  have f1 : (if a ≤ b then (0 : Int) else 1) = if b < a then 1 else 0 := by
    by_cases q : a ≤ b
    · rw [if_pos q, if_neg (by omega)]
    · rw [if_neg q, if_pos (by omega)]
  have f2 : (if b ≤ a then (0 : Int) else 1) = if a < b then 1 else 0 := by
    by_cases q : b ≤ a
    · rw [if_pos q, if_neg (by omega)]
    · rw [if_neg q, if_pos (by omega)]
  have f3 : (if a ≤ b then b else a) = if b < a then a else b := by
    by_cases q : a ≤ b
    · rw [if_pos q, if_neg (by omega)]
    · rw [if_neg q, if_pos (by omega)]
  have f4 : (if b ≤ a then b else a) = if a < b then a else b := by
    by_cases q : b ≤ a
    · rw [if_pos q, if_neg (by omega)]
    · rw [if_neg q, if_pos (by omega)]
  have hc : c = 1 ∨ c = 2 ∨ c = 3 ∨ c = 4 ∨ c = 5 ∨ c = 6 ∨ c = 7 ∨ c = 8 ∨ c = 9 ∨ c = 10 ∨ c = 11 := by omega
  rcases hc with r | r | r | r | r | r | r | r | r | r | r
  · have e1 : F_X3_operate (-19 - c) a b = (F_X3_within (lf_ol lf_ladd a b)) := by
      unfold F_X3_operate
      rw [if_neg (by omega), if_neg (by omega), if_neg (by omega), if_neg (by omega), if_neg (by omega), if_neg (by omega), if_neg (by omega), if_neg (by omega), if_neg (by omega), if_pos (by omega), lf_b_e]
    have e2 : opV c a b = (clp (a + b)) := by
      unfold opV
      rw [if_pos r]
    rw [e1, e2]
    rw [within_x, ol_add ha hb]
  · have e1 : F_X3_operate (-19 - c) a b = (F_X3_within (lf_ol lf_lsub a b)) := by
      unfold F_X3_operate
      rw [if_neg (by omega), if_neg (by omega), if_neg (by omega), if_neg (by omega), if_neg (by omega), if_neg (by omega), if_neg (by omega), if_neg (by omega), if_pos (by omega), lf_b_e]
    have e2 : opV c a b = (clp (a - b)) := by
      unfold opV
      rw [if_neg (by omega), if_pos r]
    rw [e1, e2]
    rw [within_x, ol_sub ha hb]
  · have e1 : F_X3_operate (-19 - c) a b = (F_X3_within (lf_ol lf_lmul a b)) := by
      unfold F_X3_operate
      rw [if_neg (by omega), if_neg (by omega), if_neg (by omega), if_neg (by omega), if_neg (by omega), if_neg (by omega), if_neg (by omega), if_pos (by omega), lf_b_e]
    have e2 : opV c a b = (clp (a * b)) := by
      unfold opV
      rw [if_neg (by omega), if_neg (by omega), if_pos r]
    rw [e1, e2]
    rw [within_x, ol_mul ha hb]
  · have e1 : F_X3_operate (-19 - c) a b = (if b = (0 : Int) then (0 : Int) else lf_o lf_fdv a b) := by
      unfold F_X3_operate
      rw [if_neg (by omega), if_neg (by omega), if_neg (by omega), if_neg (by omega), if_neg (by omega), if_neg (by omega), if_pos (by omega)]
    have e2 : opV c a b = (fdv a b) := by
      unfold opV
      rw [if_neg (by omega), if_neg (by omega), if_neg (by omega), if_pos r]
    rw [e1, e2]
    by_cases q : b = 0
    · rw [if_pos q]
      unfold fdv
      rw [if_pos q]
    · rw [if_neg q, fdv_x ha hb q]
  · have e1 : F_X3_operate (-19 - c) a b = (if b ≤ a then b else a) := by
      unfold F_X3_operate
      rw [if_neg (by omega), if_neg (by omega), if_neg (by omega), if_neg (by omega), if_neg (by omega), if_pos (by omega)]
    have e2 : opV c a b = (if a < b then a else b) := by
      unfold opV
      rw [if_neg (by omega), if_neg (by omega), if_neg (by omega), if_neg (by omega), if_pos r]
    rw [e1, e2]
    exact f4
  · have e1 : F_X3_operate (-19 - c) a b = (if a ≤ b then b else a) := by
      unfold F_X3_operate
      rw [if_neg (by omega), if_neg (by omega), if_neg (by omega), if_neg (by omega), if_pos (by omega)]
    have e2 : opV c a b = (if b < a then a else b) := by
      unfold opV
      rw [if_neg (by omega), if_neg (by omega), if_neg (by omega), if_neg (by omega), if_neg (by omega), if_pos r]
    rw [e1, e2]
    exact f3
  · have e1 : F_X3_operate (-19 - c) a b = (if b ≤ a then (0 : Int) else 1) := by
      unfold F_X3_operate
      rw [if_neg (by omega), if_neg (by omega), if_neg (by omega), if_pos (by omega)]
    have e2 : opV c a b = (if a < b then 1 else 0) := by
      unfold opV
      rw [if_neg (by omega), if_neg (by omega), if_neg (by omega), if_neg (by omega), if_neg (by omega), if_neg (by omega), if_pos r]
    rw [e1, e2]
    exact f2
  · have e1 : F_X3_operate (-19 - c) a b = (if a ≤ b then (0 : Int) else 1) := by
      unfold F_X3_operate
      rw [if_neg (by omega), if_neg (by omega), if_pos (by omega)]
    have e2 : opV c a b = (if b < a then 1 else 0) := by
      unfold opV
      rw [if_neg (by omega), if_neg (by omega), if_neg (by omega), if_neg (by omega), if_neg (by omega), if_neg (by omega), if_neg (by omega), if_pos r]
    rw [e1, e2]
    exact f1
  · have e1 : F_X3_operate (-19 - c) a b = (if a = b then (1 : Int) else 0) := by
      unfold F_X3_operate
      rw [if_neg (by omega), if_pos (by omega)]
    have e2 : opV c a b = (if a = b then 1 else 0) := by
      unfold opV
      rw [if_neg (by omega), if_neg (by omega), if_neg (by omega), if_neg (by omega), if_neg (by omega), if_neg (by omega), if_neg (by omega), if_neg (by omega), if_pos r]
    rw [e1, e2]
  · have e1 : F_X3_operate (-19 - c) a b = (lf_o lf_iand a b) := by
      unfold F_X3_operate
      rw [if_pos (by omega)]
    have e2 : opV c a b = (a * b) := by
      unfold opV
      rw [if_neg (by omega), if_neg (by omega), if_neg (by omega), if_neg (by omega), if_neg (by omega), if_neg (by omega), if_neg (by omega), if_neg (by omega), if_neg (by omega), if_pos r]
    rw [e1, e2]
    exact hand r
  · have e1 : F_X3_operate (-19 - c) a b = (lf_o lf_ior a b) := by
      unfold F_X3_operate
      rw [if_neg (by omega), if_neg (by omega), if_neg (by omega), if_neg (by omega), if_neg (by omega), if_neg (by omega), if_neg (by omega), if_neg (by omega), if_neg (by omega), if_neg (by omega)]
    have e2 : opV c a b = (if 0 < a + b then 1 else 0) := by
      unfold opV
      rw [if_neg (by omega), if_neg (by omega), if_neg (by omega), if_neg (by omega), if_neg (by omega), if_neg (by omega), if_neg (by omega), if_neg (by omega), if_neg (by omega), if_neg (by omega)]
    rw [e1, e2]
    exact hor r
end
