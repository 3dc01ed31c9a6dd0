section RC3
variable {g : Nat → Int} {n : Nat} {al : Int}
theorem RC_tu {P K : List Int} {o : Int} {p : Nat} : RC g n al true P K o p = (if tx_k g n p = 3 ∧ g (tx_a g n p) = 40 then (if o = 6 then .inl (4, (tx_a g n p : Int)) else mRc g n al (n - p) true (20 :: P) K (o + 1) (tx_e g n p)) else if ¬ wl g n ws_17 p = -1 then (if tx_k g n (tx_e g n p) = 3 ∧ g (tx_a g n (tx_e g n p)) = 40 then (if o = 6 then .inl (4, (tx_a g n (tx_e g n p) : Int)) else mRc g n al (n - p) true (21 :: P) K (o + 1) (tx_e g n (tx_e g n p))) else .inl (1, (tx_a g n (tx_e g n p) : Int))) else if ¬ wl g n ws_18 p = -1 then (if tx_k g n (tx_e g n p) = 3 ∧ g (tx_a g n (tx_e g n p)) = 40 then (if o = 6 then .inl (4, (tx_a g n (tx_e g n p) : Int)) else mRc g n al (n - p) true (22 :: P) K (o + 1) (tx_e g n (tx_e g n p))) else .inl (1, (tx_a g n (tx_e g n p) : Int))) else if al = 3707 ∧ ¬ wl g n ws_19 p = -1 then (if o = 6 then .inl (4, (tx_a g n p : Int)) else mRc g n al (n - p) true (60 :: P) K (o + 1) (tx_e g n p)) else bL (atM g n al p) (fun q L => mRc g n al (n - p) false (dE P (K ++ L) o).1 (dE P (K ++ L) o).2.1 (dE P (K ++ L) o).2.2 q)) := rfl
theorem RC_fu {P K : List Int} {o : Int} {p : Nat} : RC g n al false P K o p = (if (tx_k g n p = 3 ∧ g (tx_a g n p) = 41) ∧ (brT P = 20 ∨ brT P = 23 ∨ brT P = 24) then mRc g n al (n - p) false (dE (dB P K).1.tail (clK (brT P) (dB P K).2) (o - 1)).1 (dE (dB P K).1.tail (clK (brT P) (dB P K).2) (o - 1)).2.1 (dE (dB P K).1.tail (clK (brT P) (dB P K).2) (o - 1)).2.2 (tx_e g n p) else if tx_k g n p = 3 ∧ (g (tx_a g n p) = 42 ∨ g (tx_a g n p) = 47 ∨ g (tx_a g n p) = 43 ∨ g (tx_a g n p) = 45) then mRc g n al (n - p) true (opC g n p :: (dO (opL g n p) P K).1) (dO (opL g n p) P K).2 o (tx_e g n p) else if brT P = 21 ∨ brT P = 22 then (if tx_k g n p = 3 ∧ g (tx_a g n p) = 44 then mRc g n al (n - p) true (cmH (dB P K).1) (dB P K).2 o (tx_e g n p) else .inl (1, (tx_a g n p : Int))) else if brT P = -1 then .inr (p, K ++ P) else .inl (1, (tx_a g n p : Int))) := rfl
theorem RC_o1 {P K : List Int} {o : Int} {p : Nat} (hp : p ≤ n) (c : tx_k g n p = 3 ∧ g (tx_a g n p) = 40) (ho : ¬ o = 6) : RC g n al true P K o p = RC g n al true (20 :: P) K (o + 1) (tx_e g n p) := by
  have hlt : p < tx_e g n p := tx_e_gt' (by omega)
  rw [← RC_f (p := p) (tx_e_le hp) hlt]
  rw [RC_tu, if_pos c, if_neg ho]
theorem RC_o6 {P K : List Int} {p : Nat} (c : tx_k g n p = 3 ∧ g (tx_a g n p) = 40) : RC g n al true P K 6 p = .inl (4, (tx_a g n p : Int)) := by
  rw [RC_tu, if_pos c, if_pos rfl]
def mmC (g : Nat → Int) (n : Nat) (al : Int) (x : Int) (P K : List Int) (o : Int) (p1 : Nat) : SL := if tx_k g n p1 = 3 ∧ g (tx_a g n p1) = 40 then (if o = 6 then .inl (4, (tx_a g n p1 : Int)) else RC g n al true (x :: P) K (o + 1) (tx_e g n p1)) else .inl (1, (tx_a g n p1 : Int))
theorem RC_mm {P K : List Int} {o : Int} {p : Nat} (hp : p ≤ n) (c : ¬ wl g n ws_17 p = -1) : RC g n al true P K o p = mmC g n al 21 P K o (tx_e g n p) := by
  have hk := wl_k c
  have hlt : p < tx_e g n p := tx_e_gt' (by omega)
  have hle := tx_e_le (f := g) hp
  show mRc g n al (n - p + 1) true P K o p = _
  unfold mmC mRc
  rw [if_neg (k1_no hk), if_pos c]
  by_cases c5 : tx_k g n (tx_e g n p) = 3 ∧ g (tx_a g n (tx_e g n p)) = 40
  · have hlt2 : tx_e g n p < tx_e g n (tx_e g n p) := tx_e_gt' (by omega)
    rw [if_pos c5, if_pos c5, ← RC_f (p := p) (tx_e_le hle) (by omega)]
  · rw [if_neg c5, if_neg c5]
theorem RC_mx {P K : List Int} {o : Int} {p : Nat} (hp : p ≤ n) (c0 : wl g n ws_17 p = -1) (c : ¬ wl g n ws_18 p = -1) : RC g n al true P K o p = mmC g n al 22 P K o (tx_e g n p) := by
  have hk := wl_k c
  have hlt : p < tx_e g n p := tx_e_gt' (by omega)
  have hle := tx_e_le (f := g) hp
  show mRc g n al (n - p + 1) true P K o p = _
  unfold mmC mRc
  rw [if_neg (k1_no hk), if_neg (show ¬ ¬ wl g n ws_17 p = -1 from fun r => r c0), if_pos c]
  by_cases c5 : tx_k g n (tx_e g n p) = 3 ∧ g (tx_a g n (tx_e g n p)) = 40
  · have hlt2 : tx_e g n p < tx_e g n (tx_e g n p) := tx_e_gt' (by omega)
    rw [if_pos c5, if_pos c5, ← RC_f (p := p) (tx_e_le hle) (by omega)]
  · rw [if_neg c5, if_neg c5]
theorem RC_k1 {P K : List Int} {o : Int} {p : Nat} (hp : p ≤ n) (c0 : wl g n ws_17 p = -1) (c1 : wl g n ws_18 p = -1) (c : al = 3707 ∧ ¬ wl g n ws_19 p = -1) (ho : ¬ o = 6) : RC g n al true P K o p = RC g n al true (60 :: P) K (o + 1) (tx_e g n p) := by
  have hk := wl_k c.2
  have hlt : p < tx_e g n p := tx_e_gt' (by omega)
  rw [← RC_f (p := p) (tx_e_le hp) hlt]
  rw [RC_tu, if_neg (k1_no hk), if_neg (show ¬ ¬ wl g n ws_17 p = -1 from fun r => r c0), if_neg (show ¬ ¬ wl g n ws_18 p = -1 from fun r => r c1), if_pos c, if_neg ho]
theorem RC_k6 {P K : List Int} {p : Nat} (c0 : wl g n ws_17 p = -1) (c1 : wl g n ws_18 p = -1) (c : al = 3707 ∧ ¬ wl g n ws_19 p = -1) : RC g n al true P K 6 p = .inl (4, (tx_a g n p : Int)) := by
  have hk := wl_k c.2
  rw [RC_tu, if_neg (k1_no hk), if_neg (show ¬ ¬ wl g n ws_17 p = -1 from fun r => r c0), if_neg (show ¬ ¬ wl g n ws_18 p = -1 from fun r => r c1), if_pos c, if_pos rfl]
theorem RC_at {P K : List Int} {o : Int} {p : Nat} (hp : p ≤ n) (c : ¬ (tx_k g n p = 3 ∧ g (tx_a g n p) = 40)) (c0 : wl g n ws_17 p = -1) (c1 : wl g n ws_18 p = -1) (c2 : ¬ (al = 3707 ∧ ¬ wl g n ws_19 p = -1)) : RC g n al true P K o p = bL (atM g n al p) (fun q L => RC g n al false (dE P (K ++ L) o).1 (dE P (K ++ L) o).2.1 (dE P (K ++ L) o).2.2 q) := by
  have e : bL (atM g n al p) (fun q L => RC g n al false (dE P (K ++ L) o).1 (dE P (K ++ L) o).2.1 (dE P (K ++ L) o).2.2 q) = bL (atM g n al p) (fun q L => mRc g n al (n - p) false (dE P (K ++ L) o).1 (dE P (K ++ L) o).2.1 (dE P (K ++ L) o).2.2 q) := bL_cg (fun q L e => (RC_f (p := p) (atM_ok hp e).2 (atM_ok hp e).1).symm)
  rw [e]
  rw [RC_tu, if_neg c, if_neg (show ¬ ¬ wl g n ws_17 p = -1 from fun r => r c0), if_neg (show ¬ ¬ wl g n ws_18 p = -1 from fun r => r c1), if_neg c2]
theorem RC_cl {P K : List Int} {o : Int} {p : Nat} (hp : p ≤ n) (c : tx_k g n p = 3 ∧ g (tx_a g n p) = 41) (hT : brT P = 20 ∨ brT P = 23 ∨ brT P = 24) : RC g n al false P K o p = RC g n al false (dE (dB P K).1.tail (clK (brT P) (dB P K).2) (o - 1)).1 (dE (dB P K).1.tail (clK (brT P) (dB P K).2) (o - 1)).2.1 (dE (dB P K).1.tail (clK (brT P) (dB P K).2) (o - 1)).2.2 (tx_e g n p) := by
  have hlt : p < tx_e g n p := tx_e_gt' (by omega)
  rw [← RC_f (p := p) (tx_e_le hp) hlt]
  rw [RC_fu, if_pos ⟨c, hT⟩]
theorem RC_op {P K : List Int} {o : Int} {p : Nat} (hp : p ≤ n) (c : opS g n p) : RC g n al false P K o p = RC g n al true (opC g n p :: (dO (opL g n p) P K).1) (dO (opL g n p) P K).2 o (tx_e g n p) := by
  have hk := c.1
  have hlt : p < tx_e g n p := tx_e_gt' (by omega)
  rw [← RC_f (p := p) (tx_e_le hp) hlt]
  rw [RC_fu, if_neg (fun r => by have h1 := r.1.2; have h2 := c.2; omega), if_pos (show tx_k g n p = 3 ∧ (g (tx_a g n p) = 42 ∨ g (tx_a g n p) = 47 ∨ g (tx_a g n p) = 43 ∨ g (tx_a g n p) = 45) from c)]
theorem RC_cm {P K : List Int} {o : Int} {p : Nat} (hp : p ≤ n) (c : ¬ opS g n p) (hT : brT P = 21 ∨ brT P = 22) : RC g n al false P K o p = if tx_k g n p = 3 ∧ g (tx_a g n p) = 44 then RC g n al true (cmH (dB P K).1) (dB P K).2 o (tx_e g n p) else .inl (1, (tx_a g n p : Int)) := by
  rw [RC_fu, if_neg (fun r => by have := r.2; omega), if_neg (show ¬ (tx_k g n p = 3 ∧ (g (tx_a g n p) = 42 ∨ g (tx_a g n p) = 47 ∨ g (tx_a g n p) = 43 ∨ g (tx_a g n p) = 45)) from c), if_pos hT]
  by_cases c4 : tx_k g n p = 3 ∧ g (tx_a g n p) = 44
  · have hlt : p < tx_e g n p := tx_e_gt' (by omega)
    rw [if_pos c4, if_pos c4, ← RC_f (p := p) (tx_e_le hp) hlt]
  · rw [if_neg c4, if_neg c4]
theorem RC_nd {P K : List Int} {o : Int} {p : Nat} (c : ¬ opS g n p) (hT : brT P = -1) : RC g n al false P K o p = .inr (p, K ++ P) := by
  rw [RC_fu, if_neg (fun r => by have := r.2; omega), if_neg (show ¬ (tx_k g n p = 3 ∧ (g (tx_a g n p) = 42 ∨ g (tx_a g n p) = 47 ∨ g (tx_a g n p) = 43 ∨ g (tx_a g n p) = 45)) from c), if_neg (by omega), if_pos hT]
theorem RC_bd {P K : List Int} {o : Int} {p : Nat} (c0 : ¬ (tx_k g n p = 3 ∧ g (tx_a g n p) = 41)) (c : ¬ opS g n p) (h1 : ¬ (brT P = 21 ∨ brT P = 22)) (h2 : ¬ brT P = -1) : RC g n al false P K o p = .inl (1, (tx_a g n p : Int)) := by
  rw [RC_fu, if_neg (fun r => c0 r.1), if_neg (show ¬ (tx_k g n p = 3 ∧ (g (tx_a g n p) = 42 ∨ g (tx_a g n p) = 47 ∨ g (tx_a g n p) = 43 ∨ g (tx_a g n p) = 45)) from c), if_neg h1, if_neg h2]
theorem RC_m {P K : List Int} {o m : Int} {p : Nat} (h : m = 3 ∨ m = 4) : RC g n al false (m :: P) K o p = RC g n al false P (K ++ [m]) o p := mRc_m _ P K o m p h
theorem RC_a {P K : List Int} {o a : Int} {p : Nat} (h : a = 1 ∨ a = 2) (hn : ¬ (tx_k g n p = 3 ∧ (g (tx_a g n p) = 42 ∨ g (tx_a g n p) = 47))) : RC g n al false (a :: P) K o p = RC g n al false P (K ++ [a]) o p := mRc_a _ P K o a p h hn
/-- behind the last sum in a bracket -/
theorem RC_br {x : Int} {P K : List Int} {o : Int} {p : Nat} (hp : p ≤ n) (c : ¬ opS g n p) (hx : x = 20 ∨ x = 23 ∨ x = 24) : RC g n al false (x :: P) K (o + 1) p = ndL (sp_need g n 41 p) (fun p2 => RC g n al false (dE P (clK x K) o).1 (dE P (clK x K) o).2.1 (dE P (clK x K) o).2.2 p2) := by
  have hb : brT (x :: P) = x := by
    rcases hx with e | e | e <;> (subst e; rfl)
  have hd : dB (x :: P) K = (x :: P, K) := by
    rcases hx with e | e | e <;> (subst e; rfl)
  by_cases q : tx_k g n p = 3 ∧ g (tx_a g n p) = 41
  · rw [RC_cl hp q (by rw [hb]; exact hx), hd, hb, show sp_need g n 41 p = .inr (tx_e g n p) from if_pos q, show o + 1 - 1 = o from by omega]
    rfl
  · rw [RC_bd q c (by rw [hb]; omega) (by rw [hb]; omega), show sp_need g n 41 p = .inl (1, (tx_a g n p : Int)) from if_neg q]
    rfl
/-- tops that stay -/
def tpN (lo : Int) : List Int → Prop
  | [] => True
  | x :: _ => x < 60 ∧ ¬ (lo ≤ x ∧ x ≤ 4)
theorem tpN_E {lo : Int} {P : List Int} (h : tpN lo P) (K : List Int) (k : Int) : dE P K k = (P, K, k) := by
  cases P with
  | nil => rfl
  | cons x P => exact if_pos h.1
theorem tpN_O {lo : Int} {P : List Int} (h : tpN lo P) (K : List Int) : dO lo P K = (P, K) := by
  cases P with
  | nil => rfl
  | cons x P => exact if_neg h.2
def cpP (g : Nat → Int) (n : Nat) (al : Int) (o : Int) (S : Nat → SL) : Prop := ∀ (P K : List Int) (p : Nat), p ≤ n → RC g n al true P K o p = bL (S p) (fun q L => RC g n al false (dE P (K ++ L) o).1 (dE P (K ++ L) o).2.1 (dE P (K ++ L) o).2.2 q)
def cpN (g : Nat → Int) (n : Nat) (al : Int) (o : Int) (lo : Int) (S : Nat → SL) : Prop := ∀ (P K : List Int) (p : Nat), p ≤ n → tpN lo P → RC g n al true P K o p = bL (S p) (fun q L => RC g n al false P (K ++ L) o q)
/-- where a reading ends -/
def endM (n : Nat) (Q : Nat → Prop) (S : Nat → SL) : Prop := ∀ p q L, p ≤ n → S p = .inr (q, L) → q ≤ n ∧ p < q ∧ Q q
theorem lpM_eq {o lo : Int} {S : Nat → SL} {c1 c2 o1 o2 : Int} {Q : Nat → Prop} (hE : endM n Q S) (h : ∀ x, x = o1 ∨ x = o2 → ∀ (P K : List Int) (p : Nat), p ≤ n → tpN lo P → RC g n al true (x :: P) K o p = bL (S p) (fun q L => RC g n al false P (K ++ L ++ [x]) o q)) (hc : ∀ p, (tx_k g n p = 3 ∧ g (tx_a g n p) = c1 → opS g n p ∧ opC g n p = o1 ∧ opL g n p = lo) ∧ (tx_k g n p = 3 ∧ g (tx_a g n p) = c2 → opS g n p ∧ opC g n p = o2 ∧ opL g n p = lo)) : ∀ (m : Nat) (P K L : List Int) (p : Nat), p ≤ n → tpN lo P → RC g n al false P (K ++ L) o p = bL (lpM g n S c1 c2 o1 o2 m p L) (fun q L => RC g n al false P (K ++ L) o q) := by
  intro m
  induction m with
  | zero => intro P K L p hp hT; rfl
  | succ m ih =>
    intro P K L p hp hT
    have hle := tx_e_le (f := g) hp
    have step : ∀ x, x = o1 ∨ x = o2 → opS g n p ∧ opC g n p = x ∧ opL g n p = lo → RC g n al false P (K ++ L) o p = bL (bL (S (tx_e g n p)) (fun q M => lpM g n S c1 c2 o1 o2 m q (L ++ M ++ [x]))) (fun q L => RC g n al false P (K ++ L) o q) := by
      intro x hx hop
      rw [RC_op hp hop.1, hop.2.1, hop.2.2, tpN_O hT, h x hx P (K ++ L) (tx_e g n p) hle hT]
      cases e : S (tx_e g n p) with
      | inl z => rfl
      | inr z =>
        obtain ⟨q, M⟩ := z
        have hq := hE (tx_e g n p) q M hle e
        have := ih P K (L ++ M ++ [x]) q hq.1 hT
        show RC g n al false P (K ++ L ++ M ++ [x]) o q = bL (lpM g n S c1 c2 o1 o2 m q (L ++ M ++ [x])) (fun q L => RC g n al false P (K ++ L) o q)
        rw [← this, ← List.append_assoc, ← List.append_assoc]
    unfold lpM
    by_cases q1 : tx_k g n p = 3 ∧ g (tx_a g n p) = c1
    · rw [if_pos q1]
      exact step o1 (Or.inl rfl) ((hc p).1 q1)
    · rw [if_neg q1]
      by_cases q2 : tx_k g n p = 3 ∧ g (tx_a g n p) = c2
      · rw [if_pos q2]
        exact step o2 (Or.inr rfl) ((hc p).2 q2)
      · rw [if_neg q2]
        rfl
theorem sL_eqm (m : Nat) {o lo : Int} {S : Nat → SL} {c1 c2 o1 o2 : Int} {Q : Nat → Prop} (hE : endM n Q S) (h0 : cpN g n al o lo S) (h : ∀ x, x = o1 ∨ x = o2 → ∀ (P K : List Int) (p : Nat), p ≤ n → tpN lo P → RC g n al true (x :: P) K o p = bL (S p) (fun q L => RC g n al false P (K ++ L ++ [x]) o q)) (hc : ∀ p, (tx_k g n p = 3 ∧ g (tx_a g n p) = c1 → opS g n p ∧ opC g n p = o1 ∧ opL g n p = lo) ∧ (tx_k g n p = 3 ∧ g (tx_a g n p) = c2 → opS g n p ∧ opC g n p = o2 ∧ opL g n p = lo)) : cpN g n al o lo (fun p => bL (S p) (lpM g n S c1 c2 o1 o2 m)) := by
  intro P K p hp hT
  show _ = bL (bL (S p) (lpM g n S c1 c2 o1 o2 m)) _
  rw [h0 P K p hp hT]
  cases e : S p with
  | inl z => rfl
  | inr z =>
    obtain ⟨q, L⟩ := z
    exact lpM_eq hE h hc m P K L q (hE p q L hp e).1 hT
theorem sL_eq {o lo : Int} {S : Nat → SL} {c1 c2 o1 o2 : Int} {Q : Nat → Prop} (hE : endM n Q S) (h0 : cpN g n al o lo S) (h : ∀ x, x = o1 ∨ x = o2 → ∀ (P K : List Int) (p : Nat), p ≤ n → tpN lo P → RC g n al true (x :: P) K o p = bL (S p) (fun q L => RC g n al false P (K ++ L ++ [x]) o q)) (hc : ∀ p, (tx_k g n p = 3 ∧ g (tx_a g n p) = c1 → opS g n p ∧ opC g n p = o1 ∧ opL g n p = lo) ∧ (tx_k g n p = 3 ∧ g (tx_a g n p) = c2 → opS g n p ∧ opC g n p = o2 ∧ opL g n p = lo)) : cpN g n al o lo (sL g n S c1 c2 o1 o2) := sL_eqm 1602 hE h0 h hc
theorem lpM_end {S : Nat → SL} {c1 c2 o1 o2 : Int} {Q : Nat → Prop} (hE : endM n Q S) : ∀ (m p : Nat) (L : List Int) (q : Nat) (M : List Int), p ≤ n → n - p < m → Q p → lpM g n S c1 c2 o1 o2 m p L = .inr (q, M) → q ≤ n ∧ p ≤ q ∧ Q q ∧ ¬ (tx_k g n q = 3 ∧ g (tx_a g n q) = c1) ∧ ¬ (tx_k g n q = 3 ∧ g (tx_a g n q) = c2) := by
  intro m
  induction m with
  | zero => intro p L q M hp h1; omega
  | succ m ih =>
    intro p L q M hp h1 hq
    have hle := tx_e_le (f := g) hp
    have step : ∀ x, tx_k g n p = 3 → bL (S (tx_e g n p)) (fun q K => lpM g n S c1 c2 o1 o2 m q (L ++ K ++ [x])) = .inr (q, M) → q ≤ n ∧ p ≤ q ∧ Q q ∧ ¬ (tx_k g n q = 3 ∧ g (tx_a g n q) = c1) ∧ ¬ (tx_k g n q = 3 ∧ g (tx_a g n q) = c2) := by
      intro x hk r
      have hlt : p < tx_e g n p := tx_e_gt' (by omega)
      cases e : S (tx_e g n p) with
      | inl z => rw [e] at r; cases r
      | inr z =>
        obtain ⟨p2, K⟩ := z
        rw [e] at r
        have h5 := hE (tx_e g n p) p2 K hle e
        have h6' := ih p2 _ q M h5.1 (by omega) h5.2.2 r
        exact ⟨h6'.1, by omega, h6'.2.2⟩
    unfold lpM
    by_cases q1 : tx_k g n p = 3 ∧ g (tx_a g n p) = c1
    · rw [if_pos q1]
      exact step o1 q1.1
    · rw [if_neg q1]
      by_cases q2 : tx_k g n p = 3 ∧ g (tx_a g n p) = c2
      · rw [if_pos q2]
        exact step o2 q2.1
      · rw [if_neg q2]
        intro r
        cases r
        exact ⟨hp, Nat.le_refl _, hq, q1, q2⟩
theorem sL_endm (m : Nat) (hf : 1601 < m) {S : Nat → SL} {c1 c2 o1 o2 : Int} {Q : Nat → Prop} (hn : n ≤ 1600) (hE : endM n Q S) : endM n (fun q => Q q ∧ ¬ (tx_k g n q = 3 ∧ g (tx_a g n q) = c1) ∧ ¬ (tx_k g n q = 3 ∧ g (tx_a g n q) = c2)) (fun p => bL (S p) (lpM g n S c1 c2 o1 o2 m)) := by
  intro p q M hp h
  have h : bL (S p) (lpM g n S c1 c2 o1 o2 m) = .inr (q, M) := h
  cases e : S p with
  | inl z => rw [e] at h; cases h
  | inr z =>
    obtain ⟨p2, L⟩ := z
    rw [e] at h
    have h5 := hE p p2 L hp e
    have h6' := lpM_end hE m p2 L q M h5.1 (by omega) h5.2.2 h
    exact ⟨h6'.1, by omega, h6'.2.2⟩
theorem sL_end {S : Nat → SL} {c1 c2 o1 o2 : Int} {Q : Nat → Prop} (hn : n ≤ 1600) (hE : endM n Q S) : endM n (fun q => Q q ∧ ¬ (tx_k g n q = 3 ∧ g (tx_a g n q) = c1) ∧ ¬ (tx_k g n q = 3 ∧ g (tx_a g n q) = c2)) (sL g n S c1 c2 o1 o2) := sL_endm 1602 (by decide) hn hE
end RC3
