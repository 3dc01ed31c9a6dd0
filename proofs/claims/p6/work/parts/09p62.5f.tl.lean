section TC2
variable {g : Nat → Int} {n : Nat} {al : Int}
theorem TC_tu {P K : List Int} {o : Int} {p : Nat} : TC g n al true P K o p = (if tx_k g n p = 3 ∧ g (tx_a g n p) = 91 then (if o = 6 then .inl (4, (tx_a g n p : Int)) else mTc g n al (n - p) true (25 :: P) K (o + 1) (tx_e g n p)) else if ¬ wl g n ws_15 p = -1 then (if o = 6 then .inl (4, (tx_a g n p : Int)) else mTc g n al (n - p) true (12 :: P) K (o + 1) (tx_e g n p)) else bL (fcC g n al K o p) (fun q K2 => mTc g n al (n - p) false (dN P K2 o).1 (dN P K2 o).2.1 (dN P K2 o).2.2 q)) := rfl
theorem TC_fu {P K : List Int} {o : Int} {p : Nat} : TC g n al false P K o p = (if (tx_k g n p = 3 ∧ g (tx_a g n p) = 93) ∧ tMem P = true then mTc g n al (n - p) false (dN (dS P K).1 (dS P K).2 (o - 1)).1 (dN (dS P K).1 (dS P K).2 (o - 1)).2.1 (dN (dS P K).1 (dS P K).2 (o - 1)).2.2 (tx_e g n p) else if ¬ wl g n ws_14 p = -1 then mTc g n al (n - p) true (10 :: (dA 10 P K).1) (dA 10 P K).2 o (tx_e g n p) else if ¬ wl g n ws_13 p = -1 then mTc g n al (n - p) true (11 :: (dA 11 P K).1) (dA 11 P K).2 o (tx_e g n p) else if tMem P = true then .inl (1, (tx_a g n p : Int)) else .inr (p, K ++ P)) := rfl
theorem TC_f {m : Bool} {P K : List Int} {o : Int} {p q : Nat} (hq : q ≤ n) (hp : p < q) : mTc g n al (n - p) m P K o q = TC g n al m P K o q := mTc_f _ _ _ _ _ _ _ hq (by omega) (by omega)
theorem TC_s1 {P K : List Int} {o : Int} {p : Nat} (hp : p ≤ n) (c : tx_k g n p = 3 ∧ g (tx_a g n p) = 91) (ho : ¬ o = 6) : TC g n al true P K o p = TC g n al true (25 :: P) K (o + 1) (tx_e g n p) := by
  have hlt : p < tx_e g n p := tx_e_gt' (by omega)
  rw [← TC_f (p := p) (tx_e_le hp) hlt]
  rw [TC_tu, if_pos c, if_neg ho]
theorem TC_s6 {P K : List Int} {p : Nat} (c : tx_k g n p = 3 ∧ g (tx_a g n p) = 91) : TC g n al true P K 6 p = .inl (4, (tx_a g n p : Int)) := by
  rw [TC_tu, if_pos c, if_pos rfl]
theorem TC_n1 {P K : List Int} {o : Int} {p : Nat} (hp : p ≤ n) (c : ¬ wl g n ws_15 p = -1) (ho : ¬ o = 6) : TC g n al true P K o p = TC g n al true (12 :: P) K (o + 1) (tx_e g n p) := by
  have hk := wl_k c
  have hlt : p < tx_e g n p := tx_e_gt' (by omega)
  rw [← TC_f (p := p) (tx_e_le hp) hlt]
  rw [TC_tu, if_neg (k1_no hk), if_pos c, if_neg ho]
theorem TC_n6 {P K : List Int} {p : Nat} (c : ¬ wl g n ws_15 p = -1) : TC g n al true P K 6 p = .inl (4, (tx_a g n p : Int)) := by
  have hk := wl_k c
  rw [TC_tu, if_neg (k1_no hk), if_pos c, if_pos rfl]
theorem TC_at {P K : List Int} {o : Int} {p : Nat} (hp : p ≤ n) (c : ¬ (tx_k g n p = 3 ∧ g (tx_a g n p) = 91)) (c0 : wl g n ws_15 p = -1) : TC g n al true P K o p = bL (fcC g n al K o p) (fun q K2 => TC g n al false (dN P K2 o).1 (dN P K2 o).2.1 (dN P K2 o).2.2 q) := by
  have e : bL (fcC g n al K o p) (fun q K2 => TC g n al false (dN P K2 o).1 (dN P K2 o).2.1 (dN P K2 o).2.2 q) = bL (fcC g n al K o p) (fun q K2 => mTc g n al (n - p) false (dN P K2 o).1 (dN P K2 o).2.1 (dN P K2 o).2.2 q) := bL_cg (fun q L e => (TC_f (p := p) (fcC_ok hp e).1 (fcC_ok hp e).2).symm)
  rw [e]
  rw [TC_tu, if_neg c, if_neg (show ¬ ¬ wl g n ws_15 p = -1 from fun r => r c0)]
theorem TC_cl {P K : List Int} {o : Int} {p : Nat} (hp : p ≤ n) (c : tx_k g n p = 3 ∧ g (tx_a g n p) = 93) (hm : tMem P = true) : TC g n al false P K o p = TC g n al false (dN (dS P K).1 (dS P K).2 (o - 1)).1 (dN (dS P K).1 (dS P K).2 (o - 1)).2.1 (dN (dS P K).1 (dS P K).2 (o - 1)).2.2 (tx_e g n p) := by
  have hlt : p < tx_e g n p := tx_e_gt' (by omega)
  rw [← TC_f (p := p) (tx_e_le hp) hlt]
  rw [TC_fu, if_pos ⟨c, hm⟩]
theorem TC_an {P K : List Int} {o : Int} {p : Nat} (hp : p ≤ n) (c : ¬ wl g n ws_14 p = -1) : TC g n al false P K o p = TC g n al true (10 :: (dA 10 P K).1) (dA 10 P K).2 o (tx_e g n p) := by
  have hk := wl_k c
  have hlt : p < tx_e g n p := tx_e_gt' (by omega)
  rw [← TC_f (p := p) (tx_e_le hp) hlt]
  rw [TC_fu, if_neg (fun r => k1_no hk r.1), if_pos c]
theorem TC_or {P K : List Int} {o : Int} {p : Nat} (hp : p ≤ n) (c0 : wl g n ws_14 p = -1) (c : ¬ wl g n ws_13 p = -1) : TC g n al false P K o p = TC g n al true (11 :: (dA 11 P K).1) (dA 11 P K).2 o (tx_e g n p) := by
  have hk := wl_k c
  have hlt : p < tx_e g n p := tx_e_gt' (by omega)
  rw [← TC_f (p := p) (tx_e_le hp) hlt]
  rw [TC_fu, if_neg (fun r => k1_no hk r.1), if_neg (show ¬ ¬ wl g n ws_14 p = -1 from fun r => r c0), if_pos c]
theorem TC_bd {P K : List Int} {o : Int} {p : Nat} (c0 : ¬ (tx_k g n p = 3 ∧ g (tx_a g n p) = 93)) (c : ¬ jnW g n p) (hm : tMem P = true) : TC g n al false P K o p = .inl (1, (tx_a g n p : Int)) := by
  rw [TC_fu, if_neg (fun r => c0 r.1), if_neg (fun r => c (Or.inl r)), if_neg (fun r => c (Or.inr r)), if_pos hm]
theorem TC_nd {P K : List Int} {o : Int} {p : Nat} (c : ¬ jnW g n p) (hm : tMem P = false) : TC g n al false P K o p = .inr (p, K ++ P) := by
  rw [TC_fu, if_neg (fun r => Bool.noConfusion (hm.symm.trans r.2)), if_neg (fun r => c (Or.inl r)), if_neg (fun r => c (Or.inr r)), if_neg (fun r => Bool.noConfusion (hm.symm.trans r))]
theorem TC_10 {P K : List Int} {o : Int} {p : Nat} : TC g n al false (10 :: P) K o p = TC g n al false P (K ++ [10]) o p := by
  show mTc g n al (n - p + 1) false (10 :: P) K o p = mTc g n al (n - p + 1) false P (K ++ [10]) o p
  have e1 : tMem (10 :: P) = tMem P := rfl
  have e2 : dS (10 :: P) K = dS P (K ++ [10]) := rfl
  have e3 : dA 10 (10 :: P) K = dA 10 P (K ++ [10]) := rfl
  have e4 : dA 11 (10 :: P) K = dA 11 P (K ++ [10]) := rfl
  unfold mTc
  rw [e1, e2, e3, e4, List.append_assoc]
  rfl
theorem TC_11 {P K : List Int} {o : Int} {p : Nat} (c : wl g n ws_14 p = -1) : TC g n al false (11 :: P) K o p = TC g n al false P (K ++ [11]) o p := by
  show mTc g n al (n - p + 1) false (11 :: P) K o p = mTc g n al (n - p + 1) false P (K ++ [11]) o p
  have e1 : tMem (11 :: P) = tMem P := rfl
  have e2 : dS (11 :: P) K = dS P (K ++ [11]) := rfl
  have e4 : dA 11 (11 :: P) K = dA 11 P (K ++ [11]) := rfl
  unfold mTc
  rw [e1, e2, e4, if_neg (show ¬ ¬ wl g n ws_14 p = -1 from fun r => r c), if_neg (show ¬ ¬ wl g n ws_14 p = -1 from fun r => r c), List.append_assoc]
  rfl
/-- behind the last fact in a square -/
theorem TC_sq {P K : List Int} {o : Int} {p : Nat} (hp : p ≤ n) (c : ¬ jnW g n p) : TC g n al false (25 :: P) K (o + 1) p = ndL (sp_need g n 93 p) (fun p2 => TC g n al false (dN P K o).1 (dN P K o).2.1 (dN P K o).2.2 p2) := by
  have hm : tMem (25 :: P) = true := rfl
  have hd : dS (25 :: P) K = (P, K) := rfl
  by_cases q : tx_k g n p = 3 ∧ g (tx_a g n p) = 93
  · rw [TC_cl hp q hm, hd, show sp_need g n 93 p = .inr (tx_e g n p) from if_pos q, show o + 1 - 1 = o from by omega]
    rfl
  · rw [TC_bd q c hm, show sp_need g n 93 p = .inl (1, (tx_a g n p : Int)) from if_neg q]
    rfl
def tpA (hi : Int) : List Int → Prop
  | [] => True
  | x :: _ => ¬ x = 12 ∧ ¬ (10 ≤ x ∧ x ≤ hi)
theorem tpA_N {hi : Int} {P : List Int} (h : tpA hi P) (K : List Int) (k : Int) : dN P K k = (P, K, k) := by
  cases P with
  | nil => rfl
  | cons x P => exact if_neg h.1
theorem tpA_A {hi : Int} {P : List Int} (h : tpA hi P) (K : List Int) : dA hi P K = (P, K) := by
  cases P with
  | nil => rfl
  | cons x P => exact if_neg h.2
def cfP (g : Nat → Int) (n : Nat) (al : Int) (o : Int) (S : Nat → SL) : Prop := ∀ (P K : List Int) (p : Nat), p ≤ n → TC g n al true P K o p = bL (S p) (fun q L => TC g n al false (dN P (K ++ L) o).1 (dN P (K ++ L) o).2.1 (dN P (K ++ L) o).2.2 q)
def cfN (g : Nat → Int) (n : Nat) (al : Int) (o : Int) (hi : Int) (S : Nat → SL) : Prop := ∀ (P K : List Int) (p : Nat), p ≤ n → tpA hi P → TC g n al true P K o p = bL (S p) (fun q L => TC g n al false P (K ++ L) o q)
theorem lvM_eq {o hi x : Int} {S : Nat → SL} {ws : List (List Int)} {Q : Nat → Prop} (hE : endM n Q S) (h : ∀ (P K : List Int) (p : Nat), p ≤ n → tpA hi P → TC g n al true (x :: P) K o p = bL (S p) (fun q L => TC g n al false P (K ++ L ++ [x]) o q)) (hc : ∀ (P K : List Int) (p : Nat), p ≤ n → Q p → ¬ wl g n ws p = -1 → TC g n al false P K o p = TC g n al true (x :: (dA hi P K).1) (dA hi P K).2 o (tx_e g n p)) : ∀ (m : Nat) (P K L : List Int) (p : Nat), p ≤ n → Q p → tpA hi P → TC g n al false P (K ++ L) o p = bL (lvM g n S ws x m p L) (fun q L => TC g n al false P (K ++ L) o q) := by
  intro m
  induction m with
  | zero => intro P K L p hp hQ hT; rfl
  | succ m ih =>
    intro P K L p hp hQ hT
    have hle := tx_e_le (f := g) hp
    unfold lvM
    by_cases q1 : wl g n ws p = -1
    · rw [if_pos q1]
      rfl
    · rw [if_neg q1, hc P (K ++ L) p hp hQ q1, tpA_A hT, h P (K ++ L) (tx_e g n p) hle hT]
      cases e : S (tx_e g n p) with
      | inl z => rfl
      | inr z =>
        obtain ⟨q, M⟩ := z
        have hq := hE (tx_e g n p) q M hle e
        have := ih P K (L ++ M ++ [x]) q hq.1 hq.2.2 hT
        show TC g n al false P (K ++ L ++ M ++ [x]) o q = bL (lvM g n S ws x m q (L ++ M ++ [x])) (fun q L => TC g n al false P (K ++ L) o q)
        rw [← this, ← List.append_assoc, ← List.append_assoc]
theorem vL_eqm (m : Nat) {o hi x : Int} {S : Nat → SL} {ws : List (List Int)} {Q : Nat → Prop} (hE : endM n Q S) (h0 : cfN g n al o hi S) (h : ∀ (P K : List Int) (p : Nat), p ≤ n → tpA hi P → TC g n al true (x :: P) K o p = bL (S p) (fun q L => TC g n al false P (K ++ L ++ [x]) o q)) (hc : ∀ (P K : List Int) (p : Nat), p ≤ n → Q p → ¬ wl g n ws p = -1 → TC g n al false P K o p = TC g n al true (x :: (dA hi P K).1) (dA hi P K).2 o (tx_e g n p)) : cfN g n al o hi (fun p => bL (S p) (lvM g n S ws x m)) := by
  intro P K p hp hT
  show _ = bL (bL (S p) (lvM g n S ws x m)) _
  rw [h0 P K p hp hT]
  cases e : S p with
  | inl z => rfl
  | inr z =>
    obtain ⟨q, L⟩ := z
    have h5 := hE p q L hp e
    exact lvM_eq hE h hc m P K L q h5.1 h5.2.2 hT
theorem vL_eq {o hi x : Int} {S : Nat → SL} {ws : List (List Int)} {Q : Nat → Prop} (hE : endM n Q S) (h0 : cfN g n al o hi S) (h : ∀ (P K : List Int) (p : Nat), p ≤ n → tpA hi P → TC g n al true (x :: P) K o p = bL (S p) (fun q L => TC g n al false P (K ++ L ++ [x]) o q)) (hc : ∀ (P K : List Int) (p : Nat), p ≤ n → Q p → ¬ wl g n ws p = -1 → TC g n al false P K o p = TC g n al true (x :: (dA hi P K).1) (dA hi P K).2 o (tx_e g n p)) : cfN g n al o hi (vL g n S ws x) := vL_eqm 1602 hE h0 h hc
theorem lvM_end {S : Nat → SL} {ws : List (List Int)} {x : Int} {Q : Nat → Prop} (hE : endM n Q S) : ∀ (m p : Nat) (L : List Int) (q : Nat) (M : List Int), p ≤ n → n - p < m → Q p → lvM g n S ws x m p L = .inr (q, M) → q ≤ n ∧ p ≤ q ∧ Q q ∧ wl g n ws q = -1 := by
  intro m
  induction m with
  | zero => intro p L q M hp h1; omega
  | succ m ih =>
    intro p L q M hp h1 hq
    have hle := tx_e_le (f := g) hp
    unfold lvM
    by_cases q1 : wl g n ws p = -1
    · rw [if_pos q1]
      intro r
      cases r
      exact ⟨hp, Nat.le_refl _, hq, q1⟩
    · rw [if_neg q1]
      intro r
      have hlt : p < tx_e g n p := tx_e_gt' (by have := wl_k q1; omega)
      cases e : S (tx_e g n p) with
      | inl z => rw [e] at r; cases r
      | inr z =>
        obtain ⟨p2, K⟩ := z
        rw [e] at r
        have h5 := hE (tx_e g n p) p2 K hle e
        have h6' := ih p2 _ q M h5.1 (by omega) h5.2.2 r
        exact ⟨h6'.1, by omega, h6'.2.2⟩
theorem vL_endm (m : Nat) (hf : 1601 < m) {S : Nat → SL} {ws : List (List Int)} {x : Int} {Q : Nat → Prop} (hn : n ≤ 1600) (hE : endM n Q S) : endM n (fun q => Q q ∧ wl g n ws q = -1) (fun p => bL (S p) (lvM g n S ws x m)) := by
  intro p q M hp h
  have h : bL (S p) (lvM g n S ws x m) = .inr (q, M) := h
  cases e : S p with
  | inl z => rw [e] at h; cases h
  | inr z =>
    obtain ⟨p2, L⟩ := z
    rw [e] at h
    have h5 := hE p p2 L hp e
    have h6' := lvM_end hE m p2 L q M h5.1 (by omega) h5.2.2 h
    exact ⟨h6'.1, by omega, h6'.2.2⟩
theorem vL_end {S : Nat → SL} {ws : List (List Int)} {x : Int} {Q : Nat → Prop} (hn : n ≤ 1600) (hE : endM n Q S) : endM n (fun q => Q q ∧ wl g n ws q = -1) (vL g n S ws x) := vL_endm 1602 (by decide) hn hE
theorem testC_cl {o : Int} {S : Nat → SL} (hn : n ≤ 1600) (h : cfP g n al o S) (hE : endM n (fun _ => True) S) : cfN g n al o 11 (vL g n (vL g n S ws_14 10) ws_13 11) ∧ endM n (fun q => ¬ jnW g n q) (vL g n (vL g n S ws_14 10) ws_13 11) := by
  have hN : ∀ hi, cfN g n al o hi S := fun hi P K p hp hT => by
    rw [h P K p hp]
    exact bL_cg (fun q L _ => by rw [tpA_N hT])
  have hM : ∀ (P K : List Int) (p : Nat), p ≤ n → tpA 10 P → TC g n al true (10 :: P) K o p = bL (S p) (fun q L => TC g n al false P (K ++ L ++ [10]) o q) := by
    intro P K p hp hT
    rw [h (10 :: P) K p hp]
    refine bL_cg (fun q L _ => ?_)
    rw [show dN (10 :: P) (K ++ L) o = (10 :: P, K ++ L, o) from if_neg (by decide)]
    exact TC_10
  have hpr : cfN g n al o 10 (vL g n S ws_14 10) := vL_eq hE (hN 10) hM (fun P K p hp _ c => TC_an hp c)
  have hpE := vL_end (g := g) (ws := ws_14) (x := 10) hn hE
  have hA : ∀ (P K : List Int) (p : Nat), p ≤ n → tpA 11 P → TC g n al true (11 :: P) K o p = bL (vL g n S ws_14 10 p) (fun q L => TC g n al false P (K ++ L ++ [11]) o q) := by
    intro P K p hp hT
    rw [hpr (11 :: P) K p hp ⟨by decide, by decide⟩]
    refine bL_cg (fun q L e => ?_)
    exact TC_11 (hpE p q L hp e).2.2.2
  refine ⟨vL_eq hpE (fun P K p hp hT => hpr P K p hp ?_) hA (fun P K p hp hQ c => TC_or hp hQ.2 c), ?_⟩
  · cases P with
    | nil => exact True.intro
    | cons x P => exact ⟨hT.1, fun r => hT.2 ⟨r.1, by omega⟩⟩
  · have hsE := vL_end (g := g) (ws := ws_13) (x := 11) hn hpE
    intro p q L hp e
    obtain ⟨a1, a2, a3, a4⟩ := hsE p q L hp e
    exact ⟨a1, a2, fun r => r.elim (fun r => r a3.2) (fun r => r a4)⟩
theorem fcC_eq (hn : n ≤ 1600) (d : Nat) (hd : d ≤ 6) (K : List Int) {p : Nat} (hp : p ≤ n) (k : Nat → List Int → SL) : bL (fcC g n al K (6 - (d : Int)) p) k = bL (if ¬ wl g n ws_16 p = -1 then .inr (tx_e g n p, [13]) else cmpM g n (mSum g n al d) p) (fun q L => k q (K ++ L)) := by
  unfold fcC cmpM
  by_cases q : wl g n ws_16 p = -1
  · rw [if_neg (fun r => r q), if_neg (fun r => r q), sumC_eq hn d hd p K hp]
    have hE := (S_allC (g := g) (al := al) hn d hd).2
    cases e1 : mSum g n al d p with
    | inl z => rfl
    | inr z =>
      obtain ⟨p1, L1⟩ := z
      have l1 := hE p p1 L1 hp e1
      show bL (ndL (sp_sg g n p1).2 (fun p2 => bL (RC g n al true [] (K ++ L1) (6 - (d : Int)) p2) (fun q K2 => .inr (q, K2 ++ [-19 - (sp_sg g n p1).1])))) k = bL (ndL (sp_sg g n p1).2 (fun q2 => bL (mSum g n al d q2) (fun q3 M => .inr (q3, L1 ++ M ++ [-19 - (sp_sg g n p1).1])))) (fun q L => k q (K ++ L))
      cases e2 : (sp_sg g n p1).2 with
      | inl z => rfl
      | inr p2 =>
        have l2n : p2 ≤ n := sv_le (sp_sg_v (g := g) l1.1) e2
        show bL (bL (RC g n al true [] (K ++ L1) (6 - (d : Int)) p2) (fun q K2 => .inr (q, K2 ++ [-19 - (sp_sg g n p1).1]))) k = bL (bL (mSum g n al d p2) (fun q3 M => .inr (q3, L1 ++ M ++ [-19 - (sp_sg g n p1).1]))) (fun q L => k q (K ++ L))
        rw [sumC_eq hn d hd p2 (K ++ L1) l2n]
        cases e3 : mSum g n al d p2 with
        | inl z => rfl
        | inr z =>
          obtain ⟨p3, M⟩ := z
          show k p3 (K ++ L1 ++ M ++ [-19 - (sp_sg g n p1).1]) = k p3 (K ++ (L1 ++ M ++ [-19 - (sp_sg g n p1).1]))
          rw [← List.append_assoc, ← List.append_assoc]
  · rw [if_pos q, if_pos q]
    rfl
theorem factC_eq (hn : n ≤ 1600) {b : Bool} {T1 F1 : Nat → SL} {d : Nat} (hd : d ≤ 6) (h6 : b = false → 6 - (d : Int) = 6) (h7 : b = true → ¬ 6 - (d : Int) = 6 ∧ cfN g n al (6 - (d : Int) + 1) 11 T1 ∧ endM n (fun q => ¬ jnW g n q) T1) (h8 : b = true → cfP g n al (6 - (d : Int) + 1) F1) : cfP g n al (6 - (d : Int)) (factM g n b (mSum g n al d) T1 F1) := by
  intro P K p hp
  have hle := tx_e_le (f := g) hp
  unfold factM
  by_cases q0 : wl g n ws_15 p = -1
  · rw [if_neg (show ¬ ¬ wl g n ws_15 p = -1 from fun r => r q0)]
    by_cases q1 : tx_k g n p = 3 ∧ g (tx_a g n p) = 91
    · rw [if_pos q1]
      unfold opnM
      cases b with
      | false =>
        rw [h6 rfl, TC_s6 q1, if_neg (fun r => Bool.noConfusion r)]
        rfl
      | true =>
        obtain ⟨ho, hM, hE⟩ := h7 rfl
        rw [TC_s1 hp q1 ho, if_pos rfl, hM (25 :: P) K (tx_e g n p) hle ⟨by decide, by decide⟩]
        show _ = bL (bL (T1 (tx_e g n p)) _) _
        cases e1 : T1 (tx_e g n p) with
        | inl z => rfl
        | inr z =>
          obtain ⟨q, L⟩ := z
          obtain ⟨l1, _, o1⟩ := hE (tx_e g n p) q L hle e1
          show TC g n al false (25 :: P) (K ++ L) (6 - (d : Int) + 1) q = bL (needM g n 93 q L) _
          rw [TC_sq l1 o1]
          unfold needM
          cases sp_need g n 93 q with
          | inl z => rfl
          | inr z => rfl
    · rw [if_neg q1, TC_at hp q1 q0]
      exact fcC_eq hn d hd K hp _
  · rw [if_pos q0]
    unfold opnM
    cases b with
    | false =>
      rw [h6 rfl, TC_n6 q0, if_neg (fun r => Bool.noConfusion r)]
      rfl
    | true =>
      rw [TC_n1 hp q0 (h7 rfl).1, if_pos rfl, h8 rfl (12 :: P) K (tx_e g n p) hle]
      show _ = bL (bL (F1 (tx_e g n p)) _) _
      cases e1 : F1 (tx_e g n p) with
      | inl z => rfl
      | inr z =>
        obtain ⟨q, L⟩ := z
        have e9 : dN (12 :: P) (K ++ L) (6 - (d : Int) + 1) = dN P (K ++ (L ++ [12])) (6 - (d : Int)) := by
          show (if (12 : Int) = 12 then dN P (K ++ L ++ [12]) (6 - (d : Int) + 1 - 1) else _) = _
          rw [if_pos rfl, show 6 - (d : Int) + 1 - 1 = 6 - (d : Int) from by omega, List.append_assoc]
        show TC g n al false (dN (12 :: P) (K ++ L) (6 - (d : Int) + 1)).1 (dN (12 :: P) (K ++ L) (6 - (d : Int) + 1)).2.1 (dN (12 :: P) (K ++ L) (6 - (d : Int) + 1)).2.2 q = _
        rw [e9]
        rfl
theorem fact_endM (d : Nat) : endM n (fun _ => True) (mFact g n al d) := rlA_end (fact_r d) (sFact_ok d) (fun _ _ _ _ _ => True.intro)
theorem F_allC (hn : n ≤ 1600) : ∀ d : Nat, d ≤ 6 → cfP g n al (6 - (d : Int)) (mFact g n al d)
  | 0, _ => factC_eq hn (d := 0) (by omega) (fun _ => rfl) (fun r => Bool.noConfusion r) (fun r => Bool.noConfusion r)
  | d + 1, hd => by
    have h1 := F_allC hn d (by omega)
    have e : (6 - ((d + 1 : Nat) : Int)) + 1 = 6 - (d : Int) := by omega
    have h2 := testC_cl hn h1 (fact_endM d)
    refine factC_eq hn hd (fun r => Bool.noConfusion r) (fun _ => ⟨by omega, ?_⟩) (fun _ => ?_)
    · rw [e]
      exact h2
    · rw [e]
      exact h1
/-- a test's codes read by the machine are those read level by level -/
theorem testC_eq (hn : n ≤ 1600) (d : Nat) (hd : d ≤ 6) (p : Nat) (K : List Int) (hp : p ≤ n) : TC g n al true [] K (6 - (d : Int)) p = bL (mTest g n al d p) (fun q L => .inr (q, K ++ L)) := by
  have h := testC_cl (g := g) (al := al) hn (F_allC hn d hd) (fact_endM d)
  rw [h.1 [] K p hp True.intro]
  show bL (mTest g n al d p) _ = _
  refine bL_cg (fun q L e => ?_)
  have h2 := h.2 p q L hp e
  rw [TC_nd h2.2.2 rfl, List.append_nil]
end TC2
