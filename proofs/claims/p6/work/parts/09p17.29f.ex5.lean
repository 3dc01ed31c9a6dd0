/-! facts -/
def lf3 {α : Type} (o : Int × Int × Int) (k : Int → Int → Int → α) : α := lf_p o (fun a t => lf_p t (fun b d => k a b d))
def lf6 {α : Type} (o : Int × Int × Int × Int × Int × Int) (k : Int → Int → Int → Int → Int → Int → α) : α := lf_p o (fun r t => lf5 t (fun a b d f q => k r a b d f q))
theorem lf3_e {α : Type} (a b d : Int) (k : Int → Int → Int → α) : lf3 (a, b, d) k = k a b d := rfl
theorem lf6_e {α : Type} (r a b d f q : Int) (k : Int → Int → Int → Int → Int → Int → α) : lf6 (r, a, b, d, f, q) k = k r a b d f q := rfl
/-- a sign that compares, taken -/
def sp_sg (g : Nat → Int) (n p : Nat) : Int × ST := if tx_k g n p = 3 ∧ g (tx_a g n p) = 60 then (-26, .inr (tx_e g n p)) else if tx_k g n p = 3 ∧ g (tx_a g n p) = 62 then (-27, .inr (tx_e g n p)) else if tx_k g n p = 3 ∧ g (tx_a g n p) = 61 then (-28, .inr (tx_e g n p)) else (-28, .inl (1, (tx_a g n p : Int)))
def gSg {α : Type} (g : Nat → Int) (n a b d f q : Int) (k : Int → Int → Int → Int → Int → Int → α) : α := lf6 (F_X5_signHere g n a b d f q) (fun r a3 b3 d3 f3 q3 => (lf3 (F_X5_moveTo g n b3) (fun a4 b4 d4 => k r a4 b4 d4 f3 q3)))
theorem gSg_s {α : Type} {g : Nat → Int} {n : Nat} {s : ST} {k : Int → Int → Int → Int → Int → Int → α} (hn : n ≤ 1600) (hv : sv n s) : gSg g (n : Int) (cst g n s).1 (cst g n s).2.1 (cst g n s).2.2.1 (cst g n s).2.2.2.1 (cst g n s).2.2.2.2 k = k (sbv s (sp_sg g n) (-28)).1 (cst g n (sbv s (sp_sg g n) (-28)).2).1 (cst g n (sbv s (sp_sg g n) (-28)).2).2.1 (cst g n (sbv s (sp_sg g n) (-28)).2).2.2.1 (cst g n (sbv s (sp_sg g n) (-28)).2).2.2.2.1 (cst g n (sbv s (sp_sg g n) (-28)).2).2.2.2.2 := by
  unfold gSg F_X5_signHere F_X5_signHere_42
  cases s with
  | inl q =>
    show lf6 (lf_b (F_X5_sees g (n : Int) (0 : Int) (60 : Int)) _) _ = _
    rw [lf_b_e, cl_seen, if_pos rfl, lf_b_e]
    show lf6 (if F_X5_sees g (n : Int) (0 : Int) (62 : Int) = (0 : Int) then _ else _) _ = _
    rw [cl_seen, if_pos rfl, lf_b_e]
    show lf6 (if F_X5_sees g (n : Int) (0 : Int) (61 : Int) = (0 : Int) then (lf_p (F_X5_fail q.1 q.2 (1 : Int) (n : Int)) _) else _) _ = _
    rw [cl_seen, if_pos rfl, cl_fail1 hv, lf_p_e, lf6_e, cl_mvn hn, lf3_e]
    rfl
  | inr p =>
    show lf6 (lf_b (F_X5_sees g (tx_a g n p : Int) (tx_k g n p : Int) (60 : Int)) _) _ = k (sp_sg g n p).1 (cst g n (sp_sg g n p).2).1 (cst g n (sp_sg g n p).2).2.1 (cst g n (sp_sg g n p).2).2.2.1 (cst g n (sp_sg g n p).2).2.2.2.1 (cst g n (sp_sg g n p).2).2.2.2.2
    unfold sp_sg
    rw [lf_b_e]
    by_cases q1 : tsn g n 60 p
    · rw [cl_see1 q1, if_neg (show ¬ (1 : Int) = 0 from by decide), if_pos (show tx_k g n p = 3 ∧ g (tx_a g n p) = 60 from q1), lf6_e]
      show lf3 (F_X5_moveTo g (n : Int) (tx_e g n p : Int)) _ = _
      rw [cl_mve hn hv, lf3_e]
      rfl
    · rw [cl_see0 q1, if_pos rfl, if_neg (show ¬ (tx_k g n p = 3 ∧ g (tx_a g n p) = 60) from q1), lf_b_e]
      show lf6 (if F_X5_sees g (tx_a g n p : Int) (tx_k g n p : Int) (62 : Int) = (0 : Int) then _ else _) _ = _
      by_cases q2 : tsn g n 62 p
      · rw [cl_see1 q2, if_neg (show ¬ (1 : Int) = 0 from by decide), if_pos (show tx_k g n p = 3 ∧ g (tx_a g n p) = 62 from q2), lf6_e]
        show lf3 (F_X5_moveTo g (n : Int) (tx_e g n p : Int)) _ = _
        rw [cl_mve hn hv, lf3_e]
        rfl
      · rw [cl_see0 q2, if_pos rfl, if_neg (show ¬ (tx_k g n p = 3 ∧ g (tx_a g n p) = 62) from q2), lf_b_e]
        show lf6 (if F_X5_sees g (tx_a g n p : Int) (tx_k g n p : Int) (61 : Int) = (0 : Int) then (lf_p (F_X5_fail (0 : Int) (-1 : Int) (1 : Int) (tx_a g n p : Int)) _) else _) _ = _
        by_cases q3 : tsn g n 61 p
        · rw [cl_see1 q3, if_neg (show ¬ (1 : Int) = 0 from by decide), if_pos (show tx_k g n p = 3 ∧ g (tx_a g n p) = 61 from q3), lf6_e]
          show lf3 (F_X5_moveTo g (n : Int) (tx_e g n p : Int)) _ = _
          rw [cl_mve hn hv, lf3_e]
          rfl
        · rw [cl_see0 q3, if_pos rfl, if_neg (show ¬ (tx_k g n p = 3 ∧ g (tx_a g n p) = 61) from q3), cl_fail0, lf_p_e, lf6_e, cl_mvn hn, lf3_e]
          rfl
theorem sp_sg_v {g : Nat → Int} {n p : Nat} (hp : p ≤ n) : sv n (sp_sg g n p).2 := by
  unfold sp_sg
  split
  · exact tx_e_le hp
  · split
    · exact tx_e_le hp
    · split
      · exact tx_e_le hp
      · exact sv_l (by decide)
theorem sp_sg_gt {g : Nat → Int} {n p q : Nat} (h : (sp_sg g n p).2 = .inr q) : p < q := by
  unfold sp_sg at h
  split at h
  · rename_i r
    cases h
    exact tx_e_gt' (by have := r.1; omega)
  · split at h
    · rename_i r
      cases h
      exact tx_e_gt' (by have := r.1; omega)
    · split at h
      · rename_i r
        cases h
        exact tx_e_gt' (by have := r.1; omega)
      · cases h
def gCmp (g : Nat → Int) (n : Int) (S : XF) : XF := fun a b d cd sz fa pl => (lf7 (S a b d cd sz fa pl) (fun a2 b2 d2 f2 q2 z2 w2 => (gSg g n a2 b2 d2 f2 q2 (fun r a4 b4 d4 f3 q3 => (lf7 (S a4 b4 d4 w2 z2 f3 q3) (fun a5 b5 d5 f5 q5 z5 w5 => (lf_p (F_X5_emit w5 z5 r) (fun z6 w6 => tup7 a5 b5 d5 f5 q5 z6 w6))))))))
def spCmp (g : Nat → Int) (n : Nat) (S : Nat → CD → ST × CD) (p : Nat) (c : CD) : ST × CD := ((sbC (sbv (S p c).1 (sp_sg g n) (-28)).2 (S p c).2 S).1, em (sbC (sbv (S p c).1 (sp_sg g n) (-28)).2 (S p c).2 S).2 (sbv (S p c).1 (sp_sg g n) (-28)).1)
theorem cmp_ok {g : Nat → Int} {n : Nat} {S : Nat → CD → ST × CD} (h : okR n S) : okR n (spCmp g n S) := by
  intro p c hp
  have h1 := h p c hp
  unfold spCmp
  show sv n (sbC (sbv (S p c).1 (sp_sg g n) (-28)).2 (S p c).2 S).1 ∧ ∀ q, (sbC (sbv (S p c).1 (sp_sg g n) (-28)).2 (S p c).2 S).1 = .inr q → p < q
  cases e1 : (S p c).1 with
  | inl q0 =>
    rw [e1] at h1
    exact ⟨h1.1, fun q r => by cases r⟩
  | inr p1 =>
    rw [e1] at h1
    have l1 := h1.2 p1 rfl
    show sv n (sbC (sp_sg g n p1).2 (S p c).2 S).1 ∧ ∀ q, (sbC (sp_sg g n p1).2 (S p c).2 S).1 = .inr q → p < q
    have h2 := sp_sg_v (g := g) h1.1
    cases e2 : (sp_sg g n p1).2 with
    | inl q0 =>
      rw [e2] at h2
      exact ⟨h2, fun q r => by cases r⟩
    | inr p2 =>
      rw [e2] at h2
      have l2 := sp_sg_gt e2
      have h3 := h p2 (S p c).2 h2
      exact ⟨h3.1, fun q r => by have := h3.2 q r; omega⟩
theorem gCmp_m {g : Nat → Int} {n : Nat} {X : XF} {S : Nat → CD → ST × CD} (hn : n ≤ 1600) (hX : meets g n X S) (hS : okR n S) : meets g n (gCmp g (n : Int) X) (spCmp g n S) := by
  have key : ∀ (s : ST) (c : CD) (r1 : ST × CD) (d1 : CD), sv n r1.1 → (∀ q, r1.1 = .inr q → d1 = r1.2) → tellC g n (gSg g (n : Int) (cst g n r1.1).1 (cst g n r1.1).2.1 (cst g n r1.1).2.2.1 (cst g n r1.1).2.2.2.1 (cst g n r1.1).2.2.2.2 (fun r a4 b4 d4 f3 q3 => (lf7 (X a4 b4 d4 d1.2 d1.1 f3 q3) (fun a5 b5 d5 f5 q5 z5 w5 => (lf_p (F_X5_emit w5 z5 r) (fun z6 w6 => tup7 a5 b5 d5 f5 q5 z6 w6)))))) ((sbC (sbv r1.1 (sp_sg g n) (-28)).2 r1.2 S).1, em (sbC (sbv r1.1 (sp_sg g n) (-28)).2 r1.2 S).2 (sbv r1.1 (sp_sg g n) (-28)).1) := by
    intro s c r1 d1 hv he
    rw [gSg_s hn hv]
    have hv2 : sv n (sbv r1.1 (sp_sg g n) (-28)).2 := sbv_v hv (fun _ hp => sp_sg_v hp)
    obtain ⟨d2, e5, e6⟩ := run_sub hX (c := d1) (c' := r1.2) hv2 (fun q r => by
      cases e : r1.1 with
      | inl q0 => rw [e] at r; cases r
      | inr p1 => exact he p1 e)
    show tellC g n (lf7 (runX g n X (sbv r1.1 (sp_sg g n) (-28)).2 d1) _) _
    rw [e5]
    rw [lf7_e]
    exact ⟨em d2 (sbv r1.1 (sp_sg g n) (-28)).1, rfl, fun q r => by rw [e6 q r]⟩
  intro s c hv
  obtain ⟨d1, e1, e2⟩ := hX s c hv
  unfold runX gCmp
  unfold runX at e1
  rw [e1, lf7_e]
  cases s with
  | inl q =>
    obtain ⟨d, e3, e4⟩ := key (.inl q) c (.inl q, c) d1 hv (fun q r => by cases r)
    exact ⟨d, e3, fun q r => by cases r⟩
  | inr p => exact key (.inr p) c (S p c) d1 (hS p c hv).1 e2
def gFact (g : Nat → Int) (n : Int) (S T Fq : XF) : XF := fun xa be so cd sz fa pl => lf_b (F_X5_wordIn_s15 g xa be so) (fun r1 => (if r1 = (-1 : Int) then (lf_b (F_X5_sees g xa so (91 : Int)) (fun r2 => (if r2 = (0 : Int) then (lf4 (F_X5_takeWord_s16 g n xa be so) (fun r3 a b d => (if r3 = (0 : Int) then gCmp g n S a b d cd sz fa pl else (lf_p (F_X5_emit cd sz (1 : Int)) (fun z w => tup7 a b d fa pl z w))))) else (lf4 (gEnt g n be) (fun _ a b d => (lf7 (T a b d cd sz fa pl) (fun a2 b2 d2 f2 q2 z2 w2 => (lf5 (F_X5_need g n a2 b2 d2 f2 q2 (93 : Int)) (fun a3 b3 d3 f3 q3 => tup7 a3 b3 d3 f3 q3 z2 w2))))))))) else (lf4 (gEnt g n be) (fun _ a b d => (lf7 (Fq a b d cd sz fa pl) (fun a2 b2 d2 f2 q2 z2 w2 => (lf_p (F_X5_emit w2 z2 (-31 : Int)) (fun z3 w3 => tup7 a2 b2 d2 f2 q2 z3 w3))))))))
def gFact6 (g : Nat → Int) (n : Int) (S : XF) : XF := fun xa be so cd sz fa pl => lf_b (F_X5_wordIn_s15 g xa be so) (fun r1 => (if r1 = (-1 : Int) then (lf_b (F_X5_sees g xa so (91 : Int)) (fun r2 => (if r2 = (0 : Int) then (lf4 (F_X5_takeWord_s16 g n xa be so) (fun r3 a b d => (if r3 = (0 : Int) then gCmp g n S a b d cd sz fa pl else (lf_p (F_X5_emit cd sz (1 : Int)) (fun z w => tup7 a b d fa pl z w))))) else (lf_p (gE6 xa fa pl) (fun _ t => (lf_p t (fun x y => tup7 n n (0 : Int) x y sz cd))))))) else (lf_p (gE6 xa fa pl) (fun _ t => (lf_p t (fun x y => tup7 n n (0 : Int) x y sz cd))))))
def sp_factD (g : Nat → Int) (n : Nat) (b : Bool) (S T Fq : Nat → CD → ST × CD) (p : Nat) (c : CD) : ST × CD := if ¬ wl g n ws_15 p = -1 then opn g n b p c (fun p1 c => ((Fq p1 c).1, em (Fq p1 c).2 (-31))) else if tx_k g n p = 3 ∧ g (tx_a g n p) = 91 then opn g n b p c (fun p1 c => (sb (T p1 c).1 (sp_need g n 93), (T p1 c).2)) else if ¬ wl g n ws_16 p = -1 then (.inr (tx_e g n p), em c 1) else spCmp g n S p c
theorem fact_ok {g : Nat → Int} {n : Nat} {b : Bool} {S T Fq : Nat → CD → ST × CD} (hS : okR n S) (hT : okR n T) (hF : okR n Fq) : okR n (sp_factD g n b S T Fq) := by
  intro p c hp
  unfold sp_factD
  split
  · rename_i r
    have hlt : p < tx_e g n p := tx_e_gt' (by have := wl_k r; omega)
    unfold opn
    split
    · dsimp only
      have h1 := hF (tx_e g n p) c (tx_e_le hp)
      exact ⟨h1.1, fun q r => by have := h1.2 q r; omega⟩
    · exact ⟨sv_l (by decide), fun q r => by cases r⟩
  · split
    · rename_i r
      have hlt : p < tx_e g n p := tx_e_gt' (by have := r.1; omega)
      unfold opn
      split
      · dsimp only
        have h1 := hT (tx_e g n p) c (tx_e_le hp)
        cases e1 : (T (tx_e g n p) c).1 with
        | inl q0 =>
          rw [e1] at h1
          exact ⟨h1.1, fun q r => by cases r⟩
        | inr p1 =>
          rw [e1] at h1
          have l1 := h1.2 p1 rfl
          exact ⟨sp_need_v 93 h1.1, fun q r => by have := sp_need_gt (show sp_need g n 93 p1 = .inr q from r); omega⟩
      · exact ⟨sv_l (by decide), fun q r => by cases r⟩
    · split
      · rename_i r
        refine ⟨tx_e_le hp, fun q e => ?_⟩
        cases e
        exact tx_e_gt' (by have := wl_k r; omega)
      · exact cmp_ok hS p c hp
/-- the way of a fact without a bracket or 'not' -/
theorem fact_rest {g : Nat → Int} {n p : Nat} {X : XF} {S : Nat → CD → ST × CD} {c : CD} (hn : n ≤ 1600) (hp : p ≤ n) (hX : meets g n X S) (hS : okR n S) : tellC g n (lf4 (F_X5_takeWord_s16 g (n : Int) (tx_a g n p : Int) (tx_e g n p : Int) (tx_k g n p : Int)) (fun r3 a b d => (if r3 = (0 : Int) then gCmp g (n : Int) X a b d c.2 c.1 (0 : Int) (-1 : Int) else (lf_p (F_X5_emit c.2 c.1 (1 : Int)) (fun z w => tup7 a b d (0 : Int) (-1 : Int) z w))))) (if ¬ wl g n ws_16 p = -1 then (.inr (tx_e g n p), em c 1) else spCmp g n S p c) := by
  by_cases q : wl g n ws_16 p = -1
  · rw [tw_1 (F_X5_takeWord_s16_t hn) hp q, if_neg (fun r => r q), lf4_e, if_pos rfl]
    exact gCmp_m hn hX hS (.inr p) c hp
  · rw [tw_2 (F_X5_takeWord_s16_t hn) hp q, if_pos q, lf4_e, if_neg (show ¬ (1 : Int) = 0 from by decide)]
    exact ⟨em c 1, rfl, fun _ _ => rfl⟩
theorem fact_rest0 {g : Nat → Int} {n : Nat} {X : XF} {S : Nat → CD → ST × CD} {c : CD} {q : Int × Int} (hn : n ≤ 1600) (h : ¬ q.1 = 0) (hX : meets g n X S) (hS : okR n S) : tellC g n (lf4 (F_X5_takeWord_s16 g (n : Int) (n : Int) (n : Int) (0 : Int)) (fun r3 a b d => (if r3 = (0 : Int) then gCmp g (n : Int) X a b d c.2 c.1 q.1 q.2 else (lf_p (F_X5_emit c.2 c.1 (1 : Int)) (fun z w => tup7 a b d q.1 q.2 z w))))) (.inl q, c) := by
  rw [(F_X5_takeWord_s16_t hn).2, lf4_e, if_pos rfl]
  exact gCmp_m hn hX hS (.inl q) c h
theorem gFact_m {g : Nat → Int} {n : Nat} {X Y Z : XF} {S T Fq : Nat → CD → ST × CD} (hn : n ≤ 1600) (hX : meets g n X S) (hS : okR n S) (hY : meets g n Y T) (hT : okR n T) (hZ : meets g n Z Fq) : meets g n (gFact g (n : Int) X Y Z) (sp_factD g n true S T Fq) := by
  intro s c hv
  cases s with
  | inl q =>
    show tellC g n (gFact g (n : Int) X Y Z (n : Int) (n : Int) (0 : Int) c.2 c.1 q.1 q.2) (.inl q, c)
    unfold gFact
    rw [lf_b_e, cl_w_15, if_neg (show ¬ (0 : Int) = 1 from by decide), if_pos rfl, lf_b_e, cl_seen, if_pos rfl]
    exact fact_rest0 hn hv hX hS
  | inr p =>
    show tellC g n (gFact g (n : Int) X Y Z (tx_a g n p : Int) (tx_e g n p : Int) (tx_k g n p : Int) c.2 c.1 (0 : Int) (-1 : Int)) (sp_factD g n true S T Fq p c)
    unfold gFact sp_factD
    rw [lf_b_e, cl_w_15, wl_c]
    by_cases q0 : wl g n ws_15 p = -1
    · rw [if_pos q0, if_neg (fun r => r q0), lf_b_e]
      by_cases q1 : tsn g n 91 p
      · rw [cl_see1 q1, if_neg (show ¬ (1 : Int) = 0 from by decide), if_pos (show tx_k g n p = 3 ∧ g (tx_a g n p) = 91 from q1)]
        rw [opn_t, gEnt_1 hn hv, lf4_e]
        have hv1 := hT (tx_e g n p) c (tx_e_le hv)
        obtain ⟨d1, e1, e2⟩ := hY (.inr (tx_e g n p)) c (tx_e_le hv)
        have e3 : Y (tx_a g n (tx_e g n p) : Int) (tx_e g n (tx_e g n p) : Int) (tx_k g n (tx_e g n p) : Int) c.2 c.1 (0 : Int) (-1 : Int) = ap5 (cst g n (T (tx_e g n p) c).1) d1 := e1
        have e4 : ∀ q, (T (tx_e g n p) c).1 = .inr q → d1 = (T (tx_e g n p) c).2 := e2
        rw [e3]
        generalize T (tx_e g n p) c = r1 at hv1 e4
        rw [lf7_e, cl_need_s hn hv1.1, lf5_e]
        refine ⟨d1, rfl, fun q r => ?_⟩
        cases e : r1.1 with
        | inl q0 =>
          have r' : sb r1.1 (sp_need g n 93) = .inr q := r
          rw [e] at r'
          cases r'
        | inr p3 => exact e4 p3 e
      · rw [cl_see0 q1, if_pos rfl, if_neg (show ¬ (tx_k g n p = 3 ∧ g (tx_a g n p) = 91) from q1)]
        exact fact_rest hn hv hX hS
    · rw [if_neg q0, if_pos q0]
      rw [opn_t, gEnt_1 hn hv, lf4_e]
      obtain ⟨d1, e1, e2⟩ := hZ (.inr (tx_e g n p)) c (tx_e_le hv)
      have e3 : Z (tx_a g n (tx_e g n p) : Int) (tx_e g n (tx_e g n p) : Int) (tx_k g n (tx_e g n p) : Int) c.2 c.1 (0 : Int) (-1 : Int) = ap5 (cst g n (Fq (tx_e g n p) c).1) d1 := e1
      have e4 : ∀ q, (Fq (tx_e g n p) c).1 = .inr q → d1 = (Fq (tx_e g n p) c).2 := e2
      rw [e3]
      exact ⟨em d1 (-31), rfl, fun q r => by rw [e4 q r]⟩
theorem gFact6_m {g : Nat → Int} {n : Nat} {X : XF} {S T Fq : Nat → CD → ST × CD} (hn : n ≤ 1600) (hX : meets g n X S) (hS : okR n S) : meets g n (gFact6 g (n : Int) X) (sp_factD g n false S T Fq) := by
  intro s c hv
  cases s with
  | inl q =>
    show tellC g n (gFact6 g (n : Int) X (n : Int) (n : Int) (0 : Int) c.2 c.1 q.1 q.2) (.inl q, c)
    unfold gFact6
    rw [lf_b_e, cl_w_15, if_neg (show ¬ (0 : Int) = 1 from by decide), if_pos rfl, lf_b_e, cl_seen, if_pos rfl]
    exact fact_rest0 hn hv hX hS
  | inr p =>
    show tellC g n (gFact6 g (n : Int) X (tx_a g n p : Int) (tx_e g n p : Int) (tx_k g n p : Int) c.2 c.1 (0 : Int) (-1 : Int)) (sp_factD g n false S T Fq p c)
    unfold gFact6 gE6 sp_factD
    rw [lf_b_e, cl_w_15, wl_c, cl_fail0]
    by_cases q0 : wl g n ws_15 p = -1
    · rw [if_pos q0, if_neg (fun r => r q0), lf_b_e]
      by_cases q1 : tsn g n 91 p
      · rw [cl_see1 q1, if_neg (show ¬ (1 : Int) = 0 from by decide), if_pos (show tx_k g n p = 3 ∧ g (tx_a g n p) = 91 from q1)]
        rw [opn_f]
        exact ⟨c, rfl, fun q r => by cases r⟩
      · rw [cl_see0 q1, if_pos rfl, if_neg (show ¬ (tx_k g n p = 3 ∧ g (tx_a g n p) = 91) from q1)]
        exact fact_rest hn hv hX hS
    · rw [if_neg q0, if_pos q0]
      rw [opn_f]
      exact ⟨c, rfl, fun q r => by cases r⟩
