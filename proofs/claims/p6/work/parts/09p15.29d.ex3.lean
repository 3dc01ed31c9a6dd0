/-! parts, pairs, facts -/
def lf5 {α : Type} (o : Int × Int × Int × Int × Int) (k : Int → Int → Int → Int → Int → α) : α := lf_p o (fun a t => lf_p t (fun b t => lf_p t (fun d t => lf_p t (fun f q => k a b d f q))))
def gEnt (g : Nat → Int) (n be : Int) : Int × Int × Int × Int := lf_p (F_X5_moveTo g n be) (fun a t => (lf_p t (fun b d => ((1 : Int), a, b, d))))
def lf4 {α : Type} (o : Int × Int × Int × Int) (k : Int → Int → Int → Int → α) : α := lf_p o (fun r t => lf_p t (fun a t => lf_p t (fun b d => k r a b d)))
theorem lf4_e {α : Type} (r a b d : Int) (k : Int → Int → Int → Int → α) : lf4 (r, a, b, d) k = k r a b d := rfl
theorem lf5_e {α : Type} (g : Nat → Int) (n : Nat) (s : ST) (k : Int → Int → Int → Int → Int → α) : lf5 (cst g n s) k = k (cst g n s).1 (cst g n s).2.1 (cst g n s).2.2.1 (cst g n s).2.2.2.1 (cst g n s).2.2.2.2 := rfl
theorem gEnt_1 {g : Nat → Int} {n p : Nat} (hn : n ≤ 1600) (hp : p ≤ n) : gEnt g (n : Int) (tx_e g n p : Int) = ((1 : Int), (tx_a g n (tx_e g n p) : Int), (tx_e g n (tx_e g n p) : Int), (tx_k g n (tx_e g n p) : Int)) := by
  unfold gEnt
  rw [cl_mve hn hp, lf_p_e, lf_p_e]
theorem run_sub {g : Nat → Int} {n : Nat} {X : XF} {sp : Nat → CD → ST × CD} (hX : meets g n X sp) {s : ST} {c c' : CD} (hv : sv n s) (h : ∀ q, s = .inr q → c = c') : tellC g n (runX g n X s c) (sbC s c' sp) := by
  cases s with
  | inl q =>
    obtain ⟨d, e1, e2⟩ := hX (.inl q) c hv
    exact ⟨d, e1, fun q r => by cases r⟩
  | inr p =>
    rw [← h p rfl]
    exact hX (.inr p) c hv
/-- a step deeper: what opens here, if it may -/
def opn (g : Nat → Int) (n : Nat) (b : Bool) (p : Nat) (c : CD) (k : Nat → CD → ST × CD) : ST × CD := if b = true then k (tx_e g n p) c else (.inl (4, (tx_a g n p : Int)), c)
theorem opn_t {g : Nat → Int} {n p : Nat} {c : CD} {k : Nat → CD → ST × CD} : opn g n true p c k = k (tx_e g n p) c := if_pos rfl
theorem opn_f {g : Nat → Int} {n p : Nat} {c : CD} {k : Nat → CD → ST × CD} : opn g n false p c k = (.inl (4, (tx_a g n p : Int)), c) := if_neg (fun r => Bool.noConfusion r)
def sp_pair (g : Nat → Int) (n : Nat) (b : Bool) (S : Nat → CD → ST × CD) (op : Int) (p : Nat) (c : CD) : ST × CD := if tx_k g n p = 3 ∧ g (tx_a g n p) = 40 then opn g n b p c (fun p1 c => (sb (sbC (sb (S p1 c).1 (sp_need g n 44)) (S p1 c).2 S).1 (sp_need g n 41), em (sbC (sb (S p1 c).1 (sp_need g n 44)) (S p1 c).2 S).2 op)) else (.inl (1, (tx_a g n p : Int)), c)
def gPair (g : Nat → Int) (n : Int) (S : XF) (xa be so : Int) (cd : Nat → Int) (sz fa pl op : Int) : XO := lf_b (F_X5_sees g xa so (40 : Int)) (fun r => (if r = (0 : Int) then (lf_p (F_X5_fail fa pl (1 : Int) xa) (fun x y => (n, n, (0 : Int), x, y, sz, cd))) else (lf4 (gEnt g n be) (fun _ a b d => (lf7 (S a b d cd sz fa pl) (fun a2 b2 d2 f2 q2 z2 w2 => (lf5 (F_X5_need g n a2 b2 d2 f2 q2 (44 : Int)) (fun a3 b3 d3 f3 q3 => (lf7 (S a3 b3 d3 w2 z2 f3 q3) (fun a4 b4 d4 f4 q4 z4 w4 => (lf5 (F_X5_need g n a4 b4 d4 f4 q4 (41 : Int)) (fun a5 b5 d5 f5 q5 => (lf_p (F_X5_emit w4 z4 op) (fun z6 w6 => (a5, b5, d5, f5, q5, z6, w6)))))))))))))))
theorem sp_need_gt {g : Nat → Int} {n p : Nat} {c : Int} {q : Nat} (h : sp_need g n c p = .inr q) : p < q := by
  unfold sp_need at h
  split at h
  · rename_i r
    cases h
    exact tx_e_gt' (by have := r.1; omega)
  · cases h
theorem sp_need_sv {g : Nat → Int} {n : Nat} {s : ST} {c : Int} (h : sv n s) : sv n (sb s (sp_need g n c)) := sv_sb h (fun _ hp => sp_need_v _ hp)
theorem pair_ok {g : Nat → Int} {n : Nat} {S : Nat → CD → ST × CD} {b : Bool} {op : Int} (h : okR n S) : okR n (sp_pair g n b S op) := by
  intro p c hp
  unfold sp_pair
  split
  · rename_i r
    have hlt : p < tx_e g n p := tx_e_gt' (by have := r.1; omega)
    unfold opn
    split
    · dsimp only
      have h1 := h (tx_e g n p) c (tx_e_le hp)
      cases e1 : (S (tx_e g n p) c).1 with
      | inl q0 =>
        rw [e1] at h1
        exact ⟨h1.1, fun q r => by cases r⟩
      | inr p1 =>
        rw [e1] at h1
        have l1 := h1.2 p1 rfl
        show sv n (sb (sbC (sp_need g n 44 p1) _ S).1 (sp_need g n 41)) ∧ ∀ q, sb (sbC (sp_need g n 44 p1) _ S).1 (sp_need g n 41) = .inr q → p < q
        have h2 := sp_need_v (g := g) 44 h1.1
        cases e2 : sp_need g n 44 p1 with
        | inl q0 =>
          rw [e2] at h2
          exact ⟨h2, fun q r => by cases r⟩
        | inr p2 =>
          rw [e2] at h2
          have l2 := sp_need_gt e2
          have h3 := h p2 (S (tx_e g n p) c).2 h2
          show sv n (sb (S p2 _).1 (sp_need g n 41)) ∧ ∀ q, sb (S p2 _).1 (sp_need g n 41) = .inr q → p < q
          cases e3 : (S p2 (S (tx_e g n p) c).2).1 with
          | inl q0 =>
            rw [e3] at h3
            exact ⟨h3.1, fun q r => by cases r⟩
          | inr p3 =>
            rw [e3] at h3
            have l3 := h3.2 p3 rfl
            exact ⟨sp_need_v 41 h3.1, fun q r => by have := sp_need_gt (show sp_need g n 41 p3 = .inr q from r); omega⟩
    · exact ⟨sv_l (by decide), fun q r => by cases r⟩
  · exact ⟨sv_l (by decide), fun q r => by cases r⟩
theorem gPair_1 {g : Nat → Int} {n p : Nat} {X : XF} {S : Nat → CD → ST × CD} {op : Int} {c : CD} (hn : n ≤ 1600) (hp : p ≤ n) (hX : meets g n X S) (hok : okR n S) : tellC g n (gPair g (n : Int) X (tx_a g n p : Int) (tx_e g n p : Int) (tx_k g n p : Int) c.2 c.1 (0 : Int) (-1 : Int) op) (sp_pair g n true S op p c) := by
  unfold gPair sp_pair
  rw [lf_b_e]
  by_cases q : tsn g n 40 p
  · rw [cl_see1 q, if_neg (show ¬ (1 : Int) = 0 from by decide), if_pos (show tx_k g n p = 3 ∧ g (tx_a g n p) = 40 from q), opn_t]
    rw [gEnt_1 hn hp, lf4_e]
    have hv := hok (tx_e g n p) c (tx_e_le hp)
    obtain ⟨d1, e1, e2⟩ := hX (.inr (tx_e g n p)) c (tx_e_le hp)
    have e3 : X (tx_a g n (tx_e g n p) : Int) (tx_e g n (tx_e g n p) : Int) (tx_k g n (tx_e g n p) : Int) c.2 c.1 (0 : Int) (-1 : Int) = ap5 (cst g n (S (tx_e g n p) c).1) d1 := e1
    have e4 : ∀ q, (S (tx_e g n p) c).1 = .inr q → d1 = (S (tx_e g n p) c).2 := e2
    rw [e3]
    generalize S (tx_e g n p) c = r1 at hv e4
    rw [lf7_e, cl_need_s hn hv.1, lf5_e]
    have hv2 : sv n (sb r1.1 (sp_need g n 44)) := sp_need_sv hv.1
    obtain ⟨d2, e5, e6⟩ := run_sub hX (c := d1) (c' := r1.2) hv2 (fun q r => by
      cases e : r1.1 with
      | inl q0 => rw [e] at r; cases r
      | inr p1 => exact e4 p1 e)
    show tellC g n (lf7 (runX g n X (sb r1.1 (sp_need g n 44)) d1) _) _
    rw [e5]
    have hv3 : sv n (sbC (sb r1.1 (sp_need g n 44)) r1.2 S).1 := by
      cases e : sb r1.1 (sp_need g n 44) with
      | inl q0 => rw [e] at hv2; exact hv2
      | inr p2 => rw [e] at hv2; exact (hok p2 r1.2 hv2).1
    generalize sbC (sb r1.1 (sp_need g n 44)) r1.2 S = r3 at hv3 e6
    rw [lf7_e, cl_need_s hn hv3, lf5_e]
    refine ⟨em d2 op, rfl, fun q r => ?_⟩
    cases e : r3.1 with
    | inl q0 =>
      have r' : sb r3.1 (sp_need g n 41) = .inr q := r
      rw [e] at r'
      cases r'
    | inr p3 =>
      show em d2 op = em r3.2 op
      rw [e6 p3 e]
  · rw [cl_see0 q, if_pos rfl, if_neg (show ¬ (tx_k g n p = 3 ∧ g (tx_a g n p) = 40) from q), cl_fail0]
    exact ⟨c, rfl, fun q r => by cases r⟩
/-- a word that tells a number -/
def sp_pw (g : Nat → Int) (n : Nat) (al : Int) (p : Nat) (c : CD) : ST × CD := if wl g n ws_20 p = -1 ∨ lf_o lf_iand (lf_o lf_ishr al (wl g n ws_20 p)) 1 = 0 then (.inl (1, (tx_a g n p : Int)), c) else (.inr (tx_e g n p), em c (-1 - wl g n ws_20 p))
theorem cl_pw1 {g : Nat → Int} {n p : Nat} {al : Int} {c : CD} (hn : n ≤ 1600) (hp : p ≤ n) : tellC g n (F_X5_partWord g (n : Int) (tx_a g n p : Int) (tx_e g n p : Int) (tx_k g n p : Int) al c.2 c.1 (0 : Int) (-1 : Int)) (sp_pw g n al p c) := by
  unfold F_X5_partWord F_X5_partWord_23 sp_pw
  rw [lf_b_e, cl_w_20, wl_c, cl_fail0, cl_mve hn hp]
  by_cases q : wl g n ws_20 p = -1
  · rw [if_pos q, if_pos (Or.inl q)]
    exact ⟨c, rfl, fun q r => by cases r⟩
  · rw [if_neg q]
    by_cases q2 : lf_o lf_iand (lf_o lf_ishr al (wl g n ws_20 p)) 1 = 0
    · rw [if_pos q2, if_pos (Or.inr q2)]
      exact ⟨c, rfl, fun q r => by cases r⟩
    · rw [if_neg q2, if_neg (fun r => r.elim q q2)]
      exact ⟨em c (-1 - wl g n ws_20 p), rfl, fun q r => rfl⟩
theorem cl_pw0 {g : Nat → Int} {n : Nat} {al f q : Int} {c : CD} (h : ¬ f = 0) : F_X5_partWord g (n : Int) (n : Int) (n : Int) (0 : Int) al c.2 c.1 f q = ap5 (cst g n (.inl (f, q))) c := by
  unfold F_X5_partWord F_X5_partWord_23
  rw [lf_b_e, cl_w_20, if_neg (show ¬ (0 : Int) = 1 from by decide), if_pos rfl, cl_fail1 h]
  rfl
theorem pw_ok {g : Nat → Int} {n : Nat} {al : Int} : okR n (sp_pw g n al) := by
  intro p c hp
  unfold sp_pw
  split
  · exact ⟨sv_l (by decide), fun q r => by cases r⟩
  · rename_i h
    refine ⟨tx_e_le hp, fun q r => ?_⟩
    cases r
    exact tx_e_gt' (by have := wl_k (fun e => h (Or.inl e)); omega)
